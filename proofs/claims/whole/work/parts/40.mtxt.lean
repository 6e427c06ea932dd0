theorem in_X11_nextSign_X11 : ∀ w ∈ u_ws RX11 TX11 20, w ∈ wsX11_nextSign := by decide +kernel
theorem fd_X11_nextSign_282 : fdk wsX11_nextSign RX11 282 "ZoneRelayModel" RX11 TX11 20 14 := ⟨in_X11_nextSign_X11, by decide +kernel, by decide, rfl⟩
theorem fd_X11_nextSign_278 : fdk wsX11_nextSign RX11 278 "ZoneRelayModel" RX11 TX11 20 5 := ⟨in_X11_nextSign_X11, by decide +kernel, by decide, rfl⟩
theorem fd_X11_nextSign_23 : fdk wsX11_nextSign RX11 23 "ZoneRelayModel" RX11 TX11 20 4 := ⟨in_X11_nextSign_X11, by decide +kernel, by decide, rfl⟩
abbrev rm_K_m_ns : Room := { frames := 0, cells := 0, slots := 0, locals := 0 }
set_option maxHeartbeats 1000000 in
set_option maxRecDepth 100000 in
theorem K_m_ns (l : Launch) (E : Ev) (Q : Nat → Nat) (pn f0 f1 f2 f3 px py pb rg wr rn wn : Int) (tx : Int → Int) (hch : ∀ k : Int, 0 ≤ k → k < pn → ch (tx k)) (hpn : 0 ≤ pn ∧ pn ≤ 80) (hrg : 0 ≤ rg ∧ rg ≤ pn) : Mc l yX11_nextSign wsX11_nextSign rm_K_m_ns E [vR (Q 0)] [((Q 0), .inr (12, [vR (Q 1), vR (Q 2), vR (Q 3), vR (Q 4), vR (Q 5), vI pn, vR (Q 6), vL f0, vL f1, vL f2, vL f3, vL px, vL py, vL pb, vI rg, vI wr, vR (Q 7), vI rn, vR (Q 8), vI wn])), ((Q 5), cI E 80 tx)] 0 0 (fun v9 w9 => v9 = some (vI (ns tx pn rg)) ∧ w9 = [((Q 0), .inr (12, [vR (Q 1), vR (Q 2), vR (Q 3), vR (Q 4), vR (Q 5), vI pn, vR (Q 6), vL f0, vL f1, vL f2, vL f3, vL px, vL py, vL pb, vI rg, vI wr, vR (Q 7), vI rn, vR (Q 8), vI wn])), ((Q 5), cI E 80 tx)]) := by
  refine Mc.intro (cc := cX11_nextSign) (maxL := 1) (ret := (some .int)) (lv0 := [(0, vR (Q 0))]) (by decide +kernel) rfl rfl (Nat.le_of_ble_eq_true rfl) ?_
  intro p9 e9 s9 m9 args9 below9 meth9 c9 A9 C hr hmn
  have C : Cx p9 s9 m9 args9 meth9 c9 E A9 1 cX11_nextSign wsX11_nextSign RX11 := C
  refine g_aload_n C 0 rfl dX11_nextSign_0 rfl ?_
  refine g_get C 0 fd_X11_nextSign_282 rfl rfl rfl dX11_nextSign_1 rfl ?_
  refine g_aload_n C 0 rfl dX11_nextSign_4 rfl ?_
  refine g_get C 0 fd_X11_nextSign_278 rfl rfl rfl dX11_nextSign_5 rfl ?_
  refine g_icmp_ge C (tgt := 23) ⟨by omega, by omega⟩ ⟨by omega, by omega⟩ dX11_nextSign_8 (by decide) rfl (fun c_1 => ?_) (fun c_1 => ?_)
  · refine g_iconst C dX11_nextSign_23 rfl ?_
    refine g_top (v' := vI (ns tx pn rg)) (congrArg (fun z_ : Int => vI z_) (show (ns tx pn rg) = 0 by unfold ns; (repeat' split) <;> first | rfl | omega | contradiction)) ?_
    exact g_iret C hr rfl (Nat.le_of_ble_eq_true rfl) (Nat.le_of_ble_eq_true rfl) dX11_nextSign_24 ⟨rfl, rfl⟩
  refine g_aload_n C 0 rfl dX11_nextSign_11 rfl ?_
  refine g_get C 0 fd_X11_nextSign_23 rfl rfl rfl dX11_nextSign_12 rfl ?_
  refine g_aload_n C 0 rfl dX11_nextSign_15 rfl ?_
  refine g_get C 0 fd_X11_nextSign_282 rfl rfl rfl dX11_nextSign_16 rfl ?_
  refine g_iald C 1 rfl (by omega) (by omega) (by decide) rfl dX11_nextSign_19 rfl ?_
  refine g_goto C (pc' := 24) dX11_nextSign_20 (by decide) ?_
  refine g_top (v' := vI (ns tx pn rg)) (congrArg (fun z_ : Int => vI z_) (show (ns tx pn rg) = (tx rg) by unfold ns; (repeat' split) <;> first | rfl | omega | contradiction)) ?_
  exact g_iret C hr rfl (Nat.le_of_ble_eq_true rfl) (Nat.le_of_ble_eq_true rfl) dX11_nextSign_24 ⟨rfl, rfl⟩

theorem in_X11_takesSign_X11 : ∀ w ∈ u_ws RX11 TX11 20, w ∈ wsX11_takesSign := by decide +kernel
theorem fd_X11_takesSign_285 : fdk wsX11_takesSign RX11 285 "ZoneRelayModel" RX11 TX11 20 15 := ⟨in_X11_takesSign_X11, by decide +kernel, by decide, rfl⟩
theorem hyd_X11_nextSign : yX11_nextSign.cls ≠ "java/lang/invoke/MethodHandle" ∧ yX11_nextSign.cls ≠ "java/lang/invoke/VarHandle" ∧ (parseMethodDescriptor yX11_nextSign.desc).map (fun d => d.parameters.length) = some 0 := by decide +kernel
abbrev rm_K_m_ts0 : Room := { frames := 1, cells := 0, slots := 0, locals := 20 }
set_option maxHeartbeats 1000000 in
set_option maxRecDepth 100000 in
theorem K_m_ts0 (l : Launch) (E : Ev) (Q : Nat → Nat) (pn f0 f1 f2 f3 px py pb rg wr rn wn : Int) (tx : Int → Int) (c : Int) (hch : ∀ k : Int, 0 ≤ k → k < pn → ch (tx k)) (hpn : 0 ≤ pn ∧ pn ≤ 80) (hrg : 0 ≤ rg ∧ rg ≤ pn) (hwr : wr = 0 ∨ wr = 1) (hk : ¬ (wr = 0 ∧ ns tx pn rg = c)) (hc : 0 ≤ c ∧ c ≤ 255) : Mc l yX11_takesSign wsX11_takesSign rm_K_m_ts0 E [vR (Q 0), vI c] [((Q 0), .inr (12, [vR (Q 1), vR (Q 2), vR (Q 3), vR (Q 4), vR (Q 5), vI pn, vR (Q 6), vL f0, vL f1, vL f2, vL f3, vL px, vL py, vL pb, vI rg, vI wr, vR (Q 7), vI rn, vR (Q 8), vI wn])), ((Q 5), cI E 80 tx)] 0 0 (fun v9 w9 => v9 = some (vI 0) ∧ w9 = [((Q 0), .inr (12, [vR (Q 1), vR (Q 2), vR (Q 3), vR (Q 4), vR (Q 5), vI pn, vR (Q 6), vL f0, vL f1, vL f2, vL f3, vL px, vL py, vL pb, vI rg, vI wr, vR (Q 7), vI rn, vR (Q 8), vI wn])), ((Q 5), cI E 80 tx)]) := by
  refine Mc.intro (cc := cX11_takesSign) (maxL := 2) (ret := (some .boolean)) (lv0 := [(0, vR (Q 0)), (1, vI c)]) (by decide +kernel) rfl rfl (Nat.le_of_ble_eq_true rfl) ?_
  intro p9 e9 s9 m9 args9 below9 meth9 c9 A9 C hr hmn
  have C : Cx p9 s9 m9 args9 meth9 c9 E A9 2 cX11_takesSign wsX11_takesSign RX11 := C
  have nsb := ns_b (r := rg) hch hrg.1
  refine g_aload_n C 0 rfl dX11_takesSign_0 rfl ?_
  refine g_get C 0 fd_X11_takesSign_285 rfl rfl rfl dX11_takesSign_1 rfl ?_
  refine g_if_ne C (tgt := 15) ⟨by omega, by omega⟩ dX11_takesSign_4 (by decide) rfl (fun c_1 => ?_) (fun c_1 => ?_)
  · refine g_iconst C dX11_takesSign_15 rfl ?_
    exact g_iret C hr (by decide) (Nat.le_of_ble_eq_true rfl) (Nat.le_of_ble_eq_true rfl) dX11_takesSign_16 ⟨rfl, rfl⟩
  refine g_aload_n C 0 rfl dX11_takesSign_7 rfl ?_
  refine g_callV C (b := (Q 0)) (mc := 0) (ms := 0) (rm := rm_K_m_ns) (As := []) (wc := [((Q 0), .inr (12, [vR (Q 1), vR (Q 2), vR (Q 3), vR (Q 4), vR (Q 5), vI pn, vR (Q 6), vL f0, vL f1, vL f2, vL f3, vL px, vL py, vL pb, vI rg, vI wr, vR (Q 7), vI rn, vR (Q 8), vI wn])), ((Q 5), cI E 80 tx)]) (wr := []) (st := []) gX11_takesSign_X11_nextSign (q9 := 0) (ci := 12) rfl rfl rfl (K_m_ns l E Q pn f0 f1 f2 f3 px py pb rg wr rn wn tx hch hpn hrg) hyd_X11_nextSign rfl [0, 1] [] rfl rfl rfl rfl rfl (by decide) ⟨rfl, rfl⟩ ⟨Nat.le_of_ble_eq_true rfl, Nat.le_of_ble_eq_true rfl, Nat.le_of_ble_eq_true rfl, Nat.le_of_ble_eq_true rfl⟩ (Nat.le_of_ble_eq_true rfl) dX11_takesSign_8 (rfl : _ = 0) (rfl : _ = 0) rfl ?_
  rintro _ _ ⟨rfl, rfl⟩
  refine g_is (ws' := [((Q 0), .inr (12, [vR (Q 1), vR (Q 2), vR (Q 3), vR (Q 4), vR (Q 5), vI pn, vR (Q 6), vL f0, vL f1, vL f2, vL f3, vL px, vL py, vL pb, vI rg, vI wr, vR (Q 7), vI rn, vR (Q 8), vI wn])), ((Q 5), cI E 80 tx)]) (st' := [vI (ns tx pn rg)]) rfl rfl ?_
  refine g_iload_n C 1 rfl dX11_takesSign_11 rfl ?_
  refine g_icmp_eq C (tgt := 17) (⟨by omega, by omega⟩) ⟨by omega, by omega⟩ dX11_takesSign_12 (by decide) rfl (fun c_2 => ?_) (fun c_2 => ?_)
  · exfalso; omega
  refine g_iconst C dX11_takesSign_15 rfl ?_
  exact g_iret C hr (by decide) (Nat.le_of_ble_eq_true rfl) (Nat.le_of_ble_eq_true rfl) dX11_takesSign_16 ⟨rfl, rfl⟩

theorem fd_X11_takesSign_282 : fdk wsX11_takesSign RX11 282 "ZoneRelayModel" RX11 TX11 20 14 := ⟨in_X11_takesSign_X11, by decide +kernel, by decide, rfl⟩
abbrev rm_K_m_ts1 : Room := { frames := 1, cells := 0, slots := 0, locals := 20 }
set_option maxHeartbeats 1000000 in
set_option maxRecDepth 100000 in
theorem K_m_ts1 (l : Launch) (E : Ev) (Q : Nat → Nat) (pn f0 f1 f2 f3 px py pb rg wr rn wn : Int) (tx : Int → Int) (c : Int) (hch : ∀ k : Int, 0 ≤ k → k < pn → ch (tx k)) (hpn : 0 ≤ pn ∧ pn ≤ 80) (hrg : 0 ≤ rg ∧ rg ≤ pn) (hwr : wr = 0 ∨ wr = 1) (hk : (wr = 0 ∧ ns tx pn rg = c)) (hc : 0 ≤ c ∧ c ≤ 255) : Mc l yX11_takesSign wsX11_takesSign rm_K_m_ts1 E [vR (Q 0), vI c] [((Q 0), .inr (12, [vR (Q 1), vR (Q 2), vR (Q 3), vR (Q 4), vR (Q 5), vI pn, vR (Q 6), vL f0, vL f1, vL f2, vL f3, vL px, vL py, vL pb, vI rg, vI wr, vR (Q 7), vI rn, vR (Q 8), vI wn])), ((Q 5), cI E 80 tx)] 0 0 (fun v9 w9 => v9 = some (vI 1) ∧ w9 = [((Q 0), .inr (12, [vR (Q 1), vR (Q 2), vR (Q 3), vR (Q 4), vR (Q 5), vI pn, vR (Q 6), vL f0, vL f1, vL f2, vL f3, vL px, vL py, vL pb, vI (rg + 1), vI wr, vR (Q 7), vI rn, vR (Q 8), vI wn])), ((Q 5), cI E 80 tx)]) := by
  refine Mc.intro (cc := cX11_takesSign) (maxL := 2) (ret := (some .boolean)) (lv0 := [(0, vR (Q 0)), (1, vI c)]) (by decide +kernel) rfl rfl (Nat.le_of_ble_eq_true rfl) ?_
  intro p9 e9 s9 m9 args9 below9 meth9 c9 A9 C hr hmn
  have C : Cx p9 s9 m9 args9 meth9 c9 E A9 2 cX11_takesSign wsX11_takesSign RX11 := C
  have nsb := ns_b (r := rg) hch hrg.1
  refine g_aload_n C 0 rfl dX11_takesSign_0 rfl ?_
  refine g_get C 0 fd_X11_takesSign_285 rfl rfl rfl dX11_takesSign_1 rfl ?_
  refine g_if_ne C (tgt := 15) ⟨by omega, by omega⟩ dX11_takesSign_4 (by decide) rfl (fun c_1 => ?_) (fun c_1 => ?_)
  · exfalso; omega
  refine g_aload_n C 0 rfl dX11_takesSign_7 rfl ?_
  refine g_callV C (b := (Q 0)) (mc := 0) (ms := 0) (rm := rm_K_m_ns) (As := []) (wc := [((Q 0), .inr (12, [vR (Q 1), vR (Q 2), vR (Q 3), vR (Q 4), vR (Q 5), vI pn, vR (Q 6), vL f0, vL f1, vL f2, vL f3, vL px, vL py, vL pb, vI rg, vI wr, vR (Q 7), vI rn, vR (Q 8), vI wn])), ((Q 5), cI E 80 tx)]) (wr := []) (st := []) gX11_takesSign_X11_nextSign (q9 := 0) (ci := 12) rfl rfl rfl (K_m_ns l E Q pn f0 f1 f2 f3 px py pb rg wr rn wn tx hch hpn hrg) hyd_X11_nextSign rfl [0, 1] [] rfl rfl rfl rfl rfl (by decide) ⟨rfl, rfl⟩ ⟨Nat.le_of_ble_eq_true rfl, Nat.le_of_ble_eq_true rfl, Nat.le_of_ble_eq_true rfl, Nat.le_of_ble_eq_true rfl⟩ (Nat.le_of_ble_eq_true rfl) dX11_takesSign_8 (rfl : _ = 0) (rfl : _ = 0) rfl ?_
  rintro _ _ ⟨rfl, rfl⟩
  refine g_is (ws' := [((Q 0), .inr (12, [vR (Q 1), vR (Q 2), vR (Q 3), vR (Q 4), vR (Q 5), vI pn, vR (Q 6), vL f0, vL f1, vL f2, vL f3, vL px, vL py, vL pb, vI rg, vI wr, vR (Q 7), vI rn, vR (Q 8), vI wn])), ((Q 5), cI E 80 tx)]) (st' := [vI (ns tx pn rg)]) rfl rfl ?_
  refine g_iload_n C 1 rfl dX11_takesSign_11 rfl ?_
  refine g_icmp_eq C (tgt := 17) (⟨by omega, by omega⟩) ⟨by omega, by omega⟩ dX11_takesSign_12 (by decide) rfl (fun c_2 => ?_) (fun c_2 => ?_)
  · refine g_aload_n C 0 rfl dX11_takesSign_17 rfl ?_
    refine g_dup C rfl dX11_takesSign_18 rfl ?_
    refine g_get C 0 fd_X11_takesSign_282 rfl rfl rfl dX11_takesSign_19 rfl ?_
    refine g_iconst C dX11_takesSign_22 rfl ?_
    refine g_iadd C rfl dX11_takesSign_23 rfl ?_
    refine g_put C tyX11 tyX11_ok nmX11 0 fd_X11_takesSign_282 rfl rfl rfl rfl rfl rfl (Nat.le_of_ble_eq_true rfl) (ws' := [((Q 0), .inr (12, [vR (Q 1), vR (Q 2), vR (Q 3), vR (Q 4), vR (Q 5), vI pn, vR (Q 6), vL f0, vL f1, vL f2, vL f3, vL px, vL py, vL pb, vI (rg + 1), vI wr, vR (Q 7), vI rn, vR (Q 8), vI wn])), ((Q 5), cI E 80 tx)]) rfl dX11_takesSign_24 rfl ?_
    refine g_iconst C dX11_takesSign_27 rfl ?_
    exact g_iret C hr (by decide) (Nat.le_of_ble_eq_true rfl) (Nat.le_of_ble_eq_true rfl) dX11_takesSign_28 ⟨rfl, rfl⟩
  exfalso; omega

theorem hyd_X11_takesSign : yX11_takesSign.cls ≠ "java/lang/invoke/MethodHandle" ∧ yX11_takesSign.cls ≠ "java/lang/invoke/VarHandle" ∧ (parseMethodDescriptor yX11_takesSign.desc).map (fun d => d.parameters.length) = some 1 := by decide +kernel
theorem in_X11_readNumber_X11 : ∀ w ∈ u_ws RX11 TX11 20, w ∈ wsX11_readNumber := by decide +kernel
theorem fd_X11_readNumber_285 : fdk wsX11_readNumber RX11 285 "ZoneRelayModel" RX11 TX11 20 15 := ⟨in_X11_readNumber_X11, by decide +kernel, by decide, rfl⟩
abbrev rm_K_m_rnW : Room := { frames := 2, cells := 0, slots := 0, locals := 41 }
set_option maxHeartbeats 1000000 in
set_option maxRecDepth 100000 in
theorem K_m_rnW (l : Launch) (E : Ev) (Q : Nat → Nat) (pn f0 f1 f2 f3 px py pb rg rn wn : Int) (tx : Int → Int) (hch : ∀ k : Int, 0 ≤ k → k < pn → ch (tx k)) (hpn : 0 ≤ pn ∧ pn ≤ 80) (hrg : 0 ≤ rg ∧ rg ≤ pn) : Mc l yX11_readNumber wsX11_readNumber rm_K_m_rnW E [vR (Q 0)] [((Q 0), .inr (12, [vR (Q 1), vR (Q 2), vR (Q 3), vR (Q 4), vR (Q 5), vI pn, vR (Q 6), vL f0, vL f1, vL f2, vL f3, vL px, vL py, vL pb, vI rg, vI 1, vR (Q 7), vI rn, vR (Q 8), vI wn])), ((Q 5), cI E 80 tx)] 0 0 (fun v9 w9 => v9 = some (vI 0) ∧ w9 = [((Q 0), .inr (12, [vR (Q 1), vR (Q 2), vR (Q 3), vR (Q 4), vR (Q 5), vI pn, vR (Q 6), vL f0, vL f1, vL f2, vL f3, vL px, vL py, vL pb, vI rg, vI 1, vR (Q 7), vI rn, vR (Q 8), vI wn])), ((Q 5), cI E 80 tx)]) := by
  refine Mc.intro (cc := cX11_readNumber) (maxL := 3) (ret := (some .int)) (lv0 := [(0, vR (Q 0))]) (by decide +kernel) rfl rfl (Nat.le_of_ble_eq_true rfl) ?_
  intro p9 e9 s9 m9 args9 below9 meth9 c9 A9 C hr hmn
  have C : Cx p9 s9 m9 args9 meth9 c9 E A9 3 cX11_readNumber wsX11_readNumber RX11 := C
  refine g_aload_n C 0 rfl dX11_readNumber_0 rfl ?_
  refine g_bipush C (by decide) dX11_readNumber_1 rfl ?_
  refine g_callV C (b := (Q 0)) (mc := 0) (ms := 0) (rm := rm_K_m_ts0) (As := [vI 45]) (wc := [((Q 0), .inr (12, [vR (Q 1), vR (Q 2), vR (Q 3), vR (Q 4), vR (Q 5), vI pn, vR (Q 6), vL f0, vL f1, vL f2, vL f3, vL px, vL py, vL pb, vI rg, vI 1, vR (Q 7), vI rn, vR (Q 8), vI wn])), ((Q 5), cI E 80 tx)]) (wr := []) (st := []) gX11_readNumber_X11_takesSign (q9 := 0) (ci := 12) rfl rfl rfl (K_m_ts0 l E Q pn f0 f1 f2 f3 px py pb rg 1 rn wn tx 45 hch hpn hrg (Or.inr rfl) (fun q => absurd q.1 (by decide)) ⟨by decide, by decide⟩) hyd_X11_takesSign rfl [0, 1] [] rfl rfl rfl rfl rfl (by decide) ⟨rfl, rfl⟩ ⟨Nat.le_of_ble_eq_true rfl, Nat.le_of_ble_eq_true rfl, Nat.le_of_ble_eq_true rfl, Nat.le_of_ble_eq_true rfl⟩ (Nat.le_of_ble_eq_true rfl) dX11_readNumber_3 (rfl : _ = 0) (rfl : _ = 0) rfl ?_
  rintro _ _ ⟨rfl, rfl⟩
  refine g_is (ws' := [((Q 0), .inr (12, [vR (Q 1), vR (Q 2), vR (Q 3), vR (Q 4), vR (Q 5), vI pn, vR (Q 6), vL f0, vL f1, vL f2, vL f3, vL px, vL py, vL pb, vI rg, vI 1, vR (Q 7), vI rn, vR (Q 8), vI wn])), ((Q 5), cI E 80 tx)]) (st' := [vI 0]) rfl rfl ?_
  refine g_istore_n C (lv' := [(0, vR (Q 0)), (1, vI 0)]) [1, 0] (by decide) rfl rfl dX11_readNumber_6 rfl ?_
  refine g_aload_n C 0 rfl dX11_readNumber_7 rfl ?_
  refine g_callV C (b := (Q 0)) (mc := 0) (ms := 0) (rm := rm_K_m_ns) (As := []) (wc := [((Q 0), .inr (12, [vR (Q 1), vR (Q 2), vR (Q 3), vR (Q 4), vR (Q 5), vI pn, vR (Q 6), vL f0, vL f1, vL f2, vL f3, vL px, vL py, vL pb, vI rg, vI 1, vR (Q 7), vI rn, vR (Q 8), vI wn])), ((Q 5), cI E 80 tx)]) (wr := []) (st := []) gX11_readNumber_X11_nextSign (q9 := 0) (ci := 12) rfl rfl rfl (K_m_ns l E Q pn f0 f1 f2 f3 px py pb rg 1 rn wn tx hch hpn hrg) hyd_X11_nextSign rfl [0, 1] [] rfl rfl rfl rfl rfl (by decide) ⟨rfl, rfl⟩ ⟨Nat.le_of_ble_eq_true rfl, Nat.le_of_ble_eq_true rfl, Nat.le_of_ble_eq_true rfl, Nat.le_of_ble_eq_true rfl⟩ (Nat.le_of_ble_eq_true rfl) dX11_readNumber_8 (rfl : _ = 0) (rfl : _ = 0) rfl ?_
  rintro _ _ ⟨rfl, rfl⟩
  refine g_is (ws' := [((Q 0), .inr (12, [vR (Q 1), vR (Q 2), vR (Q 3), vR (Q 4), vR (Q 5), vI pn, vR (Q 6), vL f0, vL f1, vL f2, vL f3, vL px, vL py, vL pb, vI rg, vI 1, vR (Q 7), vI rn, vR (Q 8), vI wn])), ((Q 5), cI E 80 tx)]) (st' := [vI (ns tx pn rg)]) rfl rfl ?_
  have nsb := ns_b (r := rg) hch hrg.1
  refine g_bipush C (by decide) dX11_readNumber_11 rfl ?_
  refine g_isub C rfl dX11_readNumber_13 rfl ?_
  refine g_istore_n C (lv' := [(0, vR (Q 0)), (1, vI 0), (2, vI ((ns tx pn rg) - 48))]) [1, 2, 0] (by decide) rfl rfl dX11_readNumber_14 rfl ?_
  refine g_aload_n C 0 rfl dX11_readNumber_15 rfl ?_
  refine g_get C 0 fd_X11_readNumber_285 rfl rfl rfl dX11_readNumber_16 rfl ?_
  refine g_if_ne C (tgt := 34) ⟨by decide, by decide⟩ dX11_readNumber_19 (by decide) rfl (fun c_1 => ?_) (fun c_1 => ?_)
  · refine g_aload_n C 0 rfl dX11_readNumber_34 rfl ?_
    refine g_iconst C dX11_readNumber_35 rfl ?_
    refine g_put C tyX11 tyX11_ok nmX11 0 fd_X11_readNumber_285 rfl rfl rfl rfl (by decide) (by decide) (Nat.le_of_ble_eq_true rfl) (ws' := [((Q 0), .inr (12, [vR (Q 1), vR (Q 2), vR (Q 3), vR (Q 4), vR (Q 5), vI pn, vR (Q 6), vL f0, vL f1, vL f2, vL f3, vL px, vL py, vL pb, vI rg, vI 1, vR (Q 7), vI rn, vR (Q 8), vI wn])), ((Q 5), cI E 80 tx)]) rfl dX11_readNumber_36 rfl ?_
    refine g_iconst C dX11_readNumber_39 rfl ?_
    exact g_iret C hr rfl (Nat.le_of_ble_eq_true rfl) (Nat.le_of_ble_eq_true rfl) dX11_readNumber_40 ⟨rfl, rfl⟩
  exact absurd c_1 (by decide)

theorem w_X11_readNumber_k247 : Cond.constantLong RX11 247 (9) ∈ wsX11_readNumber := by decide +kernel
theorem fd_X11_readNumber_282 : fdk wsX11_readNumber RX11 282 "ZoneRelayModel" RX11 TX11 20 14 := ⟨in_X11_readNumber_X11, by decide +kernel, by decide, rfl⟩
theorem w_X11_readNumber_k50 : Cond.constantLong RX11 50 (48) ∈ wsX11_readNumber := by decide +kernel
theorem w_X11_readNumber_k295 : Cond.constantLong RX11 295 (57) ∈ wsX11_readNumber := by decide +kernel
abbrev rm_K_m_rn : Room := { frames := 2, cells := 0, slots := 0, locals := 41 }
set_option maxHeartbeats 1000000 in
set_option maxRecDepth 100000 in
theorem K_m_rn (l : Launch) (E : Ev) (Q : Nat → Nat) (pn f0 f1 f2 f3 px py pb rg rn wn : Int) (tx X Y : Int → Int) (m w : Int) (hch : ∀ k : Int, 0 ≤ k → k < pn → ch (tx k)) (hpn : 0 ≤ pn ∧ pn ≤ 80) (hrg : 0 ≤ rg ∧ rg ≤ pn) : Mc l yX11_readNumber wsX11_readNumber rm_K_m_rn E [vR (Q 0)] [((Q 0), .inr (12, [vR (Q 1), vR (Q 2), vR (Q 3), vR (Q 4), vR (Q 5), vI pn, vR (Q 6), vL f0, vL f1, vL f2, vL f3, vL px, vL py, vL pb, vI rg, vI 0, vR (Q 7), vI rn, vR (Q 8), vI wn])), ((Q 5), cI E 80 tx)] 0 0 (fun v9 w9 => ∃ (r2 : Int) (w2 : Int) (x2 : Int), v9 = some (vI x2) ∧ w9 = [((Q 0), .inr (12, [vR (Q 1), vR (Q 2), vR (Q 3), vR (Q 4), vR (Q 5), vI pn, vR (Q 6), vL f0, vL f1, vL f2, vL f3, vL px, vL py, vL pb, vI r2, vI w2, vR (Q 7), vI rn, vR (Q 8), vI wn])), ((Q 5), cI E 80 tx)] ∧ RN tx pn rg m w X Y r2 w2 x2 ∧ (rg ≤ r2 ∧ r2 ≤ pn) ∧ (w2 = 0 ∨ w2 = 1) ∧ cb x2) := by
  refine Mc.intro (cc := cX11_readNumber) (maxL := 3) (ret := (some .int)) (lv0 := [(0, vR (Q 0))]) (by decide +kernel) rfl rfl (Nat.le_of_ble_eq_true rfl) ?_
  intro p9 e9 s9 m9 args9 below9 meth9 c9 A9 C hr hmn
  have C : Cx p9 s9 m9 args9 meth9 c9 E A9 3 cX11_readNumber wsX11_readNumber RX11 := C
  by_cases h45 : ns tx pn rg = 45
  · refine g_aload_n C 0 rfl dX11_readNumber_0 rfl ?_
    refine g_bipush C (by decide) dX11_readNumber_1 rfl ?_
    refine g_callV C (b := (Q 0)) (mc := 0) (ms := 0) (rm := rm_K_m_ts1) (As := [vI 45]) (wc := [((Q 0), .inr (12, [vR (Q 1), vR (Q 2), vR (Q 3), vR (Q 4), vR (Q 5), vI pn, vR (Q 6), vL f0, vL f1, vL f2, vL f3, vL px, vL py, vL pb, vI rg, vI 0, vR (Q 7), vI rn, vR (Q 8), vI wn])), ((Q 5), cI E 80 tx)]) (wr := []) (st := []) gX11_readNumber_X11_takesSign (q9 := 0) (ci := 12) rfl rfl rfl (K_m_ts1 l E Q pn f0 f1 f2 f3 px py pb rg 0 rn wn tx 45 hch hpn hrg (Or.inl rfl) ⟨rfl, h45⟩ ⟨by decide, by decide⟩) hyd_X11_takesSign rfl [0, 1] [] rfl rfl rfl rfl rfl (by decide) ⟨rfl, rfl⟩ ⟨Nat.le_of_ble_eq_true rfl, Nat.le_of_ble_eq_true rfl, Nat.le_of_ble_eq_true rfl, Nat.le_of_ble_eq_true rfl⟩ (Nat.le_of_ble_eq_true rfl) dX11_readNumber_3 (rfl : _ = 0) (rfl : _ = 0) rfl ?_
    rintro _ _ ⟨rfl, rfl⟩
    refine g_is (ws' := [((Q 0), .inr (12, [vR (Q 1), vR (Q 2), vR (Q 3), vR (Q 4), vR (Q 5), vI pn, vR (Q 6), vL f0, vL f1, vL f2, vL f3, vL px, vL py, vL pb, vI (rg + 1), vI 0, vR (Q 7), vI rn, vR (Q 8), vI wn])), ((Q 5), cI E 80 tx)]) (st' := [vI 1]) rfl rfl ?_
    refine g_istore_n C (lv' := [(0, vR (Q 0)), (1, vI 1)]) [1, 0] (by decide) rfl rfl dX11_readNumber_6 rfl ?_
    refine g_aload_n C 0 rfl dX11_readNumber_7 rfl ?_
    refine g_callV C (b := (Q 0)) (mc := 0) (ms := 0) (rm := rm_K_m_ns) (As := []) (wc := [((Q 0), .inr (12, [vR (Q 1), vR (Q 2), vR (Q 3), vR (Q 4), vR (Q 5), vI pn, vR (Q 6), vL f0, vL f1, vL f2, vL f3, vL px, vL py, vL pb, vI (rg + 1), vI 0, vR (Q 7), vI rn, vR (Q 8), vI wn])), ((Q 5), cI E 80 tx)]) (wr := []) (st := []) gX11_readNumber_X11_nextSign (q9 := 0) (ci := 12) rfl rfl rfl (K_m_ns l E Q pn f0 f1 f2 f3 px py pb (rg + 1) 0 rn wn tx hch hpn ⟨by omega, by have := ns_lt (t := tx) (n := pn) (r := rg) (by omega); omega⟩) hyd_X11_nextSign rfl [0, 1] [] rfl rfl rfl rfl rfl (by decide) ⟨rfl, rfl⟩ ⟨Nat.le_of_ble_eq_true rfl, Nat.le_of_ble_eq_true rfl, Nat.le_of_ble_eq_true rfl, Nat.le_of_ble_eq_true rfl⟩ (Nat.le_of_ble_eq_true rfl) dX11_readNumber_8 (rfl : _ = 0) (rfl : _ = 0) rfl ?_
    rintro _ _ ⟨rfl, rfl⟩
    refine g_is (ws' := [((Q 0), .inr (12, [vR (Q 1), vR (Q 2), vR (Q 3), vR (Q 4), vR (Q 5), vI pn, vR (Q 6), vL f0, vL f1, vL f2, vL f3, vL px, vL py, vL pb, vI (rg + 1), vI 0, vR (Q 7), vI rn, vR (Q 8), vI wn])), ((Q 5), cI E 80 tx)]) (st' := [vI (ns tx pn (rg + 1))]) rfl rfl ?_
    have nsx8 := ns_b (r := rg + 1) hch (by omega)
    refine g_bipush C (by decide) dX11_readNumber_11 rfl ?_
    refine g_isub C rfl dX11_readNumber_13 rfl ?_
    refine g_istore_n C (lv' := [(0, vR (Q 0)), (1, vI 1), (2, vI ((ns tx pn (rg + 1)) - 48))]) [1, 2, 0] (by decide) rfl rfl dX11_readNumber_14 rfl ?_
    refine g_aload_n C 0 rfl dX11_readNumber_15 rfl ?_
    refine g_get C 0 fd_X11_readNumber_285 rfl rfl rfl dX11_readNumber_16 rfl ?_
    refine g_if_ne C (tgt := 34) ⟨by decide, by decide⟩ dX11_readNumber_19 (by decide) rfl (fun c_1 => ?_) (fun c_1 => ?_)
    · exact absurd c_1 (by decide)
    refine g_iload_n C 2 rfl dX11_readNumber_22 rfl ?_
    refine g_i2l C ⟨by omega, by omega⟩ rfl dX11_readNumber_23 rfl ?_
    refine g_lconst0 C dX11_readNumber_24 rfl ?_
    refine g_ldc2 C (x := 9) w_X11_readNumber_k247 (by decide) dX11_readNumber_25 rfl ?_
    refine g_callS C (mc := 0) (ms := 0) (rm := rm_K_m_in) (As := [vL ((ns tx pn (rg + 1)) - 48), vL 0, vL 9]) (wc := []) (wr := [((Q 0), .inr (12, [vR (Q 1), vR (Q 2), vR (Q 3), vR (Q 4), vR (Q 5), vI pn, vR (Q 6), vL f0, vL f1, vL f2, vL f3, vL px, vL py, vL pb, vI (rg + 1), vI 0, vR (Q 7), vI rn, vR (Q 8), vI wn])), ((Q 5), cI E 80 tx)]) (st := []) gX11_readNumber_X11_in rfl (K_m_in l E ((ns tx pn (rg + 1)) - 48) 0 9 ⟨by omega, by omega⟩ ⟨by omega, by omega⟩ ⟨by omega, by omega⟩) hyd_X11_in rfl [] [0, 1] rfl rfl rfl rfl rfl (by decide) ⟨rfl, rfl⟩ ⟨Nat.le_of_ble_eq_true rfl, Nat.le_of_ble_eq_true rfl, Nat.le_of_ble_eq_true rfl, Nat.le_of_ble_eq_true rfl⟩ (Nat.le_of_ble_eq_true rfl) dX11_readNumber_28 (rfl : _ = 0) (rfl : _ = 0) rfl ?_
    rintro _ _ ⟨rfl, rfl⟩
    refine g_is (ws' := [((Q 0), .inr (12, [vR (Q 1), vR (Q 2), vR (Q 3), vR (Q 4), vR (Q 5), vI pn, vR (Q 6), vL f0, vL f1, vL f2, vL f3, vL px, vL py, vL pb, vI (rg + 1), vI 0, vR (Q 7), vI rn, vR (Q 8), vI wn])), ((Q 5), cI E 80 tx)]) (st' := [vI (bP (0 ≤ ((ns tx pn (rg + 1)) - 48) ∧ ((ns tx pn (rg + 1)) - 48) ≤ 9))]) rfl rfl ?_
    refine g_ifb_ne C (tgt := 41) dX11_readNumber_31 (by decide) rfl (fun c_2 => ?_) (fun c_2 => ?_)
    · refine g_aload_n C 0 rfl dX11_readNumber_41 rfl ?_
      refine g_dup C rfl dX11_readNumber_42 rfl ?_
      refine g_get C 0 fd_X11_readNumber_282 rfl rfl rfl dX11_readNumber_43 rfl ?_
      refine g_iconst C dX11_readNumber_46 rfl ?_
      refine g_iadd C rfl dX11_readNumber_47 rfl ?_
      refine g_put C tyX11 tyX11_ok nmX11 0 fd_X11_readNumber_282 rfl rfl rfl rfl rfl rfl (Nat.le_of_ble_eq_true rfl) (ws' := [((Q 0), .inr (12, [vR (Q 1), vR (Q 2), vR (Q 3), vR (Q 4), vR (Q 5), vI pn, vR (Q 6), vL f0, vL f1, vL f2, vL f3, vL px, vL py, vL pb, vI ((rg + 1) + 1), vI 0, vR (Q 7), vI rn, vR (Q 8), vI wn])), ((Q 5), cI E 80 tx)]) rfl dX11_readNumber_48 rfl ?_
      have hL_51 : ∀ (fuel : Nat) (r9 : Int) (g9 : Int) (v9 : Int) (hr9 : rg ≤ r9 ∧ r9 ≤ pn) (hg9 : g9 = 0 ∨ g9 = 1) (hv9 : 0 ≤ v9 ∧ v9 ≤ 20000) (hW : RW tx pn rg m w X Y r9 g9 v9) (hfu : (pn - r9).toNat = fuel), G p9 l e9 rm_K_m_rn s9 m9 args9 below9 meth9 c9 (RQ E (fun v9 w9 => ∃ (r2 : Int) (w2 : Int) (x2 : Int), v9 = some (vI x2) ∧ w9 = [((Q 0), .inr (12, [vR (Q 1), vR (Q 2), vR (Q 3), vR (Q 4), vR (Q 5), vI pn, vR (Q 6), vL f0, vL f1, vL f2, vL f3, vL px, vL py, vL pb, vI r2, vI w2, vR (Q 7), vI rn, vR (Q 8), vI wn])), ((Q 5), cI E 80 tx)] ∧ RN tx pn rg m w X Y r2 w2 x2 ∧ (rg ≤ r2 ∧ r2 ≤ pn) ∧ (w2 = 0 ∨ w2 = 1) ∧ cb x2) A9 below9 args9 s9 0 0) E A9 3 0 0 [((Q 0), .inr (12, [vR (Q 1), vR (Q 2), vR (Q 3), vR (Q 4), vR (Q 5), vI pn, vR (Q 6), vL f0, vL f1, vL f2, vL f3, vL px, vL py, vL pb, vI r9, vI 0, vR (Q 7), vI rn, vR (Q 8), vI wn])), ((Q 5), cI E 80 tx)] [(0, vR (Q 0)), (1, vI g9), (2, vI v9)] 51 [] := by
        intro fuel
        induction fuel using Nat.strongRecOn with
        | ind fuel ih =>
          intro r9 g9 v9 hr9 hg9 hv9 hW hfu
          refine g_iload_n C 2 rfl dX11_readNumber_51 rfl ?_
          refine g_if_le C (tgt := 116) ⟨by omega, by omega⟩ dX11_readNumber_52 (by decide) rfl (fun c_3 => ?_) (fun c_3 => ?_)
          · refine g_iload_n C 1 rfl dX11_readNumber_116 rfl ?_
            refine g_if_eq C (tgt := 125) ⟨by omega, by omega⟩ dX11_readNumber_117 (by decide) rfl (fun c_4 => ?_) (fun c_4 => ?_)
            · refine g_iload_n C 2 rfl dX11_readNumber_125 rfl ?_
              exact g_iret C hr rfl (Nat.le_of_ble_eq_true rfl) (Nat.le_of_ble_eq_true rfl) dX11_readNumber_126 ⟨r9, 0, v9, rfl, rfl, (by exact RW_e hW hg9 hv9 (by unfold num; (repeat' split) <;> omega) (by first | exact Or.inl (by omega) | exact Or.inr (Or.inl (by assumption)) | exact Or.inr (Or.inr (by omega)))), (by first | omega | (have q9 := ns_lt (t := tx) (n := pn) (r := rg) (by omega); omega)), (by first | exact Or.inl rfl | exact Or.inr rfl), (by constructor <;> omega)⟩
            refine g_iload_n C 2 rfl dX11_readNumber_120 rfl ?_
            refine g_ineg C rfl dX11_readNumber_121 rfl ?_
            refine g_goto C (pc' := 126) dX11_readNumber_122 (by decide) ?_
            exact g_iret C hr rfl (Nat.le_of_ble_eq_true rfl) (Nat.le_of_ble_eq_true rfl) dX11_readNumber_126 ⟨r9, 0, (-v9), rfl, rfl, (by exact RW_e hW hg9 hv9 (by unfold num; (repeat' split) <;> omega) (by first | exact Or.inl (by omega) | exact Or.inr (Or.inl (by assumption)) | exact Or.inr (Or.inr (by omega)))), (by first | omega | (have q9 := ns_lt (t := tx) (n := pn) (r := rg) (by omega); omega)), (by first | exact Or.inl rfl | exact Or.inr rfl), (by constructor <;> omega)⟩
          refine g_aload_n C 0 rfl dX11_readNumber_55 rfl ?_
          refine g_callV C (b := (Q 0)) (mc := 0) (ms := 0) (rm := rm_K_m_ns) (As := []) (wc := [((Q 0), .inr (12, [vR (Q 1), vR (Q 2), vR (Q 3), vR (Q 4), vR (Q 5), vI pn, vR (Q 6), vL f0, vL f1, vL f2, vL f3, vL px, vL py, vL pb, vI r9, vI 0, vR (Q 7), vI rn, vR (Q 8), vI wn])), ((Q 5), cI E 80 tx)]) (wr := []) (st := []) gX11_readNumber_X11_nextSign (q9 := 0) (ci := 12) rfl rfl rfl (K_m_ns l E Q pn f0 f1 f2 f3 px py pb r9 0 rn wn tx hch hpn ⟨by omega, by omega⟩) hyd_X11_nextSign rfl [0, 1] [] rfl rfl rfl rfl rfl (by decide) ⟨rfl, rfl⟩ ⟨Nat.le_of_ble_eq_true rfl, Nat.le_of_ble_eq_true rfl, Nat.le_of_ble_eq_true rfl, Nat.le_of_ble_eq_true rfl⟩ (Nat.le_of_ble_eq_true rfl) dX11_readNumber_56 (rfl : _ = 0) (rfl : _ = 0) rfl ?_
          rintro _ _ ⟨rfl, rfl⟩
          refine g_is (ws' := [((Q 0), .inr (12, [vR (Q 1), vR (Q 2), vR (Q 3), vR (Q 4), vR (Q 5), vI pn, vR (Q 6), vL f0, vL f1, vL f2, vL f3, vL px, vL py, vL pb, vI r9, vI 0, vR (Q 7), vI rn, vR (Q 8), vI wn])), ((Q 5), cI E 80 tx)]) (st' := [vI (ns tx pn r9)]) rfl rfl ?_
          have nsy56 := ns_b (r := r9) hch (by omega)
          refine g_i2l C ⟨by omega, by omega⟩ rfl dX11_readNumber_59 rfl ?_
          refine g_ldc2 C (x := 48) w_X11_readNumber_k50 (by decide) dX11_readNumber_60 rfl ?_
          refine g_ldc2 C (x := 57) w_X11_readNumber_k295 (by decide) dX11_readNumber_63 rfl ?_
          refine g_callS C (mc := 0) (ms := 0) (rm := rm_K_m_in) (As := [vL (ns tx pn r9), vL 48, vL 57]) (wc := []) (wr := [((Q 0), .inr (12, [vR (Q 1), vR (Q 2), vR (Q 3), vR (Q 4), vR (Q 5), vI pn, vR (Q 6), vL f0, vL f1, vL f2, vL f3, vL px, vL py, vL pb, vI r9, vI 0, vR (Q 7), vI rn, vR (Q 8), vI wn])), ((Q 5), cI E 80 tx)]) (st := []) gX11_readNumber_X11_in rfl (K_m_in l E (ns tx pn r9) 48 57 ⟨by omega, by omega⟩ ⟨by omega, by omega⟩ ⟨by omega, by omega⟩) hyd_X11_in rfl [] [0, 1] rfl rfl rfl rfl rfl (by decide) ⟨rfl, rfl⟩ ⟨Nat.le_of_ble_eq_true rfl, Nat.le_of_ble_eq_true rfl, Nat.le_of_ble_eq_true rfl, Nat.le_of_ble_eq_true rfl⟩ (Nat.le_of_ble_eq_true rfl) dX11_readNumber_66 (rfl : _ = 0) (rfl : _ = 0) rfl ?_
          rintro _ _ ⟨rfl, rfl⟩
          refine g_is (ws' := [((Q 0), .inr (12, [vR (Q 1), vR (Q 2), vR (Q 3), vR (Q 4), vR (Q 5), vI pn, vR (Q 6), vL f0, vL f1, vL f2, vL f3, vL px, vL py, vL pb, vI r9, vI 0, vR (Q 7), vI rn, vR (Q 8), vI wn])), ((Q 5), cI E 80 tx)]) (st' := [vI (bP (48 ≤ (ns tx pn r9) ∧ (ns tx pn r9) ≤ 57))]) rfl rfl ?_
          refine g_ifb_eq C (tgt := 116) dX11_readNumber_69 (by decide) rfl (fun c_5 => ?_) (fun c_5 => ?_)
          · refine g_iload_n C 1 rfl dX11_readNumber_116 rfl ?_
            refine g_if_eq C (tgt := 125) ⟨by omega, by omega⟩ dX11_readNumber_117 (by decide) rfl (fun c_6 => ?_) (fun c_6 => ?_)
            · refine g_iload_n C 2 rfl dX11_readNumber_125 rfl ?_
              exact g_iret C hr rfl (Nat.le_of_ble_eq_true rfl) (Nat.le_of_ble_eq_true rfl) dX11_readNumber_126 ⟨r9, 0, v9, rfl, rfl, (by exact RW_e hW hg9 hv9 (by unfold num; (repeat' split) <;> omega) (by first | exact Or.inl (by omega) | exact Or.inr (Or.inl (by assumption)) | exact Or.inr (Or.inr (by omega)))), (by first | omega | (have q9 := ns_lt (t := tx) (n := pn) (r := rg) (by omega); omega)), (by first | exact Or.inl rfl | exact Or.inr rfl), (by constructor <;> omega)⟩
            refine g_iload_n C 2 rfl dX11_readNumber_120 rfl ?_
            refine g_ineg C rfl dX11_readNumber_121 rfl ?_
            refine g_goto C (pc' := 126) dX11_readNumber_122 (by decide) ?_
            exact g_iret C hr rfl (Nat.le_of_ble_eq_true rfl) (Nat.le_of_ble_eq_true rfl) dX11_readNumber_126 ⟨r9, 0, (-v9), rfl, rfl, (by exact RW_e hW hg9 hv9 (by unfold num; (repeat' split) <;> omega) (by first | exact Or.inl (by omega) | exact Or.inr (Or.inl (by assumption)) | exact Or.inr (Or.inr (by omega)))), (by first | omega | (have q9 := ns_lt (t := tx) (n := pn) (r := rg) (by omega); omega)), (by first | exact Or.inl rfl | exact Or.inr rfl), (by constructor <;> omega)⟩
          refine g_bipush C (by decide) dX11_readNumber_72 rfl ?_
          refine g_iload_n C 2 rfl dX11_readNumber_74 rfl ?_
          refine g_imul C rfl dX11_readNumber_75 rfl ?_
          refine g_aload_n C 0 rfl dX11_readNumber_76 rfl ?_
          refine g_callV C (b := (Q 0)) (mc := 0) (ms := 0) (rm := rm_K_m_ns) (As := []) (wc := [((Q 0), .inr (12, [vR (Q 1), vR (Q 2), vR (Q 3), vR (Q 4), vR (Q 5), vI pn, vR (Q 6), vL f0, vL f1, vL f2, vL f3, vL px, vL py, vL pb, vI r9, vI 0, vR (Q 7), vI rn, vR (Q 8), vI wn])), ((Q 5), cI E 80 tx)]) (wr := []) (st := [vI (10 * v9)]) gX11_readNumber_X11_nextSign (q9 := 0) (ci := 12) rfl rfl rfl (K_m_ns l E Q pn f0 f1 f2 f3 px py pb r9 0 rn wn tx hch hpn ⟨by omega, by omega⟩) hyd_X11_nextSign rfl [0, 1] [] rfl rfl rfl rfl rfl (by decide) ⟨rfl, rfl⟩ ⟨Nat.le_of_ble_eq_true rfl, Nat.le_of_ble_eq_true rfl, Nat.le_of_ble_eq_true rfl, Nat.le_of_ble_eq_true rfl⟩ (Nat.le_of_ble_eq_true rfl) dX11_readNumber_77 (rfl : _ = 0) (rfl : _ = 0) rfl ?_
          rintro _ _ ⟨rfl, rfl⟩
          refine g_is (ws' := [((Q 0), .inr (12, [vR (Q 1), vR (Q 2), vR (Q 3), vR (Q 4), vR (Q 5), vI pn, vR (Q 6), vL f0, vL f1, vL f2, vL f3, vL px, vL py, vL pb, vI r9, vI 0, vR (Q 7), vI rn, vR (Q 8), vI wn])), ((Q 5), cI E 80 tx)]) (st' := [vI (ns tx pn r9), vI (10 * v9)]) rfl rfl ?_
          refine g_iadd C rfl dX11_readNumber_80 rfl ?_
          refine g_bipush C (by decide) dX11_readNumber_81 rfl ?_
          refine g_isub C rfl dX11_readNumber_83 rfl ?_
          refine g_sipush C (by decide) dX11_readNumber_84 rfl ?_
          refine g_icmp_gt C (tgt := 116) ⟨by omega, by omega⟩ ⟨by decide, by decide⟩ dX11_readNumber_87 (by decide) rfl (fun c_7 => ?_) (fun c_7 => ?_)
          · refine g_iload_n C 1 rfl dX11_readNumber_116 rfl ?_
            refine g_if_eq C (tgt := 125) ⟨by omega, by omega⟩ dX11_readNumber_117 (by decide) rfl (fun c_8 => ?_) (fun c_8 => ?_)
            · refine g_iload_n C 2 rfl dX11_readNumber_125 rfl ?_
              exact g_iret C hr rfl (Nat.le_of_ble_eq_true rfl) (Nat.le_of_ble_eq_true rfl) dX11_readNumber_126 ⟨r9, 0, v9, rfl, rfl, (by exact RW_e hW hg9 hv9 (by unfold num; (repeat' split) <;> omega) (by first | exact Or.inl (by omega) | exact Or.inr (Or.inl (by assumption)) | exact Or.inr (Or.inr (by omega)))), (by first | omega | (have q9 := ns_lt (t := tx) (n := pn) (r := rg) (by omega); omega)), (by first | exact Or.inl rfl | exact Or.inr rfl), (by constructor <;> omega)⟩
            refine g_iload_n C 2 rfl dX11_readNumber_120 rfl ?_
            refine g_ineg C rfl dX11_readNumber_121 rfl ?_
            refine g_goto C (pc' := 126) dX11_readNumber_122 (by decide) ?_
            exact g_iret C hr rfl (Nat.le_of_ble_eq_true rfl) (Nat.le_of_ble_eq_true rfl) dX11_readNumber_126 ⟨r9, 0, (-v9), rfl, rfl, (by exact RW_e hW hg9 hv9 (by unfold num; (repeat' split) <;> omega) (by first | exact Or.inl (by omega) | exact Or.inr (Or.inl (by assumption)) | exact Or.inr (Or.inr (by omega)))), (by first | omega | (have q9 := ns_lt (t := tx) (n := pn) (r := rg) (by omega); omega)), (by first | exact Or.inl rfl | exact Or.inr rfl), (by constructor <;> omega)⟩
          refine g_bipush C (by decide) dX11_readNumber_90 rfl ?_
          refine g_iload_n C 2 rfl dX11_readNumber_92 rfl ?_
          refine g_imul C rfl dX11_readNumber_93 rfl ?_
          refine g_aload_n C 0 rfl dX11_readNumber_94 rfl ?_
          refine g_callV C (b := (Q 0)) (mc := 0) (ms := 0) (rm := rm_K_m_ns) (As := []) (wc := [((Q 0), .inr (12, [vR (Q 1), vR (Q 2), vR (Q 3), vR (Q 4), vR (Q 5), vI pn, vR (Q 6), vL f0, vL f1, vL f2, vL f3, vL px, vL py, vL pb, vI r9, vI 0, vR (Q 7), vI rn, vR (Q 8), vI wn])), ((Q 5), cI E 80 tx)]) (wr := []) (st := [vI (10 * v9)]) gX11_readNumber_X11_nextSign (q9 := 0) (ci := 12) rfl rfl rfl (K_m_ns l E Q pn f0 f1 f2 f3 px py pb r9 0 rn wn tx hch hpn ⟨by omega, by omega⟩) hyd_X11_nextSign rfl [0, 1] [] rfl rfl rfl rfl rfl (by decide) ⟨rfl, rfl⟩ ⟨Nat.le_of_ble_eq_true rfl, Nat.le_of_ble_eq_true rfl, Nat.le_of_ble_eq_true rfl, Nat.le_of_ble_eq_true rfl⟩ (Nat.le_of_ble_eq_true rfl) dX11_readNumber_95 (rfl : _ = 0) (rfl : _ = 0) rfl ?_
          rintro _ _ ⟨rfl, rfl⟩
          refine g_is (ws' := [((Q 0), .inr (12, [vR (Q 1), vR (Q 2), vR (Q 3), vR (Q 4), vR (Q 5), vI pn, vR (Q 6), vL f0, vL f1, vL f2, vL f3, vL px, vL py, vL pb, vI r9, vI 0, vR (Q 7), vI rn, vR (Q 8), vI wn])), ((Q 5), cI E 80 tx)]) (st' := [vI (ns tx pn r9), vI (10 * v9)]) rfl rfl ?_
          refine g_iadd C rfl dX11_readNumber_98 rfl ?_
          refine g_bipush C (by decide) dX11_readNumber_99 rfl ?_
          refine g_isub C rfl dX11_readNumber_101 rfl ?_
          refine g_istore_n C (lv' := [(0, vR (Q 0)), (1, vI g9), (2, vI (((10 * v9) + (ns tx pn r9)) - 48))]) [1, 2, 0] (by decide) rfl rfl dX11_readNumber_102 rfl ?_
          refine g_aload_n C 0 rfl dX11_readNumber_103 rfl ?_
          refine g_dup C rfl dX11_readNumber_104 rfl ?_
          refine g_get C 0 fd_X11_readNumber_282 rfl rfl rfl dX11_readNumber_105 rfl ?_
          refine g_iconst C dX11_readNumber_108 rfl ?_
          refine g_iadd C rfl dX11_readNumber_109 rfl ?_
          refine g_put C tyX11 tyX11_ok nmX11 0 fd_X11_readNumber_282 rfl rfl rfl rfl rfl rfl (Nat.le_of_ble_eq_true rfl) (ws' := [((Q 0), .inr (12, [vR (Q 1), vR (Q 2), vR (Q 3), vR (Q 4), vR (Q 5), vI pn, vR (Q 6), vL f0, vL f1, vL f2, vL f3, vL px, vL py, vL pb, vI (r9 + 1), vI 0, vR (Q 7), vI rn, vR (Q 8), vI wn])), ((Q 5), cI E 80 tx)]) rfl dX11_readNumber_110 rfl ?_
          refine g_goto C (pc' := 51) dX11_readNumber_113 (by decide) ?_
          exact ih _ (by have := ns_lt (t := tx) (n := pn) (r := r9) (by omega); omega) (r9 + 1) g9 (((10 * v9) + (ns tx pn r9)) - 48) ⟨by omega, by have := ns_lt (t := tx) (n := pn) (r := r9) (by omega); omega⟩ hg9 ⟨by omega, by omega⟩ (RW_s (by omega) (by omega) hW (by assumption) (by omega)) rfl
      exact hL_51 _ ((rg + 1) + 1) 1 ((ns tx pn (rg + 1)) - 48) ⟨by omega, by have := ns_lt (t := tx) (n := pn) (r := rg + 1) (by omega); omega⟩ (by first | exact Or.inl rfl | exact Or.inr rfl) ⟨by omega, by omega⟩ (RW_1 hrg h45 (by assumption)) rfl
    refine g_aload_n C 0 rfl dX11_readNumber_34 rfl ?_
    refine g_iconst C dX11_readNumber_35 rfl ?_
    refine g_put C tyX11 tyX11_ok nmX11 0 fd_X11_readNumber_285 rfl rfl rfl rfl (by decide) (by decide) (Nat.le_of_ble_eq_true rfl) (ws' := [((Q 0), .inr (12, [vR (Q 1), vR (Q 2), vR (Q 3), vR (Q 4), vR (Q 5), vI pn, vR (Q 6), vL f0, vL f1, vL f2, vL f3, vL px, vL py, vL pb, vI (rg + 1), vI 1, vR (Q 7), vI rn, vR (Q 8), vI wn])), ((Q 5), cI E 80 tx)]) rfl dX11_readNumber_36 rfl ?_
    refine g_iconst C dX11_readNumber_39 rfl ?_
    exact g_iret C hr rfl (Nat.le_of_ble_eq_true rfl) (Nat.le_of_ble_eq_true rfl) dX11_readNumber_40 ⟨(rg + 1), 1, 0, rfl, rfl, (by exact RN_f1 hrg h45 (by assumption)), (by first | omega | (have q9 := ns_lt (t := tx) (n := pn) (r := rg) (by omega); omega)), (by first | exact Or.inl rfl | exact Or.inr rfl), (by constructor <;> omega)⟩
  · refine g_aload_n C 0 rfl dX11_readNumber_0 rfl ?_
    refine g_bipush C (by decide) dX11_readNumber_1 rfl ?_
    refine g_callV C (b := (Q 0)) (mc := 0) (ms := 0) (rm := rm_K_m_ts0) (As := [vI 45]) (wc := [((Q 0), .inr (12, [vR (Q 1), vR (Q 2), vR (Q 3), vR (Q 4), vR (Q 5), vI pn, vR (Q 6), vL f0, vL f1, vL f2, vL f3, vL px, vL py, vL pb, vI rg, vI 0, vR (Q 7), vI rn, vR (Q 8), vI wn])), ((Q 5), cI E 80 tx)]) (wr := []) (st := []) gX11_readNumber_X11_takesSign (q9 := 0) (ci := 12) rfl rfl rfl (K_m_ts0 l E Q pn f0 f1 f2 f3 px py pb rg 0 rn wn tx 45 hch hpn hrg (Or.inl rfl) (fun q => h45 q.2) ⟨by decide, by decide⟩) hyd_X11_takesSign rfl [0, 1] [] rfl rfl rfl rfl rfl (by decide) ⟨rfl, rfl⟩ ⟨Nat.le_of_ble_eq_true rfl, Nat.le_of_ble_eq_true rfl, Nat.le_of_ble_eq_true rfl, Nat.le_of_ble_eq_true rfl⟩ (Nat.le_of_ble_eq_true rfl) dX11_readNumber_3 (rfl : _ = 0) (rfl : _ = 0) rfl ?_
    rintro _ _ ⟨rfl, rfl⟩
    refine g_is (ws' := [((Q 0), .inr (12, [vR (Q 1), vR (Q 2), vR (Q 3), vR (Q 4), vR (Q 5), vI pn, vR (Q 6), vL f0, vL f1, vL f2, vL f3, vL px, vL py, vL pb, vI rg, vI 0, vR (Q 7), vI rn, vR (Q 8), vI wn])), ((Q 5), cI E 80 tx)]) (st' := [vI 0]) rfl rfl ?_
    refine g_istore_n C (lv' := [(0, vR (Q 0)), (1, vI 0)]) [1, 0] (by decide) rfl rfl dX11_readNumber_6 rfl ?_
    refine g_aload_n C 0 rfl dX11_readNumber_7 rfl ?_
    refine g_callV C (b := (Q 0)) (mc := 0) (ms := 0) (rm := rm_K_m_ns) (As := []) (wc := [((Q 0), .inr (12, [vR (Q 1), vR (Q 2), vR (Q 3), vR (Q 4), vR (Q 5), vI pn, vR (Q 6), vL f0, vL f1, vL f2, vL f3, vL px, vL py, vL pb, vI rg, vI 0, vR (Q 7), vI rn, vR (Q 8), vI wn])), ((Q 5), cI E 80 tx)]) (wr := []) (st := []) gX11_readNumber_X11_nextSign (q9 := 0) (ci := 12) rfl rfl rfl (K_m_ns l E Q pn f0 f1 f2 f3 px py pb rg 0 rn wn tx hch hpn hrg) hyd_X11_nextSign rfl [0, 1] [] rfl rfl rfl rfl rfl (by decide) ⟨rfl, rfl⟩ ⟨Nat.le_of_ble_eq_true rfl, Nat.le_of_ble_eq_true rfl, Nat.le_of_ble_eq_true rfl, Nat.le_of_ble_eq_true rfl⟩ (Nat.le_of_ble_eq_true rfl) dX11_readNumber_8 (rfl : _ = 0) (rfl : _ = 0) rfl ?_
    rintro _ _ ⟨rfl, rfl⟩
    refine g_is (ws' := [((Q 0), .inr (12, [vR (Q 1), vR (Q 2), vR (Q 3), vR (Q 4), vR (Q 5), vI pn, vR (Q 6), vL f0, vL f1, vL f2, vL f3, vL px, vL py, vL pb, vI rg, vI 0, vR (Q 7), vI rn, vR (Q 8), vI wn])), ((Q 5), cI E 80 tx)]) (st' := [vI (ns tx pn rg)]) rfl rfl ?_
    have nsx8 := ns_b (r := rg) hch (by omega)
    refine g_bipush C (by decide) dX11_readNumber_11 rfl ?_
    refine g_isub C rfl dX11_readNumber_13 rfl ?_
    refine g_istore_n C (lv' := [(0, vR (Q 0)), (1, vI 0), (2, vI ((ns tx pn rg) - 48))]) [1, 2, 0] (by decide) rfl rfl dX11_readNumber_14 rfl ?_
    refine g_aload_n C 0 rfl dX11_readNumber_15 rfl ?_
    refine g_get C 0 fd_X11_readNumber_285 rfl rfl rfl dX11_readNumber_16 rfl ?_
    refine g_if_ne C (tgt := 34) ⟨by decide, by decide⟩ dX11_readNumber_19 (by decide) rfl (fun c_9 => ?_) (fun c_9 => ?_)
    · exact absurd c_9 (by decide)
    refine g_iload_n C 2 rfl dX11_readNumber_22 rfl ?_
    refine g_i2l C ⟨by omega, by omega⟩ rfl dX11_readNumber_23 rfl ?_
    refine g_lconst0 C dX11_readNumber_24 rfl ?_
    refine g_ldc2 C (x := 9) w_X11_readNumber_k247 (by decide) dX11_readNumber_25 rfl ?_
    refine g_callS C (mc := 0) (ms := 0) (rm := rm_K_m_in) (As := [vL ((ns tx pn rg) - 48), vL 0, vL 9]) (wc := []) (wr := [((Q 0), .inr (12, [vR (Q 1), vR (Q 2), vR (Q 3), vR (Q 4), vR (Q 5), vI pn, vR (Q 6), vL f0, vL f1, vL f2, vL f3, vL px, vL py, vL pb, vI rg, vI 0, vR (Q 7), vI rn, vR (Q 8), vI wn])), ((Q 5), cI E 80 tx)]) (st := []) gX11_readNumber_X11_in rfl (K_m_in l E ((ns tx pn rg) - 48) 0 9 ⟨by omega, by omega⟩ ⟨by omega, by omega⟩ ⟨by omega, by omega⟩) hyd_X11_in rfl [] [0, 1] rfl rfl rfl rfl rfl (by decide) ⟨rfl, rfl⟩ ⟨Nat.le_of_ble_eq_true rfl, Nat.le_of_ble_eq_true rfl, Nat.le_of_ble_eq_true rfl, Nat.le_of_ble_eq_true rfl⟩ (Nat.le_of_ble_eq_true rfl) dX11_readNumber_28 (rfl : _ = 0) (rfl : _ = 0) rfl ?_
    rintro _ _ ⟨rfl, rfl⟩
    refine g_is (ws' := [((Q 0), .inr (12, [vR (Q 1), vR (Q 2), vR (Q 3), vR (Q 4), vR (Q 5), vI pn, vR (Q 6), vL f0, vL f1, vL f2, vL f3, vL px, vL py, vL pb, vI rg, vI 0, vR (Q 7), vI rn, vR (Q 8), vI wn])), ((Q 5), cI E 80 tx)]) (st' := [vI (bP (0 ≤ ((ns tx pn rg) - 48) ∧ ((ns tx pn rg) - 48) ≤ 9))]) rfl rfl ?_
    refine g_ifb_ne C (tgt := 41) dX11_readNumber_31 (by decide) rfl (fun c_10 => ?_) (fun c_10 => ?_)
    · refine g_aload_n C 0 rfl dX11_readNumber_41 rfl ?_
      refine g_dup C rfl dX11_readNumber_42 rfl ?_
      refine g_get C 0 fd_X11_readNumber_282 rfl rfl rfl dX11_readNumber_43 rfl ?_
      refine g_iconst C dX11_readNumber_46 rfl ?_
      refine g_iadd C rfl dX11_readNumber_47 rfl ?_
      refine g_put C tyX11 tyX11_ok nmX11 0 fd_X11_readNumber_282 rfl rfl rfl rfl rfl rfl (Nat.le_of_ble_eq_true rfl) (ws' := [((Q 0), .inr (12, [vR (Q 1), vR (Q 2), vR (Q 3), vR (Q 4), vR (Q 5), vI pn, vR (Q 6), vL f0, vL f1, vL f2, vL f3, vL px, vL py, vL pb, vI (rg + 1), vI 0, vR (Q 7), vI rn, vR (Q 8), vI wn])), ((Q 5), cI E 80 tx)]) rfl dX11_readNumber_48 rfl ?_
      have hL_51 : ∀ (fuel : Nat) (r9 : Int) (g9 : Int) (v9 : Int) (hr9 : rg ≤ r9 ∧ r9 ≤ pn) (hg9 : g9 = 0 ∨ g9 = 1) (hv9 : 0 ≤ v9 ∧ v9 ≤ 20000) (hW : RW tx pn rg m w X Y r9 g9 v9) (hfu : (pn - r9).toNat = fuel), G p9 l e9 rm_K_m_rn s9 m9 args9 below9 meth9 c9 (RQ E (fun v9 w9 => ∃ (r2 : Int) (w2 : Int) (x2 : Int), v9 = some (vI x2) ∧ w9 = [((Q 0), .inr (12, [vR (Q 1), vR (Q 2), vR (Q 3), vR (Q 4), vR (Q 5), vI pn, vR (Q 6), vL f0, vL f1, vL f2, vL f3, vL px, vL py, vL pb, vI r2, vI w2, vR (Q 7), vI rn, vR (Q 8), vI wn])), ((Q 5), cI E 80 tx)] ∧ RN tx pn rg m w X Y r2 w2 x2 ∧ (rg ≤ r2 ∧ r2 ≤ pn) ∧ (w2 = 0 ∨ w2 = 1) ∧ cb x2) A9 below9 args9 s9 0 0) E A9 3 0 0 [((Q 0), .inr (12, [vR (Q 1), vR (Q 2), vR (Q 3), vR (Q 4), vR (Q 5), vI pn, vR (Q 6), vL f0, vL f1, vL f2, vL f3, vL px, vL py, vL pb, vI r9, vI 0, vR (Q 7), vI rn, vR (Q 8), vI wn])), ((Q 5), cI E 80 tx)] [(0, vR (Q 0)), (1, vI g9), (2, vI v9)] 51 [] := by
        intro fuel
        induction fuel using Nat.strongRecOn with
        | ind fuel ih =>
          intro r9 g9 v9 hr9 hg9 hv9 hW hfu
          refine g_iload_n C 2 rfl dX11_readNumber_51 rfl ?_
          refine g_if_le C (tgt := 116) ⟨by omega, by omega⟩ dX11_readNumber_52 (by decide) rfl (fun c_11 => ?_) (fun c_11 => ?_)
          · refine g_iload_n C 1 rfl dX11_readNumber_116 rfl ?_
            refine g_if_eq C (tgt := 125) ⟨by omega, by omega⟩ dX11_readNumber_117 (by decide) rfl (fun c_12 => ?_) (fun c_12 => ?_)
            · refine g_iload_n C 2 rfl dX11_readNumber_125 rfl ?_
              exact g_iret C hr rfl (Nat.le_of_ble_eq_true rfl) (Nat.le_of_ble_eq_true rfl) dX11_readNumber_126 ⟨r9, 0, v9, rfl, rfl, (by exact RW_e hW hg9 hv9 (by unfold num; (repeat' split) <;> omega) (by first | exact Or.inl (by omega) | exact Or.inr (Or.inl (by assumption)) | exact Or.inr (Or.inr (by omega)))), (by first | omega | (have q9 := ns_lt (t := tx) (n := pn) (r := rg) (by omega); omega)), (by first | exact Or.inl rfl | exact Or.inr rfl), (by constructor <;> omega)⟩
            refine g_iload_n C 2 rfl dX11_readNumber_120 rfl ?_
            refine g_ineg C rfl dX11_readNumber_121 rfl ?_
            refine g_goto C (pc' := 126) dX11_readNumber_122 (by decide) ?_
            exact g_iret C hr rfl (Nat.le_of_ble_eq_true rfl) (Nat.le_of_ble_eq_true rfl) dX11_readNumber_126 ⟨r9, 0, (-v9), rfl, rfl, (by exact RW_e hW hg9 hv9 (by unfold num; (repeat' split) <;> omega) (by first | exact Or.inl (by omega) | exact Or.inr (Or.inl (by assumption)) | exact Or.inr (Or.inr (by omega)))), (by first | omega | (have q9 := ns_lt (t := tx) (n := pn) (r := rg) (by omega); omega)), (by first | exact Or.inl rfl | exact Or.inr rfl), (by constructor <;> omega)⟩
          refine g_aload_n C 0 rfl dX11_readNumber_55 rfl ?_
          refine g_callV C (b := (Q 0)) (mc := 0) (ms := 0) (rm := rm_K_m_ns) (As := []) (wc := [((Q 0), .inr (12, [vR (Q 1), vR (Q 2), vR (Q 3), vR (Q 4), vR (Q 5), vI pn, vR (Q 6), vL f0, vL f1, vL f2, vL f3, vL px, vL py, vL pb, vI r9, vI 0, vR (Q 7), vI rn, vR (Q 8), vI wn])), ((Q 5), cI E 80 tx)]) (wr := []) (st := []) gX11_readNumber_X11_nextSign (q9 := 0) (ci := 12) rfl rfl rfl (K_m_ns l E Q pn f0 f1 f2 f3 px py pb r9 0 rn wn tx hch hpn ⟨by omega, by omega⟩) hyd_X11_nextSign rfl [0, 1] [] rfl rfl rfl rfl rfl (by decide) ⟨rfl, rfl⟩ ⟨Nat.le_of_ble_eq_true rfl, Nat.le_of_ble_eq_true rfl, Nat.le_of_ble_eq_true rfl, Nat.le_of_ble_eq_true rfl⟩ (Nat.le_of_ble_eq_true rfl) dX11_readNumber_56 (rfl : _ = 0) (rfl : _ = 0) rfl ?_
          rintro _ _ ⟨rfl, rfl⟩
          refine g_is (ws' := [((Q 0), .inr (12, [vR (Q 1), vR (Q 2), vR (Q 3), vR (Q 4), vR (Q 5), vI pn, vR (Q 6), vL f0, vL f1, vL f2, vL f3, vL px, vL py, vL pb, vI r9, vI 0, vR (Q 7), vI rn, vR (Q 8), vI wn])), ((Q 5), cI E 80 tx)]) (st' := [vI (ns tx pn r9)]) rfl rfl ?_
          have nsy56 := ns_b (r := r9) hch (by omega)
          refine g_i2l C ⟨by omega, by omega⟩ rfl dX11_readNumber_59 rfl ?_
          refine g_ldc2 C (x := 48) w_X11_readNumber_k50 (by decide) dX11_readNumber_60 rfl ?_
          refine g_ldc2 C (x := 57) w_X11_readNumber_k295 (by decide) dX11_readNumber_63 rfl ?_
          refine g_callS C (mc := 0) (ms := 0) (rm := rm_K_m_in) (As := [vL (ns tx pn r9), vL 48, vL 57]) (wc := []) (wr := [((Q 0), .inr (12, [vR (Q 1), vR (Q 2), vR (Q 3), vR (Q 4), vR (Q 5), vI pn, vR (Q 6), vL f0, vL f1, vL f2, vL f3, vL px, vL py, vL pb, vI r9, vI 0, vR (Q 7), vI rn, vR (Q 8), vI wn])), ((Q 5), cI E 80 tx)]) (st := []) gX11_readNumber_X11_in rfl (K_m_in l E (ns tx pn r9) 48 57 ⟨by omega, by omega⟩ ⟨by omega, by omega⟩ ⟨by omega, by omega⟩) hyd_X11_in rfl [] [0, 1] rfl rfl rfl rfl rfl (by decide) ⟨rfl, rfl⟩ ⟨Nat.le_of_ble_eq_true rfl, Nat.le_of_ble_eq_true rfl, Nat.le_of_ble_eq_true rfl, Nat.le_of_ble_eq_true rfl⟩ (Nat.le_of_ble_eq_true rfl) dX11_readNumber_66 (rfl : _ = 0) (rfl : _ = 0) rfl ?_
          rintro _ _ ⟨rfl, rfl⟩
          refine g_is (ws' := [((Q 0), .inr (12, [vR (Q 1), vR (Q 2), vR (Q 3), vR (Q 4), vR (Q 5), vI pn, vR (Q 6), vL f0, vL f1, vL f2, vL f3, vL px, vL py, vL pb, vI r9, vI 0, vR (Q 7), vI rn, vR (Q 8), vI wn])), ((Q 5), cI E 80 tx)]) (st' := [vI (bP (48 ≤ (ns tx pn r9) ∧ (ns tx pn r9) ≤ 57))]) rfl rfl ?_
          refine g_ifb_eq C (tgt := 116) dX11_readNumber_69 (by decide) rfl (fun c_13 => ?_) (fun c_13 => ?_)
          · refine g_iload_n C 1 rfl dX11_readNumber_116 rfl ?_
            refine g_if_eq C (tgt := 125) ⟨by omega, by omega⟩ dX11_readNumber_117 (by decide) rfl (fun c_14 => ?_) (fun c_14 => ?_)
            · refine g_iload_n C 2 rfl dX11_readNumber_125 rfl ?_
              exact g_iret C hr rfl (Nat.le_of_ble_eq_true rfl) (Nat.le_of_ble_eq_true rfl) dX11_readNumber_126 ⟨r9, 0, v9, rfl, rfl, (by exact RW_e hW hg9 hv9 (by unfold num; (repeat' split) <;> omega) (by first | exact Or.inl (by omega) | exact Or.inr (Or.inl (by assumption)) | exact Or.inr (Or.inr (by omega)))), (by first | omega | (have q9 := ns_lt (t := tx) (n := pn) (r := rg) (by omega); omega)), (by first | exact Or.inl rfl | exact Or.inr rfl), (by constructor <;> omega)⟩
            refine g_iload_n C 2 rfl dX11_readNumber_120 rfl ?_
            refine g_ineg C rfl dX11_readNumber_121 rfl ?_
            refine g_goto C (pc' := 126) dX11_readNumber_122 (by decide) ?_
            exact g_iret C hr rfl (Nat.le_of_ble_eq_true rfl) (Nat.le_of_ble_eq_true rfl) dX11_readNumber_126 ⟨r9, 0, (-v9), rfl, rfl, (by exact RW_e hW hg9 hv9 (by unfold num; (repeat' split) <;> omega) (by first | exact Or.inl (by omega) | exact Or.inr (Or.inl (by assumption)) | exact Or.inr (Or.inr (by omega)))), (by first | omega | (have q9 := ns_lt (t := tx) (n := pn) (r := rg) (by omega); omega)), (by first | exact Or.inl rfl | exact Or.inr rfl), (by constructor <;> omega)⟩
          refine g_bipush C (by decide) dX11_readNumber_72 rfl ?_
          refine g_iload_n C 2 rfl dX11_readNumber_74 rfl ?_
          refine g_imul C rfl dX11_readNumber_75 rfl ?_
          refine g_aload_n C 0 rfl dX11_readNumber_76 rfl ?_
          refine g_callV C (b := (Q 0)) (mc := 0) (ms := 0) (rm := rm_K_m_ns) (As := []) (wc := [((Q 0), .inr (12, [vR (Q 1), vR (Q 2), vR (Q 3), vR (Q 4), vR (Q 5), vI pn, vR (Q 6), vL f0, vL f1, vL f2, vL f3, vL px, vL py, vL pb, vI r9, vI 0, vR (Q 7), vI rn, vR (Q 8), vI wn])), ((Q 5), cI E 80 tx)]) (wr := []) (st := [vI (10 * v9)]) gX11_readNumber_X11_nextSign (q9 := 0) (ci := 12) rfl rfl rfl (K_m_ns l E Q pn f0 f1 f2 f3 px py pb r9 0 rn wn tx hch hpn ⟨by omega, by omega⟩) hyd_X11_nextSign rfl [0, 1] [] rfl rfl rfl rfl rfl (by decide) ⟨rfl, rfl⟩ ⟨Nat.le_of_ble_eq_true rfl, Nat.le_of_ble_eq_true rfl, Nat.le_of_ble_eq_true rfl, Nat.le_of_ble_eq_true rfl⟩ (Nat.le_of_ble_eq_true rfl) dX11_readNumber_77 (rfl : _ = 0) (rfl : _ = 0) rfl ?_
          rintro _ _ ⟨rfl, rfl⟩
          refine g_is (ws' := [((Q 0), .inr (12, [vR (Q 1), vR (Q 2), vR (Q 3), vR (Q 4), vR (Q 5), vI pn, vR (Q 6), vL f0, vL f1, vL f2, vL f3, vL px, vL py, vL pb, vI r9, vI 0, vR (Q 7), vI rn, vR (Q 8), vI wn])), ((Q 5), cI E 80 tx)]) (st' := [vI (ns tx pn r9), vI (10 * v9)]) rfl rfl ?_
          refine g_iadd C rfl dX11_readNumber_80 rfl ?_
          refine g_bipush C (by decide) dX11_readNumber_81 rfl ?_
          refine g_isub C rfl dX11_readNumber_83 rfl ?_
          refine g_sipush C (by decide) dX11_readNumber_84 rfl ?_
          refine g_icmp_gt C (tgt := 116) ⟨by omega, by omega⟩ ⟨by decide, by decide⟩ dX11_readNumber_87 (by decide) rfl (fun c_15 => ?_) (fun c_15 => ?_)
          · refine g_iload_n C 1 rfl dX11_readNumber_116 rfl ?_
            refine g_if_eq C (tgt := 125) ⟨by omega, by omega⟩ dX11_readNumber_117 (by decide) rfl (fun c_16 => ?_) (fun c_16 => ?_)
            · refine g_iload_n C 2 rfl dX11_readNumber_125 rfl ?_
              exact g_iret C hr rfl (Nat.le_of_ble_eq_true rfl) (Nat.le_of_ble_eq_true rfl) dX11_readNumber_126 ⟨r9, 0, v9, rfl, rfl, (by exact RW_e hW hg9 hv9 (by unfold num; (repeat' split) <;> omega) (by first | exact Or.inl (by omega) | exact Or.inr (Or.inl (by assumption)) | exact Or.inr (Or.inr (by omega)))), (by first | omega | (have q9 := ns_lt (t := tx) (n := pn) (r := rg) (by omega); omega)), (by first | exact Or.inl rfl | exact Or.inr rfl), (by constructor <;> omega)⟩
            refine g_iload_n C 2 rfl dX11_readNumber_120 rfl ?_
            refine g_ineg C rfl dX11_readNumber_121 rfl ?_
            refine g_goto C (pc' := 126) dX11_readNumber_122 (by decide) ?_
            exact g_iret C hr rfl (Nat.le_of_ble_eq_true rfl) (Nat.le_of_ble_eq_true rfl) dX11_readNumber_126 ⟨r9, 0, (-v9), rfl, rfl, (by exact RW_e hW hg9 hv9 (by unfold num; (repeat' split) <;> omega) (by first | exact Or.inl (by omega) | exact Or.inr (Or.inl (by assumption)) | exact Or.inr (Or.inr (by omega)))), (by first | omega | (have q9 := ns_lt (t := tx) (n := pn) (r := rg) (by omega); omega)), (by first | exact Or.inl rfl | exact Or.inr rfl), (by constructor <;> omega)⟩
          refine g_bipush C (by decide) dX11_readNumber_90 rfl ?_
          refine g_iload_n C 2 rfl dX11_readNumber_92 rfl ?_
          refine g_imul C rfl dX11_readNumber_93 rfl ?_
          refine g_aload_n C 0 rfl dX11_readNumber_94 rfl ?_
          refine g_callV C (b := (Q 0)) (mc := 0) (ms := 0) (rm := rm_K_m_ns) (As := []) (wc := [((Q 0), .inr (12, [vR (Q 1), vR (Q 2), vR (Q 3), vR (Q 4), vR (Q 5), vI pn, vR (Q 6), vL f0, vL f1, vL f2, vL f3, vL px, vL py, vL pb, vI r9, vI 0, vR (Q 7), vI rn, vR (Q 8), vI wn])), ((Q 5), cI E 80 tx)]) (wr := []) (st := [vI (10 * v9)]) gX11_readNumber_X11_nextSign (q9 := 0) (ci := 12) rfl rfl rfl (K_m_ns l E Q pn f0 f1 f2 f3 px py pb r9 0 rn wn tx hch hpn ⟨by omega, by omega⟩) hyd_X11_nextSign rfl [0, 1] [] rfl rfl rfl rfl rfl (by decide) ⟨rfl, rfl⟩ ⟨Nat.le_of_ble_eq_true rfl, Nat.le_of_ble_eq_true rfl, Nat.le_of_ble_eq_true rfl, Nat.le_of_ble_eq_true rfl⟩ (Nat.le_of_ble_eq_true rfl) dX11_readNumber_95 (rfl : _ = 0) (rfl : _ = 0) rfl ?_
          rintro _ _ ⟨rfl, rfl⟩
          refine g_is (ws' := [((Q 0), .inr (12, [vR (Q 1), vR (Q 2), vR (Q 3), vR (Q 4), vR (Q 5), vI pn, vR (Q 6), vL f0, vL f1, vL f2, vL f3, vL px, vL py, vL pb, vI r9, vI 0, vR (Q 7), vI rn, vR (Q 8), vI wn])), ((Q 5), cI E 80 tx)]) (st' := [vI (ns tx pn r9), vI (10 * v9)]) rfl rfl ?_
          refine g_iadd C rfl dX11_readNumber_98 rfl ?_
          refine g_bipush C (by decide) dX11_readNumber_99 rfl ?_
          refine g_isub C rfl dX11_readNumber_101 rfl ?_
          refine g_istore_n C (lv' := [(0, vR (Q 0)), (1, vI g9), (2, vI (((10 * v9) + (ns tx pn r9)) - 48))]) [1, 2, 0] (by decide) rfl rfl dX11_readNumber_102 rfl ?_
          refine g_aload_n C 0 rfl dX11_readNumber_103 rfl ?_
          refine g_dup C rfl dX11_readNumber_104 rfl ?_
          refine g_get C 0 fd_X11_readNumber_282 rfl rfl rfl dX11_readNumber_105 rfl ?_
          refine g_iconst C dX11_readNumber_108 rfl ?_
          refine g_iadd C rfl dX11_readNumber_109 rfl ?_
          refine g_put C tyX11 tyX11_ok nmX11 0 fd_X11_readNumber_282 rfl rfl rfl rfl rfl rfl (Nat.le_of_ble_eq_true rfl) (ws' := [((Q 0), .inr (12, [vR (Q 1), vR (Q 2), vR (Q 3), vR (Q 4), vR (Q 5), vI pn, vR (Q 6), vL f0, vL f1, vL f2, vL f3, vL px, vL py, vL pb, vI (r9 + 1), vI 0, vR (Q 7), vI rn, vR (Q 8), vI wn])), ((Q 5), cI E 80 tx)]) rfl dX11_readNumber_110 rfl ?_
          refine g_goto C (pc' := 51) dX11_readNumber_113 (by decide) ?_
          exact ih _ (by have := ns_lt (t := tx) (n := pn) (r := r9) (by omega); omega) (r9 + 1) g9 (((10 * v9) + (ns tx pn r9)) - 48) ⟨by omega, by have := ns_lt (t := tx) (n := pn) (r := r9) (by omega); omega⟩ hg9 ⟨by omega, by omega⟩ (RW_s (by omega) (by omega) hW (by assumption) (by omega)) rfl
      exact hL_51 _ (rg + 1) 0 ((ns tx pn rg) - 48) ⟨by omega, by have := ns_lt (t := tx) (n := pn) (r := rg) (by omega); omega⟩ (by first | exact Or.inl rfl | exact Or.inr rfl) ⟨by omega, by omega⟩ (RW_0 hrg (by assumption)) rfl
    refine g_aload_n C 0 rfl dX11_readNumber_34 rfl ?_
    refine g_iconst C dX11_readNumber_35 rfl ?_
    refine g_put C tyX11 tyX11_ok nmX11 0 fd_X11_readNumber_285 rfl rfl rfl rfl (by decide) (by decide) (Nat.le_of_ble_eq_true rfl) (ws' := [((Q 0), .inr (12, [vR (Q 1), vR (Q 2), vR (Q 3), vR (Q 4), vR (Q 5), vI pn, vR (Q 6), vL f0, vL f1, vL f2, vL f3, vL px, vL py, vL pb, vI rg, vI 1, vR (Q 7), vI rn, vR (Q 8), vI wn])), ((Q 5), cI E 80 tx)]) rfl dX11_readNumber_36 rfl ?_
    refine g_iconst C dX11_readNumber_39 rfl ?_
    exact g_iret C hr rfl (Nat.le_of_ble_eq_true rfl) (Nat.le_of_ble_eq_true rfl) dX11_readNumber_40 ⟨rg, 1, 0, rfl, rfl, (by exact RN_f0 hrg h45 (by assumption)), (by first | omega | (have q9 := ns_lt (t := tx) (n := pn) (r := rg) (by omega); omega)), (by first | exact Or.inl rfl | exact Or.inr rfl), (by constructor <;> omega)⟩

theorem in_X11_readCorner_X11 : ∀ w ∈ u_ws RX11 TX11 20, w ∈ wsX11_readCorner := by decide +kernel
theorem fd_X11_readCorner_30 : fdk wsX11_readCorner RX11 30 "ZoneRelayModel" RX11 TX11 20 16 := ⟨in_X11_readCorner_X11, by decide +kernel, by decide, rfl⟩
theorem fd_X11_readCorner_297 : fdk wsX11_readCorner RX11 297 "ZoneRelayModel" RX11 TX11 20 17 := ⟨in_X11_readCorner_X11, by decide +kernel, by decide, rfl⟩
theorem hyd_X11_readNumber : yX11_readNumber.cls ≠ "java/lang/invoke/MethodHandle" ∧ yX11_readNumber.cls ≠ "java/lang/invoke/VarHandle" ∧ (parseMethodDescriptor yX11_readNumber.desc).map (fun d => d.parameters.length) = some 0 := by decide +kernel
theorem fd_X11_readCorner_285 : fdk wsX11_readCorner RX11 285 "ZoneRelayModel" RX11 TX11 20 15 := ⟨in_X11_readCorner_X11, by decide +kernel, by decide, rfl⟩
abbrev rm_K_m_rc : Room := { frames := 3, cells := 0, slots := 0, locals := 63 }
set_option maxHeartbeats 1000000 in
set_option maxRecDepth 100000 in
theorem K_m_rc (l : Launch) (E : Ev) (Q : Nat → Nat) (pn f0 f1 f2 f3 px py pb rg rn wn : Int) (tx X Y rr : Int → Int) (hch : ∀ k : Int, 0 ≤ k → k < pn → ch (tx k)) (hpn : 0 ≤ pn ∧ pn ≤ 80) (hrg : 0 ≤ rg ∧ rg ≤ pn) (hrn : 0 ≤ rn ∧ rn ≤ 7) : Mc l yX11_readCorner wsX11_readCorner rm_K_m_rc E [vR (Q 0)] [((Q 0), .inr (12, [vR (Q 1), vR (Q 2), vR (Q 3), vR (Q 4), vR (Q 5), vI pn, vR (Q 6), vL f0, vL f1, vL f2, vL f3, vL px, vL py, vL pb, vI rg, vI 0, vR (Q 7), vI rn, vR (Q 8), vI wn])), ((Q 5), cI E 80 tx), ((Q 7), cI E 16 rr)] 0 0 (fun v9 w9 => ∃ (r2 : Int) (w2 : Int) (x2 : Int) (y2 : Int), v9 = none ∧ w9 = [((Q 0), .inr (12, [vR (Q 1), vR (Q 2), vR (Q 3), vR (Q 4), vR (Q 5), vI pn, vR (Q 6), vL f0, vL f1, vL f2, vL f3, vL px, vL py, vL pb, vI r2, vI w2, vR (Q 7), vI (rn + 1), vR (Q 8), vI wn])), ((Q 5), cI E 80 tx), ((Q 7), cI E 16 (ua (ua rr (2 * rn) x2) ((2 * rn) + 1) y2))] ∧ RC tx pn rg rn X Y r2 w2 x2 y2 ∧ (rg ≤ r2 ∧ r2 ≤ pn) ∧ (w2 = 0 ∨ w2 = 1) ∧ (cb x2 ∧ cb y2)) := by
  refine Mc.intro (cc := cX11_readCorner) (maxL := 1) (ret := none) (lv0 := [(0, vR (Q 0))]) (by decide +kernel) rfl rfl (Nat.le_of_ble_eq_true rfl) ?_
  intro p9 e9 s9 m9 args9 below9 meth9 c9 A9 C hr hmn
  have C : Cx p9 s9 m9 args9 meth9 c9 E A9 1 cX11_readCorner wsX11_readCorner RX11 := C
  refine g_aload_n C 0 rfl dX11_readCorner_0 rfl ?_
  refine g_get C 0 fd_X11_readCorner_30 rfl rfl rfl dX11_readCorner_1 rfl ?_
  refine g_iconst C dX11_readCorner_4 rfl ?_
  refine g_aload_n C 0 rfl dX11_readCorner_5 rfl ?_
  refine g_get C 0 fd_X11_readCorner_297 rfl rfl rfl dX11_readCorner_6 rfl ?_
  refine g_imul C rfl dX11_readCorner_9 rfl ?_
  refine g_aload_n C 0 rfl dX11_readCorner_10 rfl ?_
  refine g_callV C (b := (Q 0)) (mc := 0) (ms := 0) (rm := rm_K_m_rn) (As := []) (wc := [((Q 0), .inr (12, [vR (Q 1), vR (Q 2), vR (Q 3), vR (Q 4), vR (Q 5), vI pn, vR (Q 6), vL f0, vL f1, vL f2, vL f3, vL px, vL py, vL pb, vI rg, vI 0, vR (Q 7), vI rn, vR (Q 8), vI wn])), ((Q 5), cI E 80 tx)]) (wr := [((Q 7), cI E 16 rr)]) (st := [vI (2 * rn), vR (Q 7)]) gX11_readCorner_X11_readNumber (q9 := 0) (ci := 12) rfl rfl rfl (K_m_rn l E Q pn f0 f1 f2 f3 px py pb rg rn wn tx X Y rn 0 hch hpn hrg) hyd_X11_readNumber rfl [0, 1] [2] rfl rfl rfl rfl rfl (by decide) ⟨rfl, rfl⟩ ⟨Nat.le_of_ble_eq_true rfl, Nat.le_of_ble_eq_true rfl, Nat.le_of_ble_eq_true rfl, Nat.le_of_ble_eq_true rfl⟩ (Nat.le_of_ble_eq_true rfl) dX11_readCorner_11 (rfl : _ = 0) (rfl : _ = 0) rfl ?_
  rintro _ _ ⟨r2_1, w2_2, x2_3, rfl, rfl, f_4, f_5, f_6, f_7⟩
  refine g_is (ws' := [((Q 7), cI E 16 rr), ((Q 0), .inr (12, [vR (Q 1), vR (Q 2), vR (Q 3), vR (Q 4), vR (Q 5), vI pn, vR (Q 6), vL f0, vL f1, vL f2, vL f3, vL px, vL py, vL pb, vI r2_1, vI w2_2, vR (Q 7), vI rn, vR (Q 8), vI wn])), ((Q 5), cI E 80 tx)]) (st' := [vI x2_3, vI (2 * rn), vR (Q 7)]) rfl rfl ?_
  refine g_sub (ws' := [((Q 0), .inr (12, [vR (Q 1), vR (Q 2), vR (Q 3), vR (Q 4), vR (Q 5), vI pn, vR (Q 6), vL f0, vL f1, vL f2, vL f3, vL px, vL py, vL pb, vI r2_1, vI w2_2, vR (Q 7), vI rn, vR (Q 8), vI wn])), ((Q 5), cI E 80 tx), ((Q 7), cI E 16 rr)]) [1, 2, 0] rfl rfl rfl ?_
  refine g_iast C 2 rfl (by omega) (by omega) (by decide) (ws' := [((Q 0), .inr (12, [vR (Q 1), vR (Q 2), vR (Q 3), vR (Q 4), vR (Q 5), vI pn, vR (Q 6), vL f0, vL f1, vL f2, vL f3, vL px, vL py, vL pb, vI r2_1, vI w2_2, vR (Q 7), vI rn, vR (Q 8), vI wn])), ((Q 5), cI E 80 tx), ((Q 7), cI E 16 (ua rr (2 * rn) x2_3))]) rfl dX11_readCorner_14 rfl ?_
  refine g_aload_n C 0 rfl dX11_readCorner_15 rfl ?_
  refine g_aload_n C 0 rfl dX11_readCorner_16 rfl ?_
  refine g_get C 0 fd_X11_readCorner_285 rfl rfl rfl dX11_readCorner_17 rfl ?_
  refine g_if_ne C (tgt := 32) ⟨by omega, by omega⟩ dX11_readCorner_20 (by decide) rfl (fun c_8 => ?_) (fun c_8 => ?_)
  · refine g_iconst C dX11_readCorner_32 rfl ?_
    refine g_goto C (pc' := 37) dX11_readCorner_33 (by decide) ?_
    refine g_put C tyX11 tyX11_ok nmX11 0 fd_X11_readCorner_285 rfl rfl rfl rfl (by decide) (by decide) (Nat.le_of_ble_eq_true rfl) (ws' := [((Q 0), .inr (12, [vR (Q 1), vR (Q 2), vR (Q 3), vR (Q 4), vR (Q 5), vI pn, vR (Q 6), vL f0, vL f1, vL f2, vL f3, vL px, vL py, vL pb, vI r2_1, vI 1, vR (Q 7), vI rn, vR (Q 8), vI wn])), ((Q 5), cI E 80 tx), ((Q 7), cI E 16 (ua rr (2 * rn) x2_3))]) rfl dX11_readCorner_37 rfl ?_
    refine g_aload_n C 0 rfl dX11_readCorner_40 rfl ?_
    refine g_get C 0 fd_X11_readCorner_30 rfl rfl rfl dX11_readCorner_41 rfl ?_
    refine g_iconst C dX11_readCorner_44 rfl ?_
    refine g_aload_n C 0 rfl dX11_readCorner_45 rfl ?_
    refine g_get C 0 fd_X11_readCorner_297 rfl rfl rfl dX11_readCorner_46 rfl ?_
    refine g_imul C rfl dX11_readCorner_49 rfl ?_
    refine g_iconst C dX11_readCorner_50 rfl ?_
    refine g_iadd C rfl dX11_readCorner_51 rfl ?_
    refine g_aload_n C 0 rfl dX11_readCorner_52 rfl ?_
    refine g_callV C (b := (Q 0)) (mc := 0) (ms := 0) (rm := rm_K_m_rnW) (As := []) (wc := [((Q 0), .inr (12, [vR (Q 1), vR (Q 2), vR (Q 3), vR (Q 4), vR (Q 5), vI pn, vR (Q 6), vL f0, vL f1, vL f2, vL f3, vL px, vL py, vL pb, vI r2_1, vI 1, vR (Q 7), vI rn, vR (Q 8), vI wn])), ((Q 5), cI E 80 tx)]) (wr := [((Q 7), cI E 16 (ua rr (2 * rn) x2_3))]) (st := [vI ((2 * rn) + 1), vR (Q 7)]) gX11_readCorner_X11_readNumber (q9 := 0) (ci := 12) rfl rfl rfl (K_m_rnW l E Q pn f0 f1 f2 f3 px py pb r2_1 rn wn tx hch hpn ⟨by omega, by omega⟩) hyd_X11_readNumber rfl [0, 1] [2] rfl rfl rfl rfl rfl (by decide) ⟨rfl, rfl⟩ ⟨Nat.le_of_ble_eq_true rfl, Nat.le_of_ble_eq_true rfl, Nat.le_of_ble_eq_true rfl, Nat.le_of_ble_eq_true rfl⟩ (Nat.le_of_ble_eq_true rfl) dX11_readCorner_53 (rfl : _ = 0) (rfl : _ = 0) rfl ?_
    rintro _ _ ⟨rfl, rfl⟩
    refine g_is (ws' := [((Q 7), cI E 16 (ua rr (2 * rn) x2_3)), ((Q 0), .inr (12, [vR (Q 1), vR (Q 2), vR (Q 3), vR (Q 4), vR (Q 5), vI pn, vR (Q 6), vL f0, vL f1, vL f2, vL f3, vL px, vL py, vL pb, vI r2_1, vI 1, vR (Q 7), vI rn, vR (Q 8), vI wn])), ((Q 5), cI E 80 tx)]) (st' := [vI 0, vI ((2 * rn) + 1), vR (Q 7)]) rfl rfl ?_
    refine g_sub (ws' := [((Q 0), .inr (12, [vR (Q 1), vR (Q 2), vR (Q 3), vR (Q 4), vR (Q 5), vI pn, vR (Q 6), vL f0, vL f1, vL f2, vL f3, vL px, vL py, vL pb, vI r2_1, vI 1, vR (Q 7), vI rn, vR (Q 8), vI wn])), ((Q 5), cI E 80 tx), ((Q 7), cI E 16 (ua rr (2 * rn) x2_3))]) [1, 2, 0] rfl rfl rfl ?_
    refine g_iast C 2 rfl (by omega) (by omega) (by decide) (ws' := [((Q 0), .inr (12, [vR (Q 1), vR (Q 2), vR (Q 3), vR (Q 4), vR (Q 5), vI pn, vR (Q 6), vL f0, vL f1, vL f2, vL f3, vL px, vL py, vL pb, vI r2_1, vI 1, vR (Q 7), vI rn, vR (Q 8), vI wn])), ((Q 5), cI E 80 tx), ((Q 7), cI E 16 (ua (ua rr (2 * rn) x2_3) ((2 * rn) + 1) 0))]) rfl dX11_readCorner_56 rfl ?_
    refine g_aload_n C 0 rfl dX11_readCorner_57 rfl ?_
    refine g_dup C rfl dX11_readCorner_58 rfl ?_
    refine g_get C 0 fd_X11_readCorner_297 rfl rfl rfl dX11_readCorner_59 rfl ?_
    refine g_iconst C dX11_readCorner_62 rfl ?_
    refine g_iadd C rfl dX11_readCorner_63 rfl ?_
    refine g_put C tyX11 tyX11_ok nmX11 0 fd_X11_readCorner_297 rfl rfl rfl rfl rfl rfl (Nat.le_of_ble_eq_true rfl) (ws' := [((Q 0), .inr (12, [vR (Q 1), vR (Q 2), vR (Q 3), vR (Q 4), vR (Q 5), vI pn, vR (Q 6), vL f0, vL f1, vL f2, vL f3, vL px, vL py, vL pb, vI r2_1, vI 1, vR (Q 7), vI (rn + 1), vR (Q 8), vI wn])), ((Q 5), cI E 80 tx), ((Q 7), cI E 16 (ua (ua rr (2 * rn) x2_3) ((2 * rn) + 1) 0))]) rfl dX11_readCorner_64 rfl ?_
    exact g_vret C hr (Nat.le_of_ble_eq_true rfl) (Nat.le_of_ble_eq_true rfl) dX11_readCorner_67 ⟨r2_1, 1, x2_3, 0, rfl, rfl, (by have hw9 : w2_2 = 1 := (by omega); rw [hw9] at f_4; exact RC_w f_4), (by first | omega | (have q9 := ns_lt (t := tx) (n := pn) (by assumption); omega)), (by first | assumption | exact Or.inr rfl | exact Or.inl rfl), (by exact ⟨by assumption, by first | assumption | exact ⟨by decide, by decide⟩⟩)⟩
  by_cases h44 : ns tx pn r2_1 = 44
  · refine g_aload_n C 0 rfl dX11_readCorner_23 rfl ?_
    refine g_bipush C (by decide) dX11_readCorner_24 rfl ?_
    refine g_callV C (b := (Q 0)) (mc := 0) (ms := 0) (rm := rm_K_m_ts1) (As := [vI 44]) (wc := [((Q 0), .inr (12, [vR (Q 1), vR (Q 2), vR (Q 3), vR (Q 4), vR (Q 5), vI pn, vR (Q 6), vL f0, vL f1, vL f2, vL f3, vL px, vL py, vL pb, vI r2_1, vI w2_2, vR (Q 7), vI rn, vR (Q 8), vI wn])), ((Q 5), cI E 80 tx)]) (wr := [((Q 7), cI E 16 (ua rr (2 * rn) x2_3))]) (st := [vR (Q 0)]) gX11_readCorner_X11_takesSign (q9 := 0) (ci := 12) rfl rfl rfl (K_m_ts1 l E Q pn f0 f1 f2 f3 px py pb r2_1 w2_2 rn wn tx 44 hch hpn ⟨by omega, by omega⟩ (by omega) ⟨by omega, h44⟩ ⟨by decide, by decide⟩) hyd_X11_takesSign rfl [0, 1] [2] rfl rfl rfl rfl rfl (by decide) ⟨rfl, rfl⟩ ⟨Nat.le_of_ble_eq_true rfl, Nat.le_of_ble_eq_true rfl, Nat.le_of_ble_eq_true rfl, Nat.le_of_ble_eq_true rfl⟩ (Nat.le_of_ble_eq_true rfl) dX11_readCorner_26 (rfl : _ = 0) (rfl : _ = 0) rfl ?_
    rintro _ _ ⟨rfl, rfl⟩
    refine g_is (ws' := [((Q 7), cI E 16 (ua rr (2 * rn) x2_3)), ((Q 0), .inr (12, [vR (Q 1), vR (Q 2), vR (Q 3), vR (Q 4), vR (Q 5), vI pn, vR (Q 6), vL f0, vL f1, vL f2, vL f3, vL px, vL py, vL pb, vI (r2_1 + 1), vI w2_2, vR (Q 7), vI rn, vR (Q 8), vI wn])), ((Q 5), cI E 80 tx)]) (st' := [vI 1, vR (Q 0)]) rfl rfl ?_
    refine g_sub (ws' := [((Q 0), .inr (12, [vR (Q 1), vR (Q 2), vR (Q 3), vR (Q 4), vR (Q 5), vI pn, vR (Q 6), vL f0, vL f1, vL f2, vL f3, vL px, vL py, vL pb, vI (r2_1 + 1), vI w2_2, vR (Q 7), vI rn, vR (Q 8), vI wn])), ((Q 5), cI E 80 tx), ((Q 7), cI E 16 (ua rr (2 * rn) x2_3))]) [1, 2, 0] rfl rfl rfl ?_
    refine g_if_ne C (tgt := 36) ⟨by decide, by decide⟩ dX11_readCorner_29 (by decide) rfl (fun c_9 => ?_) (fun c_9 => ?_)
    · refine g_iconst C dX11_readCorner_36 rfl ?_
      refine g_put C tyX11 tyX11_ok nmX11 0 fd_X11_readCorner_285 rfl rfl rfl rfl (by decide) (by decide) (Nat.le_of_ble_eq_true rfl) (ws' := [((Q 0), .inr (12, [vR (Q 1), vR (Q 2), vR (Q 3), vR (Q 4), vR (Q 5), vI pn, vR (Q 6), vL f0, vL f1, vL f2, vL f3, vL px, vL py, vL pb, vI (r2_1 + 1), vI 0, vR (Q 7), vI rn, vR (Q 8), vI wn])), ((Q 5), cI E 80 tx), ((Q 7), cI E 16 (ua rr (2 * rn) x2_3))]) rfl dX11_readCorner_37 rfl ?_
      refine g_aload_n C 0 rfl dX11_readCorner_40 rfl ?_
      refine g_get C 0 fd_X11_readCorner_30 rfl rfl rfl dX11_readCorner_41 rfl ?_
      refine g_iconst C dX11_readCorner_44 rfl ?_
      refine g_aload_n C 0 rfl dX11_readCorner_45 rfl ?_
      refine g_get C 0 fd_X11_readCorner_297 rfl rfl rfl dX11_readCorner_46 rfl ?_
      refine g_imul C rfl dX11_readCorner_49 rfl ?_
      refine g_iconst C dX11_readCorner_50 rfl ?_
      refine g_iadd C rfl dX11_readCorner_51 rfl ?_
      refine g_aload_n C 0 rfl dX11_readCorner_52 rfl ?_
      refine g_callV C (b := (Q 0)) (mc := 0) (ms := 0) (rm := rm_K_m_rn) (As := []) (wc := [((Q 0), .inr (12, [vR (Q 1), vR (Q 2), vR (Q 3), vR (Q 4), vR (Q 5), vI pn, vR (Q 6), vL f0, vL f1, vL f2, vL f3, vL px, vL py, vL pb, vI (r2_1 + 1), vI 0, vR (Q 7), vI rn, vR (Q 8), vI wn])), ((Q 5), cI E 80 tx)]) (wr := [((Q 7), cI E 16 (ua rr (2 * rn) x2_3))]) (st := [vI ((2 * rn) + 1), vR (Q 7)]) gX11_readCorner_X11_readNumber (q9 := 0) (ci := 12) rfl rfl rfl (K_m_rn l E Q pn f0 f1 f2 f3 px py pb (r2_1 + 1) rn wn tx (ua X rn x2_3) Y rn 1 hch hpn ⟨by omega, by have := ns_lt (t := tx) (n := pn) (r := r2_1) (by omega); omega⟩) hyd_X11_readNumber rfl [0, 1] [2] rfl rfl rfl rfl rfl (by decide) ⟨rfl, rfl⟩ ⟨Nat.le_of_ble_eq_true rfl, Nat.le_of_ble_eq_true rfl, Nat.le_of_ble_eq_true rfl, Nat.le_of_ble_eq_true rfl⟩ (Nat.le_of_ble_eq_true rfl) dX11_readCorner_53 (rfl : _ = 0) (rfl : _ = 0) rfl ?_
      rintro _ _ ⟨r2_10, w2_11, x2_12, rfl, rfl, f_13, f_14, f_15, f_16⟩
      refine g_is (ws' := [((Q 7), cI E 16 (ua rr (2 * rn) x2_3)), ((Q 0), .inr (12, [vR (Q 1), vR (Q 2), vR (Q 3), vR (Q 4), vR (Q 5), vI pn, vR (Q 6), vL f0, vL f1, vL f2, vL f3, vL px, vL py, vL pb, vI r2_10, vI w2_11, vR (Q 7), vI rn, vR (Q 8), vI wn])), ((Q 5), cI E 80 tx)]) (st' := [vI x2_12, vI ((2 * rn) + 1), vR (Q 7)]) rfl rfl ?_
      refine g_sub (ws' := [((Q 0), .inr (12, [vR (Q 1), vR (Q 2), vR (Q 3), vR (Q 4), vR (Q 5), vI pn, vR (Q 6), vL f0, vL f1, vL f2, vL f3, vL px, vL py, vL pb, vI r2_10, vI w2_11, vR (Q 7), vI rn, vR (Q 8), vI wn])), ((Q 5), cI E 80 tx), ((Q 7), cI E 16 (ua rr (2 * rn) x2_3))]) [1, 2, 0] rfl rfl rfl ?_
      refine g_iast C 2 rfl (by omega) (by omega) (by decide) (ws' := [((Q 0), .inr (12, [vR (Q 1), vR (Q 2), vR (Q 3), vR (Q 4), vR (Q 5), vI pn, vR (Q 6), vL f0, vL f1, vL f2, vL f3, vL px, vL py, vL pb, vI r2_10, vI w2_11, vR (Q 7), vI rn, vR (Q 8), vI wn])), ((Q 5), cI E 80 tx), ((Q 7), cI E 16 (ua (ua rr (2 * rn) x2_3) ((2 * rn) + 1) x2_12))]) rfl dX11_readCorner_56 rfl ?_
      refine g_aload_n C 0 rfl dX11_readCorner_57 rfl ?_
      refine g_dup C rfl dX11_readCorner_58 rfl ?_
      refine g_get C 0 fd_X11_readCorner_297 rfl rfl rfl dX11_readCorner_59 rfl ?_
      refine g_iconst C dX11_readCorner_62 rfl ?_
      refine g_iadd C rfl dX11_readCorner_63 rfl ?_
      refine g_put C tyX11 tyX11_ok nmX11 0 fd_X11_readCorner_297 rfl rfl rfl rfl rfl rfl (Nat.le_of_ble_eq_true rfl) (ws' := [((Q 0), .inr (12, [vR (Q 1), vR (Q 2), vR (Q 3), vR (Q 4), vR (Q 5), vI pn, vR (Q 6), vL f0, vL f1, vL f2, vL f3, vL px, vL py, vL pb, vI r2_10, vI w2_11, vR (Q 7), vI (rn + 1), vR (Q 8), vI wn])), ((Q 5), cI E 80 tx), ((Q 7), cI E 16 (ua (ua rr (2 * rn) x2_3) ((2 * rn) + 1) x2_12))]) rfl dX11_readCorner_64 rfl ?_
      exact g_vret C hr (Nat.le_of_ble_eq_true rfl) (Nat.le_of_ble_eq_true rfl) dX11_readCorner_67 ⟨r2_10, w2_11, x2_3, x2_12, rfl, rfl, (by exact RC_2 (by omega) (by omega) f_4 (by omega) h44 f_13), (by first | omega | (have q9 := ns_lt (t := tx) (n := pn) (by assumption); omega)), (by first | assumption | exact Or.inr rfl | exact Or.inl rfl), (by exact ⟨by assumption, by first | assumption | exact ⟨by decide, by decide⟩⟩)⟩
    exact absurd c_9 (by decide)
  · refine g_aload_n C 0 rfl dX11_readCorner_23 rfl ?_
    refine g_bipush C (by decide) dX11_readCorner_24 rfl ?_
    refine g_callV C (b := (Q 0)) (mc := 0) (ms := 0) (rm := rm_K_m_ts0) (As := [vI 44]) (wc := [((Q 0), .inr (12, [vR (Q 1), vR (Q 2), vR (Q 3), vR (Q 4), vR (Q 5), vI pn, vR (Q 6), vL f0, vL f1, vL f2, vL f3, vL px, vL py, vL pb, vI r2_1, vI w2_2, vR (Q 7), vI rn, vR (Q 8), vI wn])), ((Q 5), cI E 80 tx)]) (wr := [((Q 7), cI E 16 (ua rr (2 * rn) x2_3))]) (st := [vR (Q 0)]) gX11_readCorner_X11_takesSign (q9 := 0) (ci := 12) rfl rfl rfl (K_m_ts0 l E Q pn f0 f1 f2 f3 px py pb r2_1 w2_2 rn wn tx 44 hch hpn ⟨by omega, by omega⟩ (by omega) (fun q => h44 q.2) ⟨by decide, by decide⟩) hyd_X11_takesSign rfl [0, 1] [2] rfl rfl rfl rfl rfl (by decide) ⟨rfl, rfl⟩ ⟨Nat.le_of_ble_eq_true rfl, Nat.le_of_ble_eq_true rfl, Nat.le_of_ble_eq_true rfl, Nat.le_of_ble_eq_true rfl⟩ (Nat.le_of_ble_eq_true rfl) dX11_readCorner_26 (rfl : _ = 0) (rfl : _ = 0) rfl ?_
    rintro _ _ ⟨rfl, rfl⟩
    refine g_is (ws' := [((Q 7), cI E 16 (ua rr (2 * rn) x2_3)), ((Q 0), .inr (12, [vR (Q 1), vR (Q 2), vR (Q 3), vR (Q 4), vR (Q 5), vI pn, vR (Q 6), vL f0, vL f1, vL f2, vL f3, vL px, vL py, vL pb, vI r2_1, vI w2_2, vR (Q 7), vI rn, vR (Q 8), vI wn])), ((Q 5), cI E 80 tx)]) (st' := [vI 0, vR (Q 0)]) rfl rfl ?_
    refine g_sub (ws' := [((Q 0), .inr (12, [vR (Q 1), vR (Q 2), vR (Q 3), vR (Q 4), vR (Q 5), vI pn, vR (Q 6), vL f0, vL f1, vL f2, vL f3, vL px, vL py, vL pb, vI r2_1, vI w2_2, vR (Q 7), vI rn, vR (Q 8), vI wn])), ((Q 5), cI E 80 tx), ((Q 7), cI E 16 (ua rr (2 * rn) x2_3))]) [1, 2, 0] rfl rfl rfl ?_
    refine g_if_ne C (tgt := 36) ⟨by decide, by decide⟩ dX11_readCorner_29 (by decide) rfl (fun c_17 => ?_) (fun c_17 => ?_)
    · exact absurd c_17 (by decide)
    refine g_iconst C dX11_readCorner_32 rfl ?_
    refine g_goto C (pc' := 37) dX11_readCorner_33 (by decide) ?_
    refine g_put C tyX11 tyX11_ok nmX11 0 fd_X11_readCorner_285 rfl rfl rfl rfl (by decide) (by decide) (Nat.le_of_ble_eq_true rfl) (ws' := [((Q 0), .inr (12, [vR (Q 1), vR (Q 2), vR (Q 3), vR (Q 4), vR (Q 5), vI pn, vR (Q 6), vL f0, vL f1, vL f2, vL f3, vL px, vL py, vL pb, vI r2_1, vI 1, vR (Q 7), vI rn, vR (Q 8), vI wn])), ((Q 5), cI E 80 tx), ((Q 7), cI E 16 (ua rr (2 * rn) x2_3))]) rfl dX11_readCorner_37 rfl ?_
    refine g_aload_n C 0 rfl dX11_readCorner_40 rfl ?_
    refine g_get C 0 fd_X11_readCorner_30 rfl rfl rfl dX11_readCorner_41 rfl ?_
    refine g_iconst C dX11_readCorner_44 rfl ?_
    refine g_aload_n C 0 rfl dX11_readCorner_45 rfl ?_
    refine g_get C 0 fd_X11_readCorner_297 rfl rfl rfl dX11_readCorner_46 rfl ?_
    refine g_imul C rfl dX11_readCorner_49 rfl ?_
    refine g_iconst C dX11_readCorner_50 rfl ?_
    refine g_iadd C rfl dX11_readCorner_51 rfl ?_
    refine g_aload_n C 0 rfl dX11_readCorner_52 rfl ?_
    refine g_callV C (b := (Q 0)) (mc := 0) (ms := 0) (rm := rm_K_m_rnW) (As := []) (wc := [((Q 0), .inr (12, [vR (Q 1), vR (Q 2), vR (Q 3), vR (Q 4), vR (Q 5), vI pn, vR (Q 6), vL f0, vL f1, vL f2, vL f3, vL px, vL py, vL pb, vI r2_1, vI 1, vR (Q 7), vI rn, vR (Q 8), vI wn])), ((Q 5), cI E 80 tx)]) (wr := [((Q 7), cI E 16 (ua rr (2 * rn) x2_3))]) (st := [vI ((2 * rn) + 1), vR (Q 7)]) gX11_readCorner_X11_readNumber (q9 := 0) (ci := 12) rfl rfl rfl (K_m_rnW l E Q pn f0 f1 f2 f3 px py pb r2_1 rn wn tx hch hpn ⟨by omega, by omega⟩) hyd_X11_readNumber rfl [0, 1] [2] rfl rfl rfl rfl rfl (by decide) ⟨rfl, rfl⟩ ⟨Nat.le_of_ble_eq_true rfl, Nat.le_of_ble_eq_true rfl, Nat.le_of_ble_eq_true rfl, Nat.le_of_ble_eq_true rfl⟩ (Nat.le_of_ble_eq_true rfl) dX11_readCorner_53 (rfl : _ = 0) (rfl : _ = 0) rfl ?_
    rintro _ _ ⟨rfl, rfl⟩
    refine g_is (ws' := [((Q 7), cI E 16 (ua rr (2 * rn) x2_3)), ((Q 0), .inr (12, [vR (Q 1), vR (Q 2), vR (Q 3), vR (Q 4), vR (Q 5), vI pn, vR (Q 6), vL f0, vL f1, vL f2, vL f3, vL px, vL py, vL pb, vI r2_1, vI 1, vR (Q 7), vI rn, vR (Q 8), vI wn])), ((Q 5), cI E 80 tx)]) (st' := [vI 0, vI ((2 * rn) + 1), vR (Q 7)]) rfl rfl ?_
    refine g_sub (ws' := [((Q 0), .inr (12, [vR (Q 1), vR (Q 2), vR (Q 3), vR (Q 4), vR (Q 5), vI pn, vR (Q 6), vL f0, vL f1, vL f2, vL f3, vL px, vL py, vL pb, vI r2_1, vI 1, vR (Q 7), vI rn, vR (Q 8), vI wn])), ((Q 5), cI E 80 tx), ((Q 7), cI E 16 (ua rr (2 * rn) x2_3))]) [1, 2, 0] rfl rfl rfl ?_
    refine g_iast C 2 rfl (by omega) (by omega) (by decide) (ws' := [((Q 0), .inr (12, [vR (Q 1), vR (Q 2), vR (Q 3), vR (Q 4), vR (Q 5), vI pn, vR (Q 6), vL f0, vL f1, vL f2, vL f3, vL px, vL py, vL pb, vI r2_1, vI 1, vR (Q 7), vI rn, vR (Q 8), vI wn])), ((Q 5), cI E 80 tx), ((Q 7), cI E 16 (ua (ua rr (2 * rn) x2_3) ((2 * rn) + 1) 0))]) rfl dX11_readCorner_56 rfl ?_
    refine g_aload_n C 0 rfl dX11_readCorner_57 rfl ?_
    refine g_dup C rfl dX11_readCorner_58 rfl ?_
    refine g_get C 0 fd_X11_readCorner_297 rfl rfl rfl dX11_readCorner_59 rfl ?_
    refine g_iconst C dX11_readCorner_62 rfl ?_
    refine g_iadd C rfl dX11_readCorner_63 rfl ?_
    refine g_put C tyX11 tyX11_ok nmX11 0 fd_X11_readCorner_297 rfl rfl rfl rfl rfl rfl (Nat.le_of_ble_eq_true rfl) (ws' := [((Q 0), .inr (12, [vR (Q 1), vR (Q 2), vR (Q 3), vR (Q 4), vR (Q 5), vI pn, vR (Q 6), vL f0, vL f1, vL f2, vL f3, vL px, vL py, vL pb, vI r2_1, vI 1, vR (Q 7), vI (rn + 1), vR (Q 8), vI wn])), ((Q 5), cI E 80 tx), ((Q 7), cI E 16 (ua (ua rr (2 * rn) x2_3) ((2 * rn) + 1) 0))]) rfl dX11_readCorner_64 rfl ?_
    exact g_vret C hr (Nat.le_of_ble_eq_true rfl) (Nat.le_of_ble_eq_true rfl) dX11_readCorner_67 ⟨r2_1, 1, x2_3, 0, rfl, rfl, (by exact RC_c ⟨by omega, by omega⟩ f_4 (by omega) h44), (by first | omega | (have q9 := ns_lt (t := tx) (n := pn) (by assumption); omega)), (by first | assumption | exact Or.inr rfl | exact Or.inl rfl), (by exact ⟨by assumption, by first | assumption | exact ⟨by decide, by decide⟩⟩)⟩

theorem in_X11_flaw_X11 : ∀ w ∈ u_ws RX11 TX11 20, w ∈ wsX11_flaw := by decide +kernel
theorem fd_X11_flaw_282 : fdk wsX11_flaw RX11 282 "ZoneRelayModel" RX11 TX11 20 14 := ⟨in_X11_flaw_X11, by decide +kernel, by decide, rfl⟩
theorem fd_X11_flaw_285 : fdk wsX11_flaw RX11 285 "ZoneRelayModel" RX11 TX11 20 15 := ⟨in_X11_flaw_X11, by decide +kernel, by decide, rfl⟩
theorem fd_X11_flaw_297 : fdk wsX11_flaw RX11 297 "ZoneRelayModel" RX11 TX11 20 17 := ⟨in_X11_flaw_X11, by decide +kernel, by decide, rfl⟩
theorem hyd_X11_readCorner : yX11_readCorner.cls ≠ "java/lang/invoke/MethodHandle" ∧ yX11_readCorner.cls ≠ "java/lang/invoke/VarHandle" ∧ (parseMethodDescriptor yX11_readCorner.desc).map (fun d => d.parameters.length) = some 0 := by decide +kernel
theorem fd_X11_flaw_278 : fdk wsX11_flaw RX11 278 "ZoneRelayModel" RX11 TX11 20 5 := ⟨in_X11_flaw_X11, by decide +kernel, by decide, rfl⟩
abbrev rm_M_flaw : Room := { frames := 4, cells := 0, slots := 0, locals := 83 }
set_option maxHeartbeats 1000000 in
set_option maxRecDepth 100000 in
theorem M_flaw (l : Launch) (E : Ev) (Q : Nat → Nat) (pn f0 f1 f2 f3 px py pb rg wr rn wn : Int) (a s2 s3 s4 tx rr ww : Int → Int) (B : Int) (hI : Inv a B) (hB : B ≤ 2900000) (hch : ∀ k : Int, 0 ≤ k → k < pn → ch (tx k)) (hpn : 0 ≤ pn ∧ pn ≤ 80) : Mc l yX11_flaw wsX11_flaw rm_M_flaw E [vR (Q 0)] [((Q 0), .inr (12, [vR (Q 1), vR (Q 2), vR (Q 3), vR (Q 4), vR (Q 5), vI pn, vR (Q 6), vL f0, vL f1, vL f2, vL f3, vL px, vL py, vL pb, vI rg, vI wr, vR (Q 7), vI rn, vR (Q 8), vI wn])), ((Q 1), cL E 310 a), ((Q 2), cL E 310 s2), ((Q 3), cL E 620 s3), ((Q 4), cZ E 2 s4), ((Q 5), cI E 80 tx), ((Q 6), cI E 24 cosT), ((Q 7), cI E 16 rr), ((Q 8), cI E 120 ww)] 0 0 (fun v9 w9 => ∃ (r2 : Int) (w2 : Int) (m2 : Int) (u2 : Int → Int), v9 = some (vI (q_flaw tx pn)) ∧ w9 = [((Q 0), .inr (12, [vR (Q 1), vR (Q 2), vR (Q 3), vR (Q 4), vR (Q 5), vI pn, vR (Q 6), vL f0, vL f1, vL f2, vL f3, vL px, vL py, vL pb, vI r2, vI w2, vR (Q 7), vI m2, vR (Q 8), vI wn])), ((Q 1), cL E 310 a), ((Q 2), cL E 310 s2), ((Q 3), cL E 620 s3), ((Q 4), cZ E 2 s4), ((Q 5), cI E 80 tx), ((Q 6), cI E 24 cosT), ((Q 7), cI E 16 u2), ((Q 8), cI E 120 ww)] ∧ (q_flaw tx pn = -6 → (rdP tx pn).2.1 = m2 ∧ ∀ k : Int, 0 ≤ k → k < m2 → (rdP tx pn).2.2.1 k = u2 (2 * k) ∧ (rdP tx pn).2.2.2 k = u2 (2 * k + 1)) ∧ (1 ≤ m2 ∧ m2 ≤ 8) ∧ ∀ k : Int, 0 ≤ k → k < 2 * m2 → cb (u2 k)) := by
  refine Mc.intro (cc := cX11_flaw) (maxL := 1) (ret := (some .int)) (lv0 := [(0, vR (Q 0))]) (by decide +kernel) rfl rfl (Nat.le_of_ble_eq_true rfl) ?_
  intro p9 e9 s9 m9 args9 below9 meth9 c9 A9 C hr hmn
  have C : Cx p9 s9 m9 args9 meth9 c9 E A9 1 cX11_flaw wsX11_flaw RX11 := C
  have hI0 := hI
  obtain ⟨iP, i4, iR, iE, iN, ⟨i21, i22, i23, i24, i25, i26, i27, i28⟩, iD, iW, i35, iS, iM, i90, i91, i94, i95, i96, i97, iT, iK, i104, iPn, iPc⟩ := hI
  refine g_aload_n C 0 rfl dX11_flaw_0 rfl ?_
  refine g_iconst C dX11_flaw_1 rfl ?_
  refine g_put C tyX11 tyX11_ok nmX11 0 fd_X11_flaw_282 rfl rfl rfl rfl rfl rfl (Nat.le_of_ble_eq_true rfl) (ws' := [((Q 0), .inr (12, [vR (Q 1), vR (Q 2), vR (Q 3), vR (Q 4), vR (Q 5), vI pn, vR (Q 6), vL f0, vL f1, vL f2, vL f3, vL px, vL py, vL pb, vI 0, vI wr, vR (Q 7), vI rn, vR (Q 8), vI wn])), ((Q 1), cL E 310 a), ((Q 2), cL E 310 s2), ((Q 3), cL E 620 s3), ((Q 4), cZ E 2 s4), ((Q 5), cI E 80 tx), ((Q 6), cI E 24 cosT), ((Q 7), cI E 16 rr), ((Q 8), cI E 120 ww)]) rfl dX11_flaw_2 rfl ?_
  refine g_aload_n C 0 rfl dX11_flaw_5 rfl ?_
  refine g_iconst C dX11_flaw_6 rfl ?_
  refine g_put C tyX11 tyX11_ok nmX11 0 fd_X11_flaw_285 rfl rfl rfl rfl (by decide) (by decide) (Nat.le_of_ble_eq_true rfl) (ws' := [((Q 0), .inr (12, [vR (Q 1), vR (Q 2), vR (Q 3), vR (Q 4), vR (Q 5), vI pn, vR (Q 6), vL f0, vL f1, vL f2, vL f3, vL px, vL py, vL pb, vI 0, vI 0, vR (Q 7), vI rn, vR (Q 8), vI wn])), ((Q 1), cL E 310 a), ((Q 2), cL E 310 s2), ((Q 3), cL E 620 s3), ((Q 4), cZ E 2 s4), ((Q 5), cI E 80 tx), ((Q 6), cI E 24 cosT), ((Q 7), cI E 16 rr), ((Q 8), cI E 120 ww)]) rfl dX11_flaw_7 rfl ?_
  refine g_aload_n C 0 rfl dX11_flaw_10 rfl ?_
  refine g_iconst C dX11_flaw_11 rfl ?_
  refine g_put C tyX11 tyX11_ok nmX11 0 fd_X11_flaw_297 rfl rfl rfl rfl rfl rfl (Nat.le_of_ble_eq_true rfl) (ws' := [((Q 0), .inr (12, [vR (Q 1), vR (Q 2), vR (Q 3), vR (Q 4), vR (Q 5), vI pn, vR (Q 6), vL f0, vL f1, vL f2, vL f3, vL px, vL py, vL pb, vI 0, vI 0, vR (Q 7), vI 0, vR (Q 8), vI wn])), ((Q 1), cL E 310 a), ((Q 2), cL E 310 s2), ((Q 3), cL E 620 s3), ((Q 4), cZ E 2 s4), ((Q 5), cI E 80 tx), ((Q 6), cI E 24 cosT), ((Q 7), cI E 16 rr), ((Q 8), cI E 120 ww)]) rfl dX11_flaw_12 rfl ?_
  refine g_aload_n C 0 rfl dX11_flaw_15 rfl ?_
  refine g_callV C (b := (Q 0)) (mc := 0) (ms := 0) (rm := rm_K_m_rc) (As := []) (wc := [((Q 0), .inr (12, [vR (Q 1), vR (Q 2), vR (Q 3), vR (Q 4), vR (Q 5), vI pn, vR (Q 6), vL f0, vL f1, vL f2, vL f3, vL px, vL py, vL pb, vI 0, vI 0, vR (Q 7), vI 0, vR (Q 8), vI wn])), ((Q 5), cI E 80 tx), ((Q 7), cI E 16 rr)]) (wr := [((Q 1), cL E 310 a), ((Q 2), cL E 310 s2), ((Q 3), cL E 620 s3), ((Q 4), cZ E 2 s4), ((Q 6), cI E 24 cosT), ((Q 8), cI E 120 ww)]) (st := []) gX11_flaw_X11_readCorner (q9 := 0) (ci := 12) rfl rfl rfl (K_m_rc l E Q pn f0 f1 f2 f3 px py pb 0 0 wn tx ((fun _ => 0)) ((fun _ => 0)) rr hch hpn ⟨by decide, hpn.1⟩ ⟨by decide, by decide⟩) hyd_X11_readCorner rfl [0, 5, 7] [1, 2, 3, 4, 6, 8] rfl rfl rfl rfl rfl (by decide) ⟨rfl, rfl⟩ ⟨Nat.le_of_ble_eq_true rfl, Nat.le_of_ble_eq_true rfl, Nat.le_of_ble_eq_true rfl, Nat.le_of_ble_eq_true rfl⟩ (Nat.le_of_ble_eq_true rfl) dX11_flaw_16 (rfl : _ = 0) (rfl : _ = 0) rfl ?_
  rintro _ _ ⟨r2_1, w2_2, x2_3, y2_4, rfl, rfl, f_5, f_6, f_7, f_8⟩
  refine g_is (ws' := [((Q 1), cL E 310 a), ((Q 2), cL E 310 s2), ((Q 3), cL E 620 s3), ((Q 4), cZ E 2 s4), ((Q 6), cI E 24 cosT), ((Q 8), cI E 120 ww), ((Q 0), .inr (12, [vR (Q 1), vR (Q 2), vR (Q 3), vR (Q 4), vR (Q 5), vI pn, vR (Q 6), vL f0, vL f1, vL f2, vL f3, vL px, vL py, vL pb, vI r2_1, vI w2_2, vR (Q 7), vI (0 + 1), vR (Q 8), vI wn])), ((Q 5), cI E 80 tx), ((Q 7), cI E 16 (ua (ua rr (2 * 0) x2_3) ((2 * 0) + 1) y2_4))]) (st' := []) rfl rfl ?_
  refine g_sub (ws' := [((Q 0), .inr (12, [vR (Q 1), vR (Q 2), vR (Q 3), vR (Q 4), vR (Q 5), vI pn, vR (Q 6), vL f0, vL f1, vL f2, vL f3, vL px, vL py, vL pb, vI r2_1, vI w2_2, vR (Q 7), vI (0 + 1), vR (Q 8), vI wn])), ((Q 1), cL E 310 a), ((Q 2), cL E 310 s2), ((Q 3), cL E 620 s3), ((Q 4), cZ E 2 s4), ((Q 5), cI E 80 tx), ((Q 6), cI E 24 cosT), ((Q 7), cI E 16 (ua (ua rr (2 * 0) x2_3) ((2 * 0) + 1) y2_4)), ((Q 8), cI E 120 ww)]) [6, 0, 1, 2, 3, 7, 4, 8, 5] rfl rfl rfl ?_
  have hL_19 : ∀ (fuel : Nat) (r9 : Int) (w9 : Int) (M9 : Int) (u9 : Int → Int) (h9r : 0 ≤ r9 ∧ r9 ≤ pn) (h9w : w9 = 0 ∨ w9 = 1) (h9M : 1 ≤ M9 ∧ M9 ≤ 8) (hFL : FL tx pn r9 w9 M9 u9) (hcu : ∀ k : Int, 0 ≤ k → k < 2 * M9 → cb (u9 k)) (hfu : (8 - M9).toNat = fuel), G p9 l e9 rm_M_flaw s9 m9 args9 below9 meth9 c9 (RQ E (fun v9 w9 => ∃ (r2 : Int) (w2 : Int) (m2 : Int) (u2 : Int → Int), v9 = some (vI (q_flaw tx pn)) ∧ w9 = [((Q 0), .inr (12, [vR (Q 1), vR (Q 2), vR (Q 3), vR (Q 4), vR (Q 5), vI pn, vR (Q 6), vL f0, vL f1, vL f2, vL f3, vL px, vL py, vL pb, vI r2, vI w2, vR (Q 7), vI m2, vR (Q 8), vI wn])), ((Q 1), cL E 310 a), ((Q 2), cL E 310 s2), ((Q 3), cL E 620 s3), ((Q 4), cZ E 2 s4), ((Q 5), cI E 80 tx), ((Q 6), cI E 24 cosT), ((Q 7), cI E 16 u2), ((Q 8), cI E 120 ww)] ∧ (q_flaw tx pn = -6 → (rdP tx pn).2.1 = m2 ∧ ∀ k : Int, 0 ≤ k → k < m2 → (rdP tx pn).2.2.1 k = u2 (2 * k) ∧ (rdP tx pn).2.2.2 k = u2 (2 * k + 1)) ∧ (1 ≤ m2 ∧ m2 ≤ 8) ∧ ∀ k : Int, 0 ≤ k → k < 2 * m2 → cb (u2 k)) A9 below9 args9 s9 0 0) E A9 1 0 0 [((Q 0), .inr (12, [vR (Q 1), vR (Q 2), vR (Q 3), vR (Q 4), vR (Q 5), vI pn, vR (Q 6), vL f0, vL f1, vL f2, vL f3, vL px, vL py, vL pb, vI r9, vI w9, vR (Q 7), vI M9, vR (Q 8), vI wn])), ((Q 1), cL E 310 a), ((Q 2), cL E 310 s2), ((Q 3), cL E 620 s3), ((Q 4), cZ E 2 s4), ((Q 5), cI E 80 tx), ((Q 6), cI E 24 cosT), ((Q 7), cI E 16 u9), ((Q 8), cI E 120 ww)] [(0, vR (Q 0))] 19 [] := by
    intro fuel
    induction fuel using Nat.strongRecOn with
    | ind fuel ih =>
      intro r9 w9 M9 u9 h9r h9w h9M hFL hcu hfu
      refine g_aload_n C 0 rfl dX11_flaw_19 rfl ?_
      refine g_get C 0 fd_X11_flaw_297 rfl rfl rfl dX11_flaw_20 rfl ?_
      refine g_bipush C (by decide) dX11_flaw_23 rfl ?_
      refine g_icmp_ge C (tgt := 44) ⟨by omega, by omega⟩ ⟨by decide, by decide⟩ dX11_flaw_25 (by decide) rfl (fun c_9 => ?_) (fun c_9 => ?_)
      · have hE := FL_e h9M h9r h9w hFL (by omega)
        refine g_aload_n C 0 rfl dX11_flaw_44 rfl ?_
        refine g_get C 0 fd_X11_flaw_285 rfl rfl rfl dX11_flaw_45 rfl ?_
        refine g_if_ne C (tgt := 62) ⟨by omega, by omega⟩ dX11_flaw_48 (by decide) rfl (fun c_10 => ?_) (fun c_10 => ?_)
        · refine g_aload_n C 0 rfl dX11_flaw_62 rfl ?_
          refine g_get C 0 fd_X11_flaw_282 rfl rfl rfl dX11_flaw_63 rfl ?_
          refine g_goto C (pc' := 71) dX11_flaw_66 (by decide) ?_
          refine g_top (v' := vI (q_flaw tx pn)) (congrArg (fun z_ : Int => vI z_) (show (q_flaw tx pn) = r9 by rw [hE.1]; (repeat' split) <;> first | rfl | omega)) ?_
          exact g_iret C hr rfl (Nat.le_of_ble_eq_true rfl) (Nat.le_of_ble_eq_true rfl) dX11_flaw_71 ⟨r9, w9, M9, u9, rfl, rfl, (by exact hE.2), (by exact h9M), (by exact hcu)⟩
        refine g_aload_n C 0 rfl dX11_flaw_51 rfl ?_
        refine g_get C 0 fd_X11_flaw_282 rfl rfl rfl dX11_flaw_52 rfl ?_
        refine g_aload_n C 0 rfl dX11_flaw_55 rfl ?_
        refine g_get C 0 fd_X11_flaw_278 rfl rfl rfl dX11_flaw_56 rfl ?_
        refine g_icmp_ge C (tgt := 69) ⟨by omega, by omega⟩ ⟨by omega, by omega⟩ dX11_flaw_59 (by decide) rfl (fun c_11 => ?_) (fun c_11 => ?_)
        · refine g_bipush C (by decide) dX11_flaw_69 rfl ?_
          refine g_top (v' := vI (q_flaw tx pn)) (congrArg (fun z_ : Int => vI z_) (show (q_flaw tx pn) = (-6) by rw [hE.1]; (repeat' split) <;> first | rfl | omega)) ?_
          exact g_iret C hr rfl (Nat.le_of_ble_eq_true rfl) (Nat.le_of_ble_eq_true rfl) dX11_flaw_71 ⟨r9, w9, M9, u9, rfl, rfl, (by exact hE.2), (by exact h9M), (by exact hcu)⟩
        refine g_aload_n C 0 rfl dX11_flaw_62 rfl ?_
        refine g_get C 0 fd_X11_flaw_282 rfl rfl rfl dX11_flaw_63 rfl ?_
        refine g_goto C (pc' := 71) dX11_flaw_66 (by decide) ?_
        refine g_top (v' := vI (q_flaw tx pn)) (congrArg (fun z_ : Int => vI z_) (show (q_flaw tx pn) = r9 by rw [hE.1]; (repeat' split) <;> first | rfl | omega)) ?_
        exact g_iret C hr rfl (Nat.le_of_ble_eq_true rfl) (Nat.le_of_ble_eq_true rfl) dX11_flaw_71 ⟨r9, w9, M9, u9, rfl, rfl, (by exact hE.2), (by exact h9M), (by exact hcu)⟩
      by_cases h47 : w9 = 0 ∧ ns tx pn r9 = 47
      · obtain ⟨e0, h47⟩ := h47
        subst e0
        obtain ⟨g9, d9, v9, X9, Y9, h9e, h9d, h9g, h9v, h9n, h9s, h9X, h9p⟩ := FL_0 hFL
        have hlt9 := ns_lt (t := tx) (n := pn) (r := r9) (by omega)
        refine g_aload_n C 0 rfl dX11_flaw_28 rfl ?_
        refine g_bipush C (by decide) dX11_flaw_29 rfl ?_
        refine g_callV C (b := (Q 0)) (mc := 0) (ms := 0) (rm := rm_K_m_ts1) (As := [vI 47]) (wc := [((Q 0), .inr (12, [vR (Q 1), vR (Q 2), vR (Q 3), vR (Q 4), vR (Q 5), vI pn, vR (Q 6), vL f0, vL f1, vL f2, vL f3, vL px, vL py, vL pb, vI r9, vI 0, vR (Q 7), vI M9, vR (Q 8), vI wn])), ((Q 5), cI E 80 tx)]) (wr := [((Q 1), cL E 310 a), ((Q 2), cL E 310 s2), ((Q 3), cL E 620 s3), ((Q 4), cZ E 2 s4), ((Q 6), cI E 24 cosT), ((Q 7), cI E 16 u9), ((Q 8), cI E 120 ww)]) (st := []) gX11_flaw_X11_takesSign (q9 := 0) (ci := 12) rfl rfl rfl (K_m_ts1 l E Q pn f0 f1 f2 f3 px py pb r9 0 M9 wn tx 47 hch hpn h9r (Or.inl rfl) ⟨rfl, h47⟩ ⟨by decide, by decide⟩) hyd_X11_takesSign rfl [0, 5] [1, 2, 3, 4, 6, 7, 8] rfl rfl rfl rfl rfl (by decide) ⟨rfl, rfl⟩ ⟨Nat.le_of_ble_eq_true rfl, Nat.le_of_ble_eq_true rfl, Nat.le_of_ble_eq_true rfl, Nat.le_of_ble_eq_true rfl⟩ (Nat.le_of_ble_eq_true rfl) dX11_flaw_31 (rfl : _ = 0) (rfl : _ = 0) rfl ?_
        rintro _ _ ⟨rfl, rfl⟩
        refine g_is (ws' := [((Q 1), cL E 310 a), ((Q 2), cL E 310 s2), ((Q 3), cL E 620 s3), ((Q 4), cZ E 2 s4), ((Q 6), cI E 24 cosT), ((Q 7), cI E 16 u9), ((Q 8), cI E 120 ww), ((Q 0), .inr (12, [vR (Q 1), vR (Q 2), vR (Q 3), vR (Q 4), vR (Q 5), vI pn, vR (Q 6), vL f0, vL f1, vL f2, vL f3, vL px, vL py, vL pb, vI (r9 + 1), vI 0, vR (Q 7), vI M9, vR (Q 8), vI wn])), ((Q 5), cI E 80 tx)]) (st' := [vI 1]) rfl rfl ?_
        refine g_sub (ws' := [((Q 0), .inr (12, [vR (Q 1), vR (Q 2), vR (Q 3), vR (Q 4), vR (Q 5), vI pn, vR (Q 6), vL f0, vL f1, vL f2, vL f3, vL px, vL py, vL pb, vI (r9 + 1), vI 0, vR (Q 7), vI M9, vR (Q 8), vI wn])), ((Q 1), cL E 310 a), ((Q 2), cL E 310 s2), ((Q 3), cL E 620 s3), ((Q 4), cZ E 2 s4), ((Q 5), cI E 80 tx), ((Q 6), cI E 24 cosT), ((Q 7), cI E 16 u9), ((Q 8), cI E 120 ww)]) [7, 0, 1, 2, 3, 8, 4, 5, 6] rfl rfl rfl ?_
        refine g_if_eq C (tgt := 44) ⟨by decide, by decide⟩ dX11_flaw_34 (by decide) rfl (fun c_12 => ?_) (fun c_12 => ?_)
        · exact absurd c_12 (by decide)
        refine g_aload_n C 0 rfl dX11_flaw_37 rfl ?_
        refine g_callV C (b := (Q 0)) (mc := 0) (ms := 0) (rm := rm_K_m_rc) (As := []) (wc := [((Q 0), .inr (12, [vR (Q 1), vR (Q 2), vR (Q 3), vR (Q 4), vR (Q 5), vI pn, vR (Q 6), vL f0, vL f1, vL f2, vL f3, vL px, vL py, vL pb, vI (r9 + 1), vI 0, vR (Q 7), vI M9, vR (Q 8), vI wn])), ((Q 5), cI E 80 tx), ((Q 7), cI E 16 u9)]) (wr := [((Q 1), cL E 310 a), ((Q 2), cL E 310 s2), ((Q 3), cL E 620 s3), ((Q 4), cZ E 2 s4), ((Q 6), cI E 24 cosT), ((Q 8), cI E 120 ww)]) (st := []) gX11_flaw_X11_readCorner (q9 := 0) (ci := 12) rfl rfl rfl (K_m_rc l E Q pn f0 f1 f2 f3 px py pb (r9 + 1) M9 wn tx X9 ((ua Y9 (M9 - 1) (num g9 v9))) u9 hch hpn ⟨by omega, by omega⟩ ⟨by omega, by omega⟩) hyd_X11_readCorner rfl [0, 5, 7] [1, 2, 3, 4, 6, 8] rfl rfl rfl rfl rfl (by decide) ⟨rfl, rfl⟩ ⟨Nat.le_of_ble_eq_true rfl, Nat.le_of_ble_eq_true rfl, Nat.le_of_ble_eq_true rfl, Nat.le_of_ble_eq_true rfl⟩ (Nat.le_of_ble_eq_true rfl) dX11_flaw_38 (rfl : _ = 0) (rfl : _ = 0) rfl ?_
        rintro _ _ ⟨r2_13, w2_14, x2_15, y2_16, rfl, rfl, f_17, f_18, f_19, f_20⟩
        refine g_is (ws' := [((Q 1), cL E 310 a), ((Q 2), cL E 310 s2), ((Q 3), cL E 620 s3), ((Q 4), cZ E 2 s4), ((Q 6), cI E 24 cosT), ((Q 8), cI E 120 ww), ((Q 0), .inr (12, [vR (Q 1), vR (Q 2), vR (Q 3), vR (Q 4), vR (Q 5), vI pn, vR (Q 6), vL f0, vL f1, vL f2, vL f3, vL px, vL py, vL pb, vI r2_13, vI w2_14, vR (Q 7), vI (M9 + 1), vR (Q 8), vI wn])), ((Q 5), cI E 80 tx), ((Q 7), cI E 16 (ua (ua u9 (2 * M9) x2_15) ((2 * M9) + 1) y2_16))]) (st' := []) rfl rfl ?_
        refine g_sub (ws' := [((Q 0), .inr (12, [vR (Q 1), vR (Q 2), vR (Q 3), vR (Q 4), vR (Q 5), vI pn, vR (Q 6), vL f0, vL f1, vL f2, vL f3, vL px, vL py, vL pb, vI r2_13, vI w2_14, vR (Q 7), vI (M9 + 1), vR (Q 8), vI wn])), ((Q 1), cL E 310 a), ((Q 2), cL E 310 s2), ((Q 3), cL E 620 s3), ((Q 4), cZ E 2 s4), ((Q 5), cI E 80 tx), ((Q 6), cI E 24 cosT), ((Q 7), cI E 16 (ua (ua u9 (2 * M9) x2_15) ((2 * M9) + 1) y2_16)), ((Q 8), cI E 120 ww)]) [6, 0, 1, 2, 3, 7, 4, 8, 5] rfl rfl rfl ?_
        refine g_goto C (pc' := 19) dX11_flaw_41 (by decide) ?_
        exact ih _ (by omega) r2_13 w2_14 (M9 + 1) (ua (ua u9 (2 * M9) x2_15) ((2 * M9) + 1) y2_16) ⟨by omega, by omega⟩ f_19 ⟨by omega, by omega⟩ (FL_s ⟨by omega, by omega⟩ (by omega) h9e h9d h9n h9X h9p h47 f_17 (by rw [ua_ne (by omega), ua_eq]) ua_eq (fun k h0 h1 => by rw [ua_ne (by omega), ua_ne (by omega)])) (fun k h0 h1 => by unfold ua; (repeat' split) <;> first | exact f_20.2 | exact f_20.1 | (apply hcu <;> omega) | (exfalso; omega)) rfl
      · refine g_aload_n C 0 rfl dX11_flaw_28 rfl ?_
        refine g_bipush C (by decide) dX11_flaw_29 rfl ?_
        refine g_callV C (b := (Q 0)) (mc := 0) (ms := 0) (rm := rm_K_m_ts0) (As := [vI 47]) (wc := [((Q 0), .inr (12, [vR (Q 1), vR (Q 2), vR (Q 3), vR (Q 4), vR (Q 5), vI pn, vR (Q 6), vL f0, vL f1, vL f2, vL f3, vL px, vL py, vL pb, vI r9, vI w9, vR (Q 7), vI M9, vR (Q 8), vI wn])), ((Q 5), cI E 80 tx)]) (wr := [((Q 1), cL E 310 a), ((Q 2), cL E 310 s2), ((Q 3), cL E 620 s3), ((Q 4), cZ E 2 s4), ((Q 6), cI E 24 cosT), ((Q 7), cI E 16 u9), ((Q 8), cI E 120 ww)]) (st := []) gX11_flaw_X11_takesSign (q9 := 0) (ci := 12) rfl rfl rfl (K_m_ts0 l E Q pn f0 f1 f2 f3 px py pb r9 w9 M9 wn tx 47 hch hpn h9r h9w h47 ⟨by decide, by decide⟩) hyd_X11_takesSign rfl [0, 5] [1, 2, 3, 4, 6, 7, 8] rfl rfl rfl rfl rfl (by decide) ⟨rfl, rfl⟩ ⟨Nat.le_of_ble_eq_true rfl, Nat.le_of_ble_eq_true rfl, Nat.le_of_ble_eq_true rfl, Nat.le_of_ble_eq_true rfl⟩ (Nat.le_of_ble_eq_true rfl) dX11_flaw_31 (rfl : _ = 0) (rfl : _ = 0) rfl ?_
        rintro _ _ ⟨rfl, rfl⟩
        refine g_is (ws' := [((Q 1), cL E 310 a), ((Q 2), cL E 310 s2), ((Q 3), cL E 620 s3), ((Q 4), cZ E 2 s4), ((Q 6), cI E 24 cosT), ((Q 7), cI E 16 u9), ((Q 8), cI E 120 ww), ((Q 0), .inr (12, [vR (Q 1), vR (Q 2), vR (Q 3), vR (Q 4), vR (Q 5), vI pn, vR (Q 6), vL f0, vL f1, vL f2, vL f3, vL px, vL py, vL pb, vI r9, vI w9, vR (Q 7), vI M9, vR (Q 8), vI wn])), ((Q 5), cI E 80 tx)]) (st' := [vI 0]) rfl rfl ?_
        refine g_sub (ws' := [((Q 0), .inr (12, [vR (Q 1), vR (Q 2), vR (Q 3), vR (Q 4), vR (Q 5), vI pn, vR (Q 6), vL f0, vL f1, vL f2, vL f3, vL px, vL py, vL pb, vI r9, vI w9, vR (Q 7), vI M9, vR (Q 8), vI wn])), ((Q 1), cL E 310 a), ((Q 2), cL E 310 s2), ((Q 3), cL E 620 s3), ((Q 4), cZ E 2 s4), ((Q 5), cI E 80 tx), ((Q 6), cI E 24 cosT), ((Q 7), cI E 16 u9), ((Q 8), cI E 120 ww)]) [7, 0, 1, 2, 3, 8, 4, 5, 6] rfl rfl rfl ?_
        refine g_if_eq C (tgt := 44) ⟨by decide, by decide⟩ dX11_flaw_34 (by decide) rfl (fun c_21 => ?_) (fun c_21 => ?_)
        · have hE := FL_e h9M h9r h9w hFL (by omega)
          refine g_aload_n C 0 rfl dX11_flaw_44 rfl ?_
          refine g_get C 0 fd_X11_flaw_285 rfl rfl rfl dX11_flaw_45 rfl ?_
          refine g_if_ne C (tgt := 62) ⟨by omega, by omega⟩ dX11_flaw_48 (by decide) rfl (fun c_22 => ?_) (fun c_22 => ?_)
          · refine g_aload_n C 0 rfl dX11_flaw_62 rfl ?_
            refine g_get C 0 fd_X11_flaw_282 rfl rfl rfl dX11_flaw_63 rfl ?_
            refine g_goto C (pc' := 71) dX11_flaw_66 (by decide) ?_
            refine g_top (v' := vI (q_flaw tx pn)) (congrArg (fun z_ : Int => vI z_) (show (q_flaw tx pn) = r9 by rw [hE.1]; (repeat' split) <;> first | rfl | omega)) ?_
            exact g_iret C hr rfl (Nat.le_of_ble_eq_true rfl) (Nat.le_of_ble_eq_true rfl) dX11_flaw_71 ⟨r9, w9, M9, u9, rfl, rfl, (by exact hE.2), (by exact h9M), (by exact hcu)⟩
          refine g_aload_n C 0 rfl dX11_flaw_51 rfl ?_
          refine g_get C 0 fd_X11_flaw_282 rfl rfl rfl dX11_flaw_52 rfl ?_
          refine g_aload_n C 0 rfl dX11_flaw_55 rfl ?_
          refine g_get C 0 fd_X11_flaw_278 rfl rfl rfl dX11_flaw_56 rfl ?_
          refine g_icmp_ge C (tgt := 69) ⟨by omega, by omega⟩ ⟨by omega, by omega⟩ dX11_flaw_59 (by decide) rfl (fun c_23 => ?_) (fun c_23 => ?_)
          · refine g_bipush C (by decide) dX11_flaw_69 rfl ?_
            refine g_top (v' := vI (q_flaw tx pn)) (congrArg (fun z_ : Int => vI z_) (show (q_flaw tx pn) = (-6) by rw [hE.1]; (repeat' split) <;> first | rfl | omega)) ?_
            exact g_iret C hr rfl (Nat.le_of_ble_eq_true rfl) (Nat.le_of_ble_eq_true rfl) dX11_flaw_71 ⟨r9, w9, M9, u9, rfl, rfl, (by exact hE.2), (by exact h9M), (by exact hcu)⟩
          refine g_aload_n C 0 rfl dX11_flaw_62 rfl ?_
          refine g_get C 0 fd_X11_flaw_282 rfl rfl rfl dX11_flaw_63 rfl ?_
          refine g_goto C (pc' := 71) dX11_flaw_66 (by decide) ?_
          refine g_top (v' := vI (q_flaw tx pn)) (congrArg (fun z_ : Int => vI z_) (show (q_flaw tx pn) = r9 by rw [hE.1]; (repeat' split) <;> first | rfl | omega)) ?_
          exact g_iret C hr rfl (Nat.le_of_ble_eq_true rfl) (Nat.le_of_ble_eq_true rfl) dX11_flaw_71 ⟨r9, w9, M9, u9, rfl, rfl, (by exact hE.2), (by exact h9M), (by exact hcu)⟩
        exact absurd c_21 (by decide)
  exact hL_19 _ r2_1 w2_2 (0 + 1) (ua (ua rr (2 * 0) x2_3) ((2 * 0) + 1) y2_4) ⟨by omega, by omega⟩ f_7 ⟨by omega, by omega⟩ (FL_1 f_5 (by rw [ua_ne (by decide)]; exact ua_eq) ua_eq) (fun k h0 h1 => by unfold ua; (repeat' split) <;> first | exact f_8.2 | exact f_8.1 | (exfalso; omega)) rfl

theorem hyd_X11_flaw : yX11_flaw.cls ≠ "java/lang/invoke/MethodHandle" ∧ yX11_flaw.cls ≠ "java/lang/invoke/VarHandle" ∧ (parseMethodDescriptor yX11_flaw.desc).map (fun d => d.parameters.length) = some 0 := by decide +kernel
theorem in_X11_load_X11 : ∀ w ∈ u_ws RX11 TX11 20, w ∈ wsX11_load := by decide +kernel
theorem fd_X11_load_7 : fdk wsX11_load RX11 7 "ZoneRelayModel" RX11 TX11 20 0 := ⟨in_X11_load_X11, by decide +kernel, by decide, rfl⟩
theorem fd_X11_load_297 : fdk wsX11_load RX11 297 "ZoneRelayModel" RX11 TX11 20 17 := ⟨in_X11_load_X11, by decide +kernel, by decide, rfl⟩
theorem fd_X11_load_278 : fdk wsX11_load RX11 278 "ZoneRelayModel" RX11 TX11 20 5 := ⟨in_X11_load_X11, by decide +kernel, by decide, rfl⟩
theorem fd_X11_load_30 : fdk wsX11_load RX11 30 "ZoneRelayModel" RX11 TX11 20 16 := ⟨in_X11_load_X11, by decide +kernel, by decide, rfl⟩
abbrev rm_M_load : Room := { frames := 5, cells := 0, slots := 0, locals := 103 }
set_option maxHeartbeats 1000000 in
set_option maxRecDepth 100000 in
theorem M_load (l : Launch) (E : Ev) (Q : Nat → Nat) (pn f0 f1 f2 f3 px py pb rg wr rn wn : Int) (a s2 s3 s4 tx rr ww : Int → Int) (B p : Int) (hI : Inv a B) (hB : B ≤ 2900000) (b_p : bi p) (hch : ∀ k : Int, 0 ≤ k → k < pn → ch (tx k)) (hpn : 0 ≤ pn ∧ pn ≤ 80) : Mc l yX11_load wsX11_load rm_M_load E [vR (Q 0), vI p] [((Q 0), .inr (12, [vR (Q 1), vR (Q 2), vR (Q 3), vR (Q 4), vR (Q 5), vI pn, vR (Q 6), vL f0, vL f1, vL f2, vL f3, vL px, vL py, vL pb, vI rg, vI wr, vR (Q 7), vI rn, vR (Q 8), vI wn])), ((Q 1), cL E 310 a), ((Q 2), cL E 310 s2), ((Q 3), cL E 620 s3), ((Q 4), cZ E 2 s4), ((Q 5), cI E 80 tx), ((Q 6), cI E 24 cosT), ((Q 7), cI E 16 rr), ((Q 8), cI E 120 ww)] 0 0 (fun v9 w9 => ∃ (r2 : Int) (w2 : Int) (m2 : Int) (u2 : Int → Int), v9 = some (vI (q_load tx pn p)) ∧ w9 = [((Q 0), .inr (12, [vR (Q 1), vR (Q 2), vR (Q 3), vR (Q 4), vR (Q 5), vI (n_lodN tx pn p), vR (Q 6), vL f0, vL f1, vL f2, vL f3, vL px, vL py, vL pb, vI r2, vI w2, vR (Q 7), vI m2, vR (Q 8), vI wn])), ((Q 1), cL E 310 (n_load a tx pn p)), ((Q 2), cL E 310 s2), ((Q 3), cL E 620 s3), ((Q 4), cZ E 2 s4), ((Q 5), cI E 80 tx), ((Q 6), cI E 24 cosT), ((Q 7), cI E 16 u2), ((Q 8), cI E 120 ww)]) := by
  refine Mc.intro (cc := cX11_load) (maxL := 3) (ret := (some .int)) (lv0 := [(0, vR (Q 0)), (1, vI p)]) (by decide +kernel) rfl rfl (Nat.le_of_ble_eq_true rfl) ?_
  intro p9 e9 s9 m9 args9 below9 meth9 c9 A9 C hr hmn
  have C : Cx p9 s9 m9 args9 meth9 c9 E A9 3 cX11_load wsX11_load RX11 := C
  have hI0 := hI
  obtain ⟨iP, i4, iR, iE, iN, ⟨i21, i22, i23, i24, i25, i26, i27, i28⟩, iD, iW, i35, iS, iM, i90, i91, i94, i95, i96, i97, iT, iK, i104, iPn, iPc⟩ := hI
  refine g_iload_n C 1 rfl dX11_load_0 rfl ?_
  refine g_callS C (mc := 0) (ms := 0) (rm := rm_K_m_isPoly) (As := [vI p]) (wc := []) (wr := [((Q 0), .inr (12, [vR (Q 1), vR (Q 2), vR (Q 3), vR (Q 4), vR (Q 5), vI pn, vR (Q 6), vL f0, vL f1, vL f2, vL f3, vL px, vL py, vL pb, vI rg, vI wr, vR (Q 7), vI rn, vR (Q 8), vI wn])), ((Q 1), cL E 310 a), ((Q 2), cL E 310 s2), ((Q 3), cL E 620 s3), ((Q 4), cZ E 2 s4), ((Q 5), cI E 80 tx), ((Q 6), cI E 24 cosT), ((Q 7), cI E 16 rr), ((Q 8), cI E 120 ww)]) (st := []) gX11_load_X11_isPolygon rfl (K_m_isPoly l E p b_p) hyd_X11_isPolygon rfl [] [0, 1, 2, 3, 4, 5, 6, 7, 8] rfl rfl rfl rfl rfl (by decide) ⟨rfl, rfl⟩ ⟨Nat.le_of_ble_eq_true rfl, Nat.le_of_ble_eq_true rfl, Nat.le_of_ble_eq_true rfl, Nat.le_of_ble_eq_true rfl⟩ (Nat.le_of_ble_eq_true rfl) dX11_load_1 (rfl : _ = 0) (rfl : _ = 0) rfl ?_
  rintro _ _ ⟨rfl, rfl⟩
  refine g_is (ws' := [((Q 0), .inr (12, [vR (Q 1), vR (Q 2), vR (Q 3), vR (Q 4), vR (Q 5), vI pn, vR (Q 6), vL f0, vL f1, vL f2, vL f3, vL px, vL py, vL pb, vI rg, vI wr, vR (Q 7), vI rn, vR (Q 8), vI wn])), ((Q 1), cL E 310 a), ((Q 2), cL E 310 s2), ((Q 3), cL E 620 s3), ((Q 4), cZ E 2 s4), ((Q 5), cI E 80 tx), ((Q 6), cI E 24 cosT), ((Q 7), cI E 16 rr), ((Q 8), cI E 120 ww)]) (st' := [vI (bP (0 ≤ p ∧ p ≤ 4))]) rfl rfl ?_
  refine g_ifb_ne C (tgt := 9) dX11_load_4 (by decide) rfl (fun c_1 => ?_) (fun c_1 => ?_)
  · have rF := rdP_RF tx hpn.1
    refine g_aload_n C 0 rfl dX11_load_9 rfl ?_
    refine g_callV C (b := (Q 0)) (mc := 0) (ms := 0) (rm := rm_M_flaw) (As := []) (wc := [((Q 0), .inr (12, [vR (Q 1), vR (Q 2), vR (Q 3), vR (Q 4), vR (Q 5), vI pn, vR (Q 6), vL f0, vL f1, vL f2, vL f3, vL px, vL py, vL pb, vI rg, vI wr, vR (Q 7), vI rn, vR (Q 8), vI wn])), ((Q 1), cL E 310 a), ((Q 2), cL E 310 s2), ((Q 3), cL E 620 s3), ((Q 4), cZ E 2 s4), ((Q 5), cI E 80 tx), ((Q 6), cI E 24 cosT), ((Q 7), cI E 16 rr), ((Q 8), cI E 120 ww)]) (wr := []) (st := []) gX11_load_X11_flaw (q9 := 0) (ci := 12) rfl rfl rfl (M_flaw l E Q pn f0 f1 f2 f3 px py pb rg wr rn wn a s2 s3 s4 tx rr ww B hI0 hB hch hpn) hyd_X11_flaw rfl [0, 1, 2, 3, 4, 5, 6, 7, 8] [] rfl rfl rfl rfl rfl (by decide) ⟨rfl, rfl⟩ ⟨Nat.le_of_ble_eq_true rfl, Nat.le_of_ble_eq_true rfl, Nat.le_of_ble_eq_true rfl, Nat.le_of_ble_eq_true rfl⟩ (Nat.le_of_ble_eq_true rfl) dX11_load_10 (rfl : _ = 0) (rfl : _ = 0) rfl ?_
    rintro _ _ ⟨r2_2, w2_3, m2_4, u2_5, rfl, rfl, f_6, f_7, f_8⟩
    refine g_is (ws' := [((Q 0), .inr (12, [vR (Q 1), vR (Q 2), vR (Q 3), vR (Q 4), vR (Q 5), vI pn, vR (Q 6), vL f0, vL f1, vL f2, vL f3, vL px, vL py, vL pb, vI r2_2, vI w2_3, vR (Q 7), vI m2_4, vR (Q 8), vI wn])), ((Q 1), cL E 310 a), ((Q 2), cL E 310 s2), ((Q 3), cL E 620 s3), ((Q 4), cZ E 2 s4), ((Q 5), cI E 80 tx), ((Q 6), cI E 24 cosT), ((Q 7), cI E 16 u2_5), ((Q 8), cI E 120 ww)]) (st' := [vI (q_flaw tx pn)]) rfl rfl ?_
    refine g_bipush C (by decide) dX11_load_13 rfl ?_
    refine g_icmp_eq C (tgt := 21) (⟨by omega, by omega⟩) ⟨by decide, by decide⟩ dX11_load_15 (by decide) rfl (fun c_9 => ?_) (fun c_9 => ?_)
    · have hq9 : q_flaw tx pn = -6 := by assumption
      have hrd := f_6 hq9
      refine g_aload_n C 0 rfl dX11_load_21 rfl ?_
      refine g_get C 0 fd_X11_load_7 rfl rfl rfl dX11_load_22 rfl ?_
      refine g_sipush C (by decide) dX11_load_25 rfl ?_
      refine g_bipush C (by decide) dX11_load_28 rfl ?_
      refine g_iload_n C 1 rfl dX11_load_30 rfl ?_
      refine g_imul C rfl dX11_load_31 rfl ?_
      refine g_iadd C rfl dX11_load_32 rfl ?_
      refine g_lconst0 C dX11_load_33 rfl ?_
      refine g_last C 1 rfl (by omega) (by omega) (by decide) (ws' := [((Q 0), .inr (12, [vR (Q 1), vR (Q 2), vR (Q 3), vR (Q 4), vR (Q 5), vI pn, vR (Q 6), vL f0, vL f1, vL f2, vL f3, vL px, vL py, vL pb, vI r2_2, vI w2_3, vR (Q 7), vI m2_4, vR (Q 8), vI wn])), ((Q 1), cL E 310 (ua a (225 + (17 * p)) 0)), ((Q 2), cL E 310 s2), ((Q 3), cL E 620 s3), ((Q 4), cZ E 2 s4), ((Q 5), cI E 80 tx), ((Q 6), cI E 24 cosT), ((Q 7), cI E 16 u2_5), ((Q 8), cI E 120 ww)]) rfl dX11_load_34 rfl ?_
      refine g_iconst C dX11_load_35 rfl ?_
      refine g_istore_n C (lv' := [(0, vR (Q 0)), (1, vI p), (2, vI 0)]) [1, 2, 0] (by decide) rfl rfl dX11_load_36 rfl ?_
      have hL_37 : ∀ (fuel : Nat) (i : Int) (h0 : 0 ≤ i) (h1 : i ≤ m2_4) (hfu : (m2_4 - i).toNat = fuel), G p9 l e9 rm_M_load s9 m9 args9 below9 meth9 c9 (RQ E (fun v9 w9 => ∃ (r2 : Int) (w2 : Int) (m2 : Int) (u2 : Int → Int), v9 = some (vI (q_load tx pn p)) ∧ w9 = [((Q 0), .inr (12, [vR (Q 1), vR (Q 2), vR (Q 3), vR (Q 4), vR (Q 5), vI (n_lodN tx pn p), vR (Q 6), vL f0, vL f1, vL f2, vL f3, vL px, vL py, vL pb, vI r2, vI w2, vR (Q 7), vI m2, vR (Q 8), vI wn])), ((Q 1), cL E 310 (n_load a tx pn p)), ((Q 2), cL E 310 s2), ((Q 3), cL E 620 s3), ((Q 4), cZ E 2 s4), ((Q 5), cI E 80 tx), ((Q 6), cI E 24 cosT), ((Q 7), cI E 16 u2), ((Q 8), cI E 120 ww)]) A9 below9 args9 s9 0 0) E A9 3 0 0 [((Q 0), .inr (12, [vR (Q 1), vR (Q 2), vR (Q 3), vR (Q 4), vR (Q 5), vI pn, vR (Q 6), vL f0, vL f1, vL f2, vL f3, vL px, vL py, vL pb, vI r2_2, vI w2_3, vR (Q 7), vI m2_4, vR (Q 8), vI wn])), ((Q 1), cL E 310 (s_lod a p (rdP tx pn).2.2.1 (rdP tx pn).2.2.2 (Int.toNat i))), ((Q 2), cL E 310 s2), ((Q 3), cL E 620 s3), ((Q 4), cZ E 2 s4), ((Q 5), cI E 80 tx), ((Q 6), cI E 24 cosT), ((Q 7), cI E 16 u2_5), ((Q 8), cI E 120 ww)] [(0, vR (Q 0)), (1, vI p), (2, vI i)] 37 [] := by
        intro fuel
        induction fuel using Nat.strongRecOn with
        | ind fuel ih =>
          intro i h0 h1 hfu
          refine g_iload_n C 2 rfl dX11_load_37 rfl ?_
          refine g_aload_n C 0 rfl dX11_load_38 rfl ?_
          refine g_get C 0 fd_X11_load_297 rfl rfl rfl dX11_load_39 rfl ?_
          refine g_icmp_ge C (tgt := 74) ⟨by omega, by omega⟩ ⟨by omega, by omega⟩ dX11_load_42 (by decide) rfl (fun c_10 => ?_) (fun c_10 => ?_)
          · have ei : i = m2_4 := by omega
            refine g_aload_n C 0 rfl dX11_load_74 rfl ?_
            refine g_iconst C dX11_load_75 rfl ?_
            refine g_put C tyX11 tyX11_ok nmX11 0 fd_X11_load_278 rfl rfl rfl rfl rfl rfl (Nat.le_of_ble_eq_true rfl) (ws' := [((Q 0), .inr (12, [vR (Q 1), vR (Q 2), vR (Q 3), vR (Q 4), vR (Q 5), vI 0, vR (Q 6), vL f0, vL f1, vL f2, vL f3, vL px, vL py, vL pb, vI r2_2, vI w2_3, vR (Q 7), vI m2_4, vR (Q 8), vI wn])), ((Q 1), cL E 310 (s_lod a p (rdP tx pn).2.2.1 (rdP tx pn).2.2.2 (Int.toNat i))), ((Q 2), cL E 310 s2), ((Q 3), cL E 620 s3), ((Q 4), cZ E 2 s4), ((Q 5), cI E 80 tx), ((Q 6), cI E 24 cosT), ((Q 7), cI E 16 u2_5), ((Q 8), cI E 120 ww)]) rfl dX11_load_76 rfl ?_
            refine g_aload_n C 0 rfl dX11_load_79 rfl ?_
            refine g_get C 0 fd_X11_load_297 rfl rfl rfl dX11_load_80 rfl ?_
            refine g_top (v' := vI (q_load tx pn p)) (congrArg (fun z_ : Int => vI z_) (show (q_load tx pn p) = m2_4 by unfold q_load; (repeat' split) <;> first | rfl | omega)) ?_
            have z_11 : (n_lodN tx pn p) = 0 := by unfold n_lodN; (repeat' split) <;> first | rfl | omega | contradiction
            have z_12 : cL E 310 (n_load a tx pn p) = cL E 310 (s_lod a p (rdP tx pn).2.2.1 (rdP tx pn).2.2.2 (Int.toNat i)) := cL_c (fun k_ k0_ k1_ => by unfold n_load; (repeat' split) <;> first | rfl | omega | (rw [hrd.1, ei]))
            have zz_13 := congr (congrArg (fun (y9_0 : Int) (y9_1 : va_E) => ([((Q 0), .inr (12, [vR (Q 1), vR (Q 2), vR (Q 3), vR (Q 4), vR (Q 5), vI y9_0, vR (Q 6), vL f0, vL f1, vL f2, vL f3, vL px, vL py, vL pb, vI r2_2, vI w2_3, vR (Q 7), vI m2_4, vR (Q 8), vI wn])), ((Q 1), y9_1), ((Q 2), cL E 310 s2), ((Q 3), cL E 620 s3), ((Q 4), cZ E 2 s4), ((Q 5), cI E 80 tx), ((Q 6), cI E 24 cosT), ((Q 7), cI E 16 u2_5), ((Q 8), cI E 120 ww)] : va_W)) z_11) z_12
            refine g_ws (ws' := [((Q 0), .inr (12, [vR (Q 1), vR (Q 2), vR (Q 3), vR (Q 4), vR (Q 5), vI (n_lodN tx pn p), vR (Q 6), vL f0, vL f1, vL f2, vL f3, vL px, vL py, vL pb, vI r2_2, vI w2_3, vR (Q 7), vI m2_4, vR (Q 8), vI wn])), ((Q 1), cL E 310 (n_load a tx pn p)), ((Q 2), cL E 310 s2), ((Q 3), cL E 620 s3), ((Q 4), cZ E 2 s4), ((Q 5), cI E 80 tx), ((Q 6), cI E 24 cosT), ((Q 7), cI E 16 u2_5), ((Q 8), cI E 120 ww)]) zz_13 ?_
            exact g_iret C hr rfl (Nat.le_of_ble_eq_true rfl) (Nat.le_of_ble_eq_true rfl) dX11_load_83 ⟨r2_2, w2_3, m2_4, u2_5, rfl, rfl⟩
          have cx9 := f_8 (2 * i) (by omega) (by omega)
          have cy9 := f_8 (2 * i + 1) (by omega) (by omega)
          have ln9 := lod_i (a := a) (p := p) (X := (rdP tx pn).2.2.1) (Y := (rdP tx pn).2.2.2) h0
          refine g_aload_n C 0 rfl dX11_load_45 rfl ?_
          refine g_iload_n C 1 rfl dX11_load_46 rfl ?_
          refine g_aload_n C 0 rfl dX11_load_47 rfl ?_
          refine g_get C 0 fd_X11_load_30 rfl rfl rfl dX11_load_48 rfl ?_
          refine g_iconst C dX11_load_51 rfl ?_
          refine g_iload_n C 2 rfl dX11_load_52 rfl ?_
          refine g_imul C rfl dX11_load_53 rfl ?_
          refine g_iald C 7 rfl (by omega) (by omega) (by decide) rfl dX11_load_54 rfl ?_
          refine g_aload_n C 0 rfl dX11_load_55 rfl ?_
          refine g_get C 0 fd_X11_load_30 rfl rfl rfl dX11_load_56 rfl ?_
          refine g_iconst C dX11_load_59 rfl ?_
          refine g_iload_n C 2 rfl dX11_load_60 rfl ?_
          refine g_imul C rfl dX11_load_61 rfl ?_
          refine g_iconst C dX11_load_62 rfl ?_
          refine g_iadd C rfl dX11_load_63 rfl ?_
          refine g_iald C 7 rfl (by omega) (by omega) (by decide) rfl dX11_load_64 rfl ?_
          refine g_callV C (b := (Q 0)) (mc := 0) (ms := 0) (rm := rm_K_m_append) (As := [vI p, vI (u2_5 (2 * i)), vI (u2_5 ((2 * i) + 1))]) (wc := [((Q 0), .inr (12, [vR (Q 1), vR (Q 2), vR (Q 3), vR (Q 4), vR (Q 5), vI pn, vR (Q 6), vL f0, vL f1, vL f2, vL f3, vL px, vL py, vL pb, vI r2_2, vI w2_3, vR (Q 7), vI m2_4, vR (Q 8), vI wn])), ((Q 1), cL E 310 (s_lod a p (rdP tx pn).2.2.1 (rdP tx pn).2.2.2 (Int.toNat i)))]) (wr := [((Q 2), cL E 310 s2), ((Q 3), cL E 620 s3), ((Q 4), cZ E 2 s4), ((Q 5), cI E 80 tx), ((Q 6), cI E 24 cosT), ((Q 7), cI E 16 u2_5), ((Q 8), cI E 120 ww)]) (st := []) gX11_load_X11_append (q9 := 0) (ci := 12) rfl rfl rfl (K_m_append l E Q pn f0 f1 f2 f3 px py pb r2_2 w2_3 m2_4 wn (s_lod a p (rdP tx pn).2.2.1 (rdP tx pn).2.2.2 (Int.toNat i)) p (u2_5 (2 * i)) (u2_5 ((2 * i) + 1)) (by omega) (by omega) ⟨by omega, by omega⟩ ⟨by omega, by omega⟩) hyd_X11_append rfl [0, 1] [2, 3, 4, 5, 6, 7, 8] rfl rfl rfl rfl rfl (by decide) ⟨rfl, rfl⟩ ⟨Nat.le_of_ble_eq_true rfl, Nat.le_of_ble_eq_true rfl, Nat.le_of_ble_eq_true rfl, Nat.le_of_ble_eq_true rfl⟩ (Nat.le_of_ble_eq_true rfl) dX11_load_65 (rfl : _ = 0) (rfl : _ = 0) rfl ?_
          rintro _ _ ⟨rfl, rfl⟩
          refine g_is (ws' := [((Q 2), cL E 310 s2), ((Q 3), cL E 620 s3), ((Q 4), cZ E 2 s4), ((Q 5), cI E 80 tx), ((Q 6), cI E 24 cosT), ((Q 7), cI E 16 u2_5), ((Q 8), cI E 120 ww), ((Q 0), .inr (12, [vR (Q 1), vR (Q 2), vR (Q 3), vR (Q 4), vR (Q 5), vI pn, vR (Q 6), vL f0, vL f1, vL f2, vL f3, vL px, vL py, vL pb, vI r2_2, vI w2_3, vR (Q 7), vI m2_4, vR (Q 8), vI wn])), ((Q 1), cL E 310 (s_app (s_lod a p (rdP tx pn).2.2.1 (rdP tx pn).2.2.2 (Int.toNat i)) p (u2_5 (2 * i)) (u2_5 ((2 * i) + 1))))]) (st' := []) rfl rfl ?_
          refine g_sub (ws' := [((Q 0), .inr (12, [vR (Q 1), vR (Q 2), vR (Q 3), vR (Q 4), vR (Q 5), vI pn, vR (Q 6), vL f0, vL f1, vL f2, vL f3, vL px, vL py, vL pb, vI r2_2, vI w2_3, vR (Q 7), vI m2_4, vR (Q 8), vI wn])), ((Q 1), cL E 310 (s_app (s_lod a p (rdP tx pn).2.2.1 (rdP tx pn).2.2.2 (Int.toNat i)) p (u2_5 (2 * i)) (u2_5 ((2 * i) + 1)))), ((Q 2), cL E 310 s2), ((Q 3), cL E 620 s3), ((Q 4), cZ E 2 s4), ((Q 5), cI E 80 tx), ((Q 6), cI E 24 cosT), ((Q 7), cI E 16 u2_5), ((Q 8), cI E 120 ww)]) [7, 8, 0, 1, 2, 3, 4, 5, 6] rfl rfl rfl ?_
          refine g_iinc C (r := (i + 1)) (lv' := [(0, vR (Q 0)), (1, vI p), (2, vI (i + 1))]) 2 [1, 2, 0] rfl rfl (by decide) rfl rfl dX11_load_68 rfl ?_
          refine g_goto C (pc' := 37) dX11_load_71 (by decide) ?_
          refine g_ws (ws' := [((Q 0), .inr (12, [vR (Q 1), vR (Q 2), vR (Q 3), vR (Q 4), vR (Q 5), vI pn, vR (Q 6), vL f0, vL f1, vL f2, vL f3, vL px, vL py, vL pb, vI r2_2, vI w2_3, vR (Q 7), vI m2_4, vR (Q 8), vI wn])), ((Q 1), cL E 310 (s_lod a p (rdP tx pn).2.2.1 (rdP tx pn).2.2.2 (Int.toNat (i + 1)))), ((Q 2), cL E 310 s2), ((Q 3), cL E 620 s3), ((Q 4), cZ E 2 s4), ((Q 5), cI E 80 tx), ((Q 6), cI E 24 cosT), ((Q 7), cI E 16 u2_5), ((Q 8), cI E 120 ww)]) (congrArg (fun z_ : Nat → Int64 => ([((Q 0), .inr (12, [vR (Q 1), vR (Q 2), vR (Q 3), vR (Q 4), vR (Q 5), vI pn, vR (Q 6), vL f0, vL f1, vL f2, vL f3, vL px, vL py, vL pb, vI r2_2, vI w2_3, vR (Q 7), vI m2_4, vR (Q 8), vI wn])), ((Q 1), .inl (E.2.1 1, 310, .inr (.inl z_))), ((Q 2), cL E 310 s2), ((Q 3), cL E 620 s3), ((Q 4), cZ E 2 s4), ((Q 5), cI E 80 tx), ((Q 6), cI E 24 cosT), ((Q 7), cI E 16 u2_5), ((Q 8), cI E 120 ww)] : va_W)) (show AL 310 (s_lod a p (rdP tx pn).2.2.1 (rdP tx pn).2.2.2 (Int.toNat (i + 1))) = AL 310 (s_app (s_lod a p (rdP tx pn).2.2.1 (rdP tx pn).2.2.2 (Int.toNat i)) p (u2_5 (2 * i)) (u2_5 ((2 * i) + 1))) from AL_c (fun k_ k0_ k1_ => by rw [lod_s h0, (hrd.2 i (by omega) (by omega)).1, (hrd.2 i (by omega) (by omega)).2]))) ?_
          exact ih _ (by omega) (i + 1) (by omega) (by omega) rfl
      refine g_ws (ws' := [((Q 0), .inr (12, [vR (Q 1), vR (Q 2), vR (Q 3), vR (Q 4), vR (Q 5), vI pn, vR (Q 6), vL f0, vL f1, vL f2, vL f3, vL px, vL py, vL pb, vI r2_2, vI w2_3, vR (Q 7), vI m2_4, vR (Q 8), vI wn])), ((Q 1), cL E 310 (s_lod a p (rdP tx pn).2.2.1 (rdP tx pn).2.2.2 (Int.toNat 0))), ((Q 2), cL E 310 s2), ((Q 3), cL E 620 s3), ((Q 4), cZ E 2 s4), ((Q 5), cI E 80 tx), ((Q 6), cI E 24 cosT), ((Q 7), cI E 16 u2_5), ((Q 8), cI E 120 ww)]) (congrArg (fun z_ : Nat → Int64 => ([((Q 0), .inr (12, [vR (Q 1), vR (Q 2), vR (Q 3), vR (Q 4), vR (Q 5), vI pn, vR (Q 6), vL f0, vL f1, vL f2, vL f3, vL px, vL py, vL pb, vI r2_2, vI w2_3, vR (Q 7), vI m2_4, vR (Q 8), vI wn])), ((Q 1), .inl (E.2.1 1, 310, .inr (.inl z_))), ((Q 2), cL E 310 s2), ((Q 3), cL E 620 s3), ((Q 4), cZ E 2 s4), ((Q 5), cI E 80 tx), ((Q 6), cI E 24 cosT), ((Q 7), cI E 16 u2_5), ((Q 8), cI E 120 ww)] : va_W)) (show AL 310 (s_lod a p (rdP tx pn).2.2.1 (rdP tx pn).2.2.2 (Int.toNat 0)) = AL 310 (ua a (225 + (17 * p)) 0) from AL_c (fun k_ k0_ k1_ => by rfl))) ?_
      exact hL_37 _ 0 (by omega) (by omega) rfl
    refine g_bipush C (by decide) dX11_load_18 rfl ?_
    refine g_top (v' := vI (q_load tx pn p)) (congrArg (fun z_ : Int => vI z_) (show (q_load tx pn p) = (-3) by unfold q_load; (repeat' split) <;> first | rfl | omega)) ?_
    have z_14 : (n_lodN tx pn p) = pn := by unfold n_lodN; (repeat' split) <;> first | rfl | omega | contradiction
    have z_15 : cL E 310 (n_load a tx pn p) = cL E 310 a := cL_c (fun k_ k0_ k1_ => by unfold n_load; (repeat' split) <;> first | rfl | omega | (rw [hrd.1, ei]))
    have zz_16 := congr (congrArg (fun (y9_0 : Int) (y9_1 : va_E) => ([((Q 0), .inr (12, [vR (Q 1), vR (Q 2), vR (Q 3), vR (Q 4), vR (Q 5), vI y9_0, vR (Q 6), vL f0, vL f1, vL f2, vL f3, vL px, vL py, vL pb, vI r2_2, vI w2_3, vR (Q 7), vI m2_4, vR (Q 8), vI wn])), ((Q 1), y9_1), ((Q 2), cL E 310 s2), ((Q 3), cL E 620 s3), ((Q 4), cZ E 2 s4), ((Q 5), cI E 80 tx), ((Q 6), cI E 24 cosT), ((Q 7), cI E 16 u2_5), ((Q 8), cI E 120 ww)] : va_W)) z_14) z_15
    refine g_ws (ws' := [((Q 0), .inr (12, [vR (Q 1), vR (Q 2), vR (Q 3), vR (Q 4), vR (Q 5), vI (n_lodN tx pn p), vR (Q 6), vL f0, vL f1, vL f2, vL f3, vL px, vL py, vL pb, vI r2_2, vI w2_3, vR (Q 7), vI m2_4, vR (Q 8), vI wn])), ((Q 1), cL E 310 (n_load a tx pn p)), ((Q 2), cL E 310 s2), ((Q 3), cL E 620 s3), ((Q 4), cZ E 2 s4), ((Q 5), cI E 80 tx), ((Q 6), cI E 24 cosT), ((Q 7), cI E 16 u2_5), ((Q 8), cI E 120 ww)]) zz_16 ?_
    exact g_iret C hr rfl (Nat.le_of_ble_eq_true rfl) (Nat.le_of_ble_eq_true rfl) dX11_load_20 ⟨r2_2, w2_3, m2_4, u2_5, rfl, rfl⟩
  refine g_iconst C dX11_load_7 rfl ?_
  refine g_top (v' := vI (q_load tx pn p)) (congrArg (fun z_ : Int => vI z_) (show (q_load tx pn p) = (-1) by unfold q_load; (repeat' split) <;> first | rfl | omega)) ?_
  have z_17 : (n_lodN tx pn p) = pn := by unfold n_lodN; (repeat' split) <;> first | rfl | omega | contradiction
  have z_18 : cL E 310 (n_load a tx pn p) = cL E 310 a := cL_c (fun k_ k0_ k1_ => by unfold n_load; (repeat' split) <;> first | rfl | omega | (rw [hrd.1, ei]))
  have zz_19 := congr (congrArg (fun (y9_0 : Int) (y9_1 : va_E) => ([((Q 0), .inr (12, [vR (Q 1), vR (Q 2), vR (Q 3), vR (Q 4), vR (Q 5), vI y9_0, vR (Q 6), vL f0, vL f1, vL f2, vL f3, vL px, vL py, vL pb, vI rg, vI wr, vR (Q 7), vI rn, vR (Q 8), vI wn])), ((Q 1), y9_1), ((Q 2), cL E 310 s2), ((Q 3), cL E 620 s3), ((Q 4), cZ E 2 s4), ((Q 5), cI E 80 tx), ((Q 6), cI E 24 cosT), ((Q 7), cI E 16 rr), ((Q 8), cI E 120 ww)] : va_W)) z_17) z_18
  refine g_ws (ws' := [((Q 0), .inr (12, [vR (Q 1), vR (Q 2), vR (Q 3), vR (Q 4), vR (Q 5), vI (n_lodN tx pn p), vR (Q 6), vL f0, vL f1, vL f2, vL f3, vL px, vL py, vL pb, vI rg, vI wr, vR (Q 7), vI rn, vR (Q 8), vI wn])), ((Q 1), cL E 310 (n_load a tx pn p)), ((Q 2), cL E 310 s2), ((Q 3), cL E 620 s3), ((Q 4), cZ E 2 s4), ((Q 5), cI E 80 tx), ((Q 6), cI E 24 cosT), ((Q 7), cI E 16 rr), ((Q 8), cI E 120 ww)]) zz_19 ?_
  exact g_iret C hr rfl (Nat.le_of_ble_eq_true rfl) (Nat.le_of_ble_eq_true rfl) dX11_load_8 ⟨rg, wr, rn, rr, rfl, rfl⟩

theorem in_X11_write_X11 : ∀ w ∈ u_ws RX11 TX11 20, w ∈ wsX11_write := by decide +kernel
theorem fd_X11_write_33 : fdk wsX11_write RX11 33 "ZoneRelayModel" RX11 TX11 20 18 := ⟨in_X11_write_X11, by decide +kernel, by decide, rfl⟩
theorem fd_X11_write_309 : fdk wsX11_write RX11 309 "ZoneRelayModel" RX11 TX11 20 19 := ⟨in_X11_write_X11, by decide +kernel, by decide, rfl⟩
abbrev rm_K_m_write : Room := { frames := 0, cells := 0, slots := 0, locals := 0 }
set_option maxHeartbeats 1000000 in
set_option maxRecDepth 100000 in
theorem K_m_write (l : Launch) (E : Ev) (Q : Nat → Nat) (pn f0 f1 f2 f3 px py pb rg wr rn wn : Int) (ww : Int → Int) (L : List Int) (c : Int) (hT : TX ww L) (hl : wn = (L.length : Int)) (hb : wn < 120) : Mc l yX11_write wsX11_write rm_K_m_write E [vR (Q 0), vI c] [((Q 0), .inr (12, [vR (Q 1), vR (Q 2), vR (Q 3), vR (Q 4), vR (Q 5), vI pn, vR (Q 6), vL f0, vL f1, vL f2, vL f3, vL px, vL py, vL pb, vI rg, vI wr, vR (Q 7), vI rn, vR (Q 8), vI wn])), ((Q 8), cI E 120 ww)] 0 0 (fun v9 w9 => v9 = none ∧ w9 = [((Q 0), .inr (12, [vR (Q 1), vR (Q 2), vR (Q 3), vR (Q 4), vR (Q 5), vI pn, vR (Q 6), vL f0, vL f1, vL f2, vL f3, vL px, vL py, vL pb, vI rg, vI wr, vR (Q 7), vI rn, vR (Q 8), vI (wn + 1)])), ((Q 8), cI E 120 (ua ww wn c))] ∧ TX (ua ww wn c) (L ++ [c])) := by
  refine Mc.intro (cc := cX11_write) (maxL := 2) (ret := none) (lv0 := [(0, vR (Q 0)), (1, vI c)]) (by decide +kernel) rfl rfl (Nat.le_of_ble_eq_true rfl) ?_
  intro p9 e9 s9 m9 args9 below9 meth9 c9 A9 C hr hmn
  have C : Cx p9 s9 m9 args9 meth9 c9 E A9 2 cX11_write wsX11_write RX11 := C
  refine g_aload_n C 0 rfl dX11_write_0 rfl ?_
  refine g_get C 0 fd_X11_write_33 rfl rfl rfl dX11_write_1 rfl ?_
  refine g_aload_n C 0 rfl dX11_write_4 rfl ?_
  refine g_get C 0 fd_X11_write_309 rfl rfl rfl dX11_write_5 rfl ?_
  refine g_iload_n C 1 rfl dX11_write_8 rfl ?_
  refine g_iast C 1 rfl (by omega) (by omega) (by decide) (ws' := [((Q 0), .inr (12, [vR (Q 1), vR (Q 2), vR (Q 3), vR (Q 4), vR (Q 5), vI pn, vR (Q 6), vL f0, vL f1, vL f2, vL f3, vL px, vL py, vL pb, vI rg, vI wr, vR (Q 7), vI rn, vR (Q 8), vI wn])), ((Q 8), cI E 120 (ua ww wn c))]) rfl dX11_write_9 rfl ?_
  refine g_aload_n C 0 rfl dX11_write_10 rfl ?_
  refine g_dup C rfl dX11_write_11 rfl ?_
  refine g_get C 0 fd_X11_write_309 rfl rfl rfl dX11_write_12 rfl ?_
  refine g_iconst C dX11_write_15 rfl ?_
  refine g_iadd C rfl dX11_write_16 rfl ?_
  refine g_put C tyX11 tyX11_ok nmX11 0 fd_X11_write_309 rfl rfl rfl rfl rfl rfl (Nat.le_of_ble_eq_true rfl) (ws' := [((Q 0), .inr (12, [vR (Q 1), vR (Q 2), vR (Q 3), vR (Q 4), vR (Q 5), vI pn, vR (Q 6), vL f0, vL f1, vL f2, vL f3, vL px, vL py, vL pb, vI rg, vI wr, vR (Q 7), vI rn, vR (Q 8), vI (wn + 1)])), ((Q 8), cI E 120 (ua ww wn c))]) rfl dX11_write_17 rfl ?_
  exact g_vret C hr (Nat.le_of_ble_eq_true rfl) (Nat.le_of_ble_eq_true rfl) dX11_write_20 ⟨rfl, rfl, (by exact TX_p hT hl)⟩

theorem w_X11_writeNumber_k315 : Cond.constantLong RX11 315 (10) ∈ wsX11_writeNumber := by decide +kernel
theorem hyd_X11_write : yX11_write.cls ≠ "java/lang/invoke/MethodHandle" ∧ yX11_write.cls ≠ "java/lang/invoke/VarHandle" ∧ (parseMethodDescriptor yX11_write.desc).map (fun d => d.parameters.length) = some 1 := by decide +kernel
abbrev rm_K_m_wnum : Room := { frames := 1, cells := 0, slots := 0, locals := 21 }
set_option maxHeartbeats 1000000 in
set_option maxRecDepth 100000 in
theorem K_m_wnum (l : Launch) (E : Ev) (Q : Nat → Nat) (pn f0 f1 f2 f3 px py pb rg wr rn wn : Int) (ww : Int → Int) (L : List Int) (x : Int) (hT : TX ww L) (hl : wn = (L.length : Int)) (hb : wn ≤ 113) (hx : cb x) : Mc l yX11_writeNumber wsX11_writeNumber rm_K_m_wnum E [vR (Q 0), vL x] [((Q 0), .inr (12, [vR (Q 1), vR (Q 2), vR (Q 3), vR (Q 4), vR (Q 5), vI pn, vR (Q 6), vL f0, vL f1, vL f2, vL f3, vL px, vL py, vL pb, vI rg, vI wr, vR (Q 7), vI rn, vR (Q 8), vI wn])), ((Q 8), cI E 120 ww)] 0 0 (fun v9 w9 => ∃ (u9 : Int → Int), v9 = none ∧ w9 = [((Q 0), .inr (12, [vR (Q 1), vR (Q 2), vR (Q 3), vR (Q 4), vR (Q 5), vI pn, vR (Q 6), vL f0, vL f1, vL f2, vL f3, vL px, vL py, vL pb, vI rg, vI wr, vR (Q 7), vI rn, vR (Q 8), vI (wn + (dlen x))])), ((Q 8), cI E 120 u9)] ∧ TX u9 (L ++ dgs x)) := by
  refine Mc.intro (cc := cX11_writeNumber) (maxL := 7) (ret := none) (lv0 := [(0, vR (Q 0)), (1, vL x)]) (by decide +kernel) rfl rfl (Nat.le_of_ble_eq_true rfl) ?_
  intro p9 e9 s9 m9 args9 below9 meth9 c9 A9 C hr hmn
  have C : Cx p9 s9 m9 args9 meth9 c9 E A9 7 cX11_writeNumber wsX11_writeNumber RX11 := C
  rcases dcases hx with ⟨hrx, hd⟩ | ⟨hrx, hd⟩ | ⟨hrx, hd⟩ | ⟨hrx, hd⟩ | ⟨hrx, hd⟩ | ⟨hrx, hd⟩ | ⟨hrx, hd⟩ | ⟨hrx, hd⟩ | ⟨hrx, hd⟩ | ⟨hrx, hd⟩
  · have ab : absI x = x := by unfold absI; split <;> omega
    have t0 : Int.tdiv (absI x) 1 = absI x / 1 := Int.tdiv_eq_ediv_of_nonneg (by omega)
    have u0 : Int.tmod (Int.tdiv (absI x) 1) 10 = absI x / 1 % 10 := by rw [t0]; exact Int.tmod_eq_emod_of_nonneg (by omega)
    refine g_lload_n C 1 rfl dX11_writeNumber_0 rfl ?_
    refine g_lconst0 C dX11_writeNumber_1 rfl ?_
    refine g_lcmp_ge C ⟨by omega, by omega⟩ ⟨by decide, by decide⟩ dX11_writeNumber_2 rfl (tgt := 12) dX11_writeNumber_3 (by decide) rfl (fun c_1 => ?_) (fun c_1 => ?_)
    · refine g_lload_n C 1 rfl dX11_writeNumber_12 rfl ?_
      refine g_callS C (mc := 0) (ms := 0) (rm := rm_K_m_size) (As := [vL x]) (wc := []) (wr := [((Q 0), .inr (12, [vR (Q 1), vR (Q 2), vR (Q 3), vR (Q 4), vR (Q 5), vI pn, vR (Q 6), vL f0, vL f1, vL f2, vL f3, vL px, vL py, vL pb, vI rg, vI wr, vR (Q 7), vI rn, vR (Q 8), vI wn])), ((Q 8), cI E 120 ww)]) (st := []) gX11_writeNumber_X11_size rfl (K_m_size l E x ⟨by omega, by omega⟩) hyd_X11_size rfl [] [0, 1] rfl rfl rfl rfl rfl (by decide) ⟨rfl, rfl⟩ ⟨Nat.le_of_ble_eq_true rfl, Nat.le_of_ble_eq_true rfl, Nat.le_of_ble_eq_true rfl, Nat.le_of_ble_eq_true rfl⟩ (Nat.le_of_ble_eq_true rfl) dX11_writeNumber_13 (rfl : _ = 0) (rfl : _ = 0) rfl ?_
      rintro _ _ ⟨rfl, rfl⟩
      refine g_is (ws' := [((Q 0), .inr (12, [vR (Q 1), vR (Q 2), vR (Q 3), vR (Q 4), vR (Q 5), vI pn, vR (Q 6), vL f0, vL f1, vL f2, vL f3, vL px, vL py, vL pb, vI rg, vI wr, vR (Q 7), vI rn, vR (Q 8), vI wn])), ((Q 8), cI E 120 ww)]) (st' := [vL (absI x)]) rfl rfl ?_
      refine g_lstore_n C (lv' := [(0, vR (Q 0)), (1, vL x), (3, vL (absI x))]) [1, 2, 0] (by decide) rfl rfl dX11_writeNumber_16 rfl ?_
      refine g_lconst1 C dX11_writeNumber_17 rfl ?_
      refine g_lstore C (lv' := [(0, vR (Q 0)), (1, vL x), (3, vL (absI x)), (5, vL 1)]) [1, 2, 3, 0] (by decide) rfl rfl dX11_writeNumber_18 rfl ?_
      refine g_lload_n C 2 rfl dX11_writeNumber_20 rfl ?_
      refine g_lload C 3 rfl dX11_writeNumber_21 rfl ?_
      refine g_ldiv C ⟨by omega, by omega⟩ ⟨by decide, by decide⟩ (by decide) rfl dX11_writeNumber_23 rfl ?_
      refine g_ldc2 C (x := 10) w_X11_writeNumber_k315 (by decide) dX11_writeNumber_24 rfl ?_
      refine g_lcmp_lt C ⟨by omega, by omega⟩ ⟨by decide, by decide⟩ dX11_writeNumber_27 rfl (tgt := 42) dX11_writeNumber_28 (by decide) rfl (fun c_2 => ?_) (fun c_2 => ?_)
      · refine g_lload C 3 rfl dX11_writeNumber_42 rfl ?_
        refine g_lconst0 C dX11_writeNumber_44 rfl ?_
        refine g_lcmp_le C ⟨by decide, by decide⟩ ⟨by decide, by decide⟩ dX11_writeNumber_45 rfl (tgt := 76) dX11_writeNumber_46 (by decide) rfl (fun c_3 => ?_) (fun c_3 => ?_)
        · exact absurd c_3 (by decide)
        refine g_aload_n C 0 rfl dX11_writeNumber_49 rfl ?_
        refine g_bipush C (by decide) dX11_writeNumber_50 rfl ?_
        refine g_lload_n C 2 rfl dX11_writeNumber_52 rfl ?_
        refine g_lload C 3 rfl dX11_writeNumber_53 rfl ?_
        refine g_ldiv C ⟨by omega, by omega⟩ ⟨by decide, by decide⟩ (by decide) rfl dX11_writeNumber_55 rfl ?_
        refine g_ldc2 C (x := 10) w_X11_writeNumber_k315 (by decide) dX11_writeNumber_56 rfl ?_
        refine g_lrem C ⟨by omega, by omega⟩ ⟨by decide, by decide⟩ (by decide) rfl dX11_writeNumber_59 rfl ?_
        refine g_l2i C rfl dX11_writeNumber_60 rfl ?_
        refine g_iadd C rfl dX11_writeNumber_61 rfl ?_
        refine g_callV C (b := (Q 0)) (mc := 0) (ms := 0) (rm := rm_K_m_write) (As := [vI (48 + (Int.tmod (Int.tdiv (absI x) 1) 10))]) (wc := [((Q 0), .inr (12, [vR (Q 1), vR (Q 2), vR (Q 3), vR (Q 4), vR (Q 5), vI pn, vR (Q 6), vL f0, vL f1, vL f2, vL f3, vL px, vL py, vL pb, vI rg, vI wr, vR (Q 7), vI rn, vR (Q 8), vI wn])), ((Q 8), cI E 120 ww)]) (wr := []) (st := []) gX11_writeNumber_X11_write (q9 := 0) (ci := 12) rfl rfl rfl (K_m_write l E Q pn f0 f1 f2 f3 px py pb rg wr rn wn ww L (48 + (Int.tmod (Int.tdiv (absI x) 1) 10)) hT hl (by omega)) hyd_X11_write rfl [0, 1] [] rfl rfl rfl rfl rfl (by decide) ⟨rfl, rfl⟩ ⟨Nat.le_of_ble_eq_true rfl, Nat.le_of_ble_eq_true rfl, Nat.le_of_ble_eq_true rfl, Nat.le_of_ble_eq_true rfl⟩ (Nat.le_of_ble_eq_true rfl) dX11_writeNumber_62 (rfl : _ = 0) (rfl : _ = 0) rfl ?_
        rintro _ _ ⟨rfl, rfl, f_4⟩
        refine g_is (ws' := [((Q 0), .inr (12, [vR (Q 1), vR (Q 2), vR (Q 3), vR (Q 4), vR (Q 5), vI pn, vR (Q 6), vL f0, vL f1, vL f2, vL f3, vL px, vL py, vL pb, vI rg, vI wr, vR (Q 7), vI rn, vR (Q 8), vI (wn + 1)])), ((Q 8), cI E 120 (ua ww wn (48 + (Int.tmod (Int.tdiv (absI x) 1) 10))))]) (st' := []) rfl rfl ?_
        have wl_5 : (wn + 1) = ((L ++ [(48 + (Int.tmod (Int.tdiv (absI x) 1) 10))]).length : Int) := len_1 hl
        refine g_lload C 3 rfl dX11_writeNumber_65 rfl ?_
        refine g_ldc2 C (x := 10) w_X11_writeNumber_k315 (by decide) dX11_writeNumber_67 rfl ?_
        refine g_ldiv C ⟨by decide, by decide⟩ ⟨by decide, by decide⟩ (by decide) (r := 0) (by decide) dX11_writeNumber_70 rfl ?_
        refine g_lstore C (lv' := [(0, vR (Q 0)), (1, vL x), (3, vL (absI x)), (5, vL 0)]) [1, 2, 3, 0] (by decide) rfl rfl dX11_writeNumber_71 rfl ?_
        refine g_goto C (pc' := 42) dX11_writeNumber_73 (by decide) ?_
        refine g_lload C 3 rfl dX11_writeNumber_42 rfl ?_
        refine g_lconst0 C dX11_writeNumber_44 rfl ?_
        refine g_lcmp_le C ⟨by decide, by decide⟩ ⟨by decide, by decide⟩ dX11_writeNumber_45 rfl (tgt := 76) dX11_writeNumber_46 (by decide) rfl (fun c_6 => ?_) (fun c_6 => ?_)
        · refine g_ws (ws' := [((Q 0), .inr (12, [vR (Q 1), vR (Q 2), vR (Q 3), vR (Q 4), vR (Q 5), vI pn, vR (Q 6), vL f0, vL f1, vL f2, vL f3, vL px, vL py, vL pb, vI rg, vI wr, vR (Q 7), vI rn, vR (Q 8), vI (wn + (dlen x))])), ((Q 8), cI E 120 (ua ww wn (48 + (Int.tmod (Int.tdiv (absI x) 1) 10))))]) (congrArg (fun z_ : Int => ([((Q 0), .inr (12, [vR (Q 1), vR (Q 2), vR (Q 3), vR (Q 4), vR (Q 5), vI pn, vR (Q 6), vL f0, vL f1, vL f2, vL f3, vL px, vL py, vL pb, vI rg, vI wr, vR (Q 7), vI rn, vR (Q 8), vI z_])), ((Q 8), cI E 120 (ua ww wn (48 + (Int.tmod (Int.tdiv (absI x) 1) 10))))] : va_W)) (show (wn + (dlen x)) = (wn + 1) by omega)) ?_
          exact g_vret C hr (Nat.le_of_ble_eq_true rfl) (Nat.le_of_ble_eq_true rfl) dX11_writeNumber_76 ⟨(ua ww wn (48 + (Int.tmod (Int.tdiv (absI x) 1) 10))), rfl, rfl, (by rw [dgs_p1 (v := x) (by omega)]; have g9 := f_4; (try simp only [List.append_assoc, List.cons_append, List.nil_append] at g9); refine TX_eq g9 ?_; simp only [List.append_cancel_left_eq, List.cons.injEq, and_true, true_and]; (repeat' apply And.intro) <;> omega)⟩
        exact absurd c_6 (by decide)
      exfalso; omega
    exfalso; omega
  · have ab : absI x = x := by unfold absI; split <;> omega
    have t0 : Int.tdiv (absI x) 1 = absI x / 1 := Int.tdiv_eq_ediv_of_nonneg (by omega)
    have u0 : Int.tmod (Int.tdiv (absI x) 1) 10 = absI x / 1 % 10 := by rw [t0]; exact Int.tmod_eq_emod_of_nonneg (by omega)
    have t1 : Int.tdiv (absI x) 10 = absI x / 10 := Int.tdiv_eq_ediv_of_nonneg (by omega)
    have u1 : Int.tmod (Int.tdiv (absI x) 10) 10 = absI x / 10 % 10 := by rw [t1]; exact Int.tmod_eq_emod_of_nonneg (by omega)
    refine g_lload_n C 1 rfl dX11_writeNumber_0 rfl ?_
    refine g_lconst0 C dX11_writeNumber_1 rfl ?_
    refine g_lcmp_ge C ⟨by omega, by omega⟩ ⟨by decide, by decide⟩ dX11_writeNumber_2 rfl (tgt := 12) dX11_writeNumber_3 (by decide) rfl (fun c_7 => ?_) (fun c_7 => ?_)
    · refine g_lload_n C 1 rfl dX11_writeNumber_12 rfl ?_
      refine g_callS C (mc := 0) (ms := 0) (rm := rm_K_m_size) (As := [vL x]) (wc := []) (wr := [((Q 0), .inr (12, [vR (Q 1), vR (Q 2), vR (Q 3), vR (Q 4), vR (Q 5), vI pn, vR (Q 6), vL f0, vL f1, vL f2, vL f3, vL px, vL py, vL pb, vI rg, vI wr, vR (Q 7), vI rn, vR (Q 8), vI wn])), ((Q 8), cI E 120 ww)]) (st := []) gX11_writeNumber_X11_size rfl (K_m_size l E x ⟨by omega, by omega⟩) hyd_X11_size rfl [] [0, 1] rfl rfl rfl rfl rfl (by decide) ⟨rfl, rfl⟩ ⟨Nat.le_of_ble_eq_true rfl, Nat.le_of_ble_eq_true rfl, Nat.le_of_ble_eq_true rfl, Nat.le_of_ble_eq_true rfl⟩ (Nat.le_of_ble_eq_true rfl) dX11_writeNumber_13 (rfl : _ = 0) (rfl : _ = 0) rfl ?_
      rintro _ _ ⟨rfl, rfl⟩
      refine g_is (ws' := [((Q 0), .inr (12, [vR (Q 1), vR (Q 2), vR (Q 3), vR (Q 4), vR (Q 5), vI pn, vR (Q 6), vL f0, vL f1, vL f2, vL f3, vL px, vL py, vL pb, vI rg, vI wr, vR (Q 7), vI rn, vR (Q 8), vI wn])), ((Q 8), cI E 120 ww)]) (st' := [vL (absI x)]) rfl rfl ?_
      refine g_lstore_n C (lv' := [(0, vR (Q 0)), (1, vL x), (3, vL (absI x))]) [1, 2, 0] (by decide) rfl rfl dX11_writeNumber_16 rfl ?_
      refine g_lconst1 C dX11_writeNumber_17 rfl ?_
      refine g_lstore C (lv' := [(0, vR (Q 0)), (1, vL x), (3, vL (absI x)), (5, vL 1)]) [1, 2, 3, 0] (by decide) rfl rfl dX11_writeNumber_18 rfl ?_
      refine g_lload_n C 2 rfl dX11_writeNumber_20 rfl ?_
      refine g_lload C 3 rfl dX11_writeNumber_21 rfl ?_
      refine g_ldiv C ⟨by omega, by omega⟩ ⟨by decide, by decide⟩ (by decide) rfl dX11_writeNumber_23 rfl ?_
      refine g_ldc2 C (x := 10) w_X11_writeNumber_k315 (by decide) dX11_writeNumber_24 rfl ?_
      refine g_lcmp_lt C ⟨by omega, by omega⟩ ⟨by decide, by decide⟩ dX11_writeNumber_27 rfl (tgt := 42) dX11_writeNumber_28 (by decide) rfl (fun c_8 => ?_) (fun c_8 => ?_)
      · exfalso; omega
      refine g_lload C 3 rfl dX11_writeNumber_31 rfl ?_
      refine g_ldc2 C (x := 10) w_X11_writeNumber_k315 (by decide) dX11_writeNumber_33 rfl ?_
      refine g_lmul C (r := 10) (by decide) dX11_writeNumber_36 rfl ?_
      refine g_lstore C (lv' := [(0, vR (Q 0)), (1, vL x), (3, vL (absI x)), (5, vL 10)]) [1, 2, 3, 0] (by decide) rfl rfl dX11_writeNumber_37 rfl ?_
      refine g_goto C (pc' := 20) dX11_writeNumber_39 (by decide) ?_
      refine g_lload_n C 2 rfl dX11_writeNumber_20 rfl ?_
      refine g_lload C 3 rfl dX11_writeNumber_21 rfl ?_
      refine g_ldiv C ⟨by omega, by omega⟩ ⟨by decide, by decide⟩ (by decide) rfl dX11_writeNumber_23 rfl ?_
      refine g_ldc2 C (x := 10) w_X11_writeNumber_k315 (by decide) dX11_writeNumber_24 rfl ?_
      refine g_lcmp_lt C ⟨by omega, by omega⟩ ⟨by decide, by decide⟩ dX11_writeNumber_27 rfl (tgt := 42) dX11_writeNumber_28 (by decide) rfl (fun c_9 => ?_) (fun c_9 => ?_)
      · refine g_lload C 3 rfl dX11_writeNumber_42 rfl ?_
        refine g_lconst0 C dX11_writeNumber_44 rfl ?_
        refine g_lcmp_le C ⟨by decide, by decide⟩ ⟨by decide, by decide⟩ dX11_writeNumber_45 rfl (tgt := 76) dX11_writeNumber_46 (by decide) rfl (fun c_10 => ?_) (fun c_10 => ?_)
        · exact absurd c_10 (by decide)
        refine g_aload_n C 0 rfl dX11_writeNumber_49 rfl ?_
        refine g_bipush C (by decide) dX11_writeNumber_50 rfl ?_
        refine g_lload_n C 2 rfl dX11_writeNumber_52 rfl ?_
        refine g_lload C 3 rfl dX11_writeNumber_53 rfl ?_
        refine g_ldiv C ⟨by omega, by omega⟩ ⟨by decide, by decide⟩ (by decide) rfl dX11_writeNumber_55 rfl ?_
        refine g_ldc2 C (x := 10) w_X11_writeNumber_k315 (by decide) dX11_writeNumber_56 rfl ?_
        refine g_lrem C ⟨by omega, by omega⟩ ⟨by decide, by decide⟩ (by decide) rfl dX11_writeNumber_59 rfl ?_
        refine g_l2i C rfl dX11_writeNumber_60 rfl ?_
        refine g_iadd C rfl dX11_writeNumber_61 rfl ?_
        refine g_callV C (b := (Q 0)) (mc := 0) (ms := 0) (rm := rm_K_m_write) (As := [vI (48 + (Int.tmod (Int.tdiv (absI x) 10) 10))]) (wc := [((Q 0), .inr (12, [vR (Q 1), vR (Q 2), vR (Q 3), vR (Q 4), vR (Q 5), vI pn, vR (Q 6), vL f0, vL f1, vL f2, vL f3, vL px, vL py, vL pb, vI rg, vI wr, vR (Q 7), vI rn, vR (Q 8), vI wn])), ((Q 8), cI E 120 ww)]) (wr := []) (st := []) gX11_writeNumber_X11_write (q9 := 0) (ci := 12) rfl rfl rfl (K_m_write l E Q pn f0 f1 f2 f3 px py pb rg wr rn wn ww L (48 + (Int.tmod (Int.tdiv (absI x) 10) 10)) hT hl (by omega)) hyd_X11_write rfl [0, 1] [] rfl rfl rfl rfl rfl (by decide) ⟨rfl, rfl⟩ ⟨Nat.le_of_ble_eq_true rfl, Nat.le_of_ble_eq_true rfl, Nat.le_of_ble_eq_true rfl, Nat.le_of_ble_eq_true rfl⟩ (Nat.le_of_ble_eq_true rfl) dX11_writeNumber_62 (rfl : _ = 0) (rfl : _ = 0) rfl ?_
        rintro _ _ ⟨rfl, rfl, f_11⟩
        refine g_is (ws' := [((Q 0), .inr (12, [vR (Q 1), vR (Q 2), vR (Q 3), vR (Q 4), vR (Q 5), vI pn, vR (Q 6), vL f0, vL f1, vL f2, vL f3, vL px, vL py, vL pb, vI rg, vI wr, vR (Q 7), vI rn, vR (Q 8), vI (wn + 1)])), ((Q 8), cI E 120 (ua ww wn (48 + (Int.tmod (Int.tdiv (absI x) 10) 10))))]) (st' := []) rfl rfl ?_
        have wl_12 : (wn + 1) = ((L ++ [(48 + (Int.tmod (Int.tdiv (absI x) 10) 10))]).length : Int) := len_1 hl
        refine g_lload C 3 rfl dX11_writeNumber_65 rfl ?_
        refine g_ldc2 C (x := 10) w_X11_writeNumber_k315 (by decide) dX11_writeNumber_67 rfl ?_
        refine g_ldiv C ⟨by decide, by decide⟩ ⟨by decide, by decide⟩ (by decide) (r := 1) (by decide) dX11_writeNumber_70 rfl ?_
        refine g_lstore C (lv' := [(0, vR (Q 0)), (1, vL x), (3, vL (absI x)), (5, vL 1)]) [1, 2, 3, 0] (by decide) rfl rfl dX11_writeNumber_71 rfl ?_
        refine g_goto C (pc' := 42) dX11_writeNumber_73 (by decide) ?_
        refine g_lload C 3 rfl dX11_writeNumber_42 rfl ?_
        refine g_lconst0 C dX11_writeNumber_44 rfl ?_
        refine g_lcmp_le C ⟨by decide, by decide⟩ ⟨by decide, by decide⟩ dX11_writeNumber_45 rfl (tgt := 76) dX11_writeNumber_46 (by decide) rfl (fun c_13 => ?_) (fun c_13 => ?_)
        · exact absurd c_13 (by decide)
        refine g_aload_n C 0 rfl dX11_writeNumber_49 rfl ?_
        refine g_bipush C (by decide) dX11_writeNumber_50 rfl ?_
        refine g_lload_n C 2 rfl dX11_writeNumber_52 rfl ?_
        refine g_lload C 3 rfl dX11_writeNumber_53 rfl ?_
        refine g_ldiv C ⟨by omega, by omega⟩ ⟨by decide, by decide⟩ (by decide) rfl dX11_writeNumber_55 rfl ?_
        refine g_ldc2 C (x := 10) w_X11_writeNumber_k315 (by decide) dX11_writeNumber_56 rfl ?_
        refine g_lrem C ⟨by omega, by omega⟩ ⟨by decide, by decide⟩ (by decide) rfl dX11_writeNumber_59 rfl ?_
        refine g_l2i C rfl dX11_writeNumber_60 rfl ?_
        refine g_iadd C rfl dX11_writeNumber_61 rfl ?_
        refine g_callV C (b := (Q 0)) (mc := 0) (ms := 0) (rm := rm_K_m_write) (As := [vI (48 + (Int.tmod (Int.tdiv (absI x) 1) 10))]) (wc := [((Q 0), .inr (12, [vR (Q 1), vR (Q 2), vR (Q 3), vR (Q 4), vR (Q 5), vI pn, vR (Q 6), vL f0, vL f1, vL f2, vL f3, vL px, vL py, vL pb, vI rg, vI wr, vR (Q 7), vI rn, vR (Q 8), vI (wn + 1)])), ((Q 8), cI E 120 (ua ww wn (48 + (Int.tmod (Int.tdiv (absI x) 10) 10))))]) (wr := []) (st := []) gX11_writeNumber_X11_write (q9 := 0) (ci := 12) rfl rfl rfl (K_m_write l E Q pn f0 f1 f2 f3 px py pb rg wr rn (wn + 1) (ua ww wn (48 + (Int.tmod (Int.tdiv (absI x) 10) 10))) ((L ++ [(48 + (Int.tmod (Int.tdiv (absI x) 10) 10))])) (48 + (Int.tmod (Int.tdiv (absI x) 1) 10)) f_11 wl_12 (by omega)) hyd_X11_write rfl [0, 1] [] rfl rfl rfl rfl rfl (by decide) ⟨rfl, rfl⟩ ⟨Nat.le_of_ble_eq_true rfl, Nat.le_of_ble_eq_true rfl, Nat.le_of_ble_eq_true rfl, Nat.le_of_ble_eq_true rfl⟩ (Nat.le_of_ble_eq_true rfl) dX11_writeNumber_62 (rfl : _ = 0) (rfl : _ = 0) rfl ?_
        rintro _ _ ⟨rfl, rfl, f_14⟩
        refine g_is (ws' := [((Q 0), .inr (12, [vR (Q 1), vR (Q 2), vR (Q 3), vR (Q 4), vR (Q 5), vI pn, vR (Q 6), vL f0, vL f1, vL f2, vL f3, vL px, vL py, vL pb, vI rg, vI wr, vR (Q 7), vI rn, vR (Q 8), vI ((wn + 1) + 1)])), ((Q 8), cI E 120 (ua (ua ww wn (48 + (Int.tmod (Int.tdiv (absI x) 10) 10))) (wn + 1) (48 + (Int.tmod (Int.tdiv (absI x) 1) 10))))]) (st' := []) rfl rfl ?_
        have wl_15 : ((wn + 1) + 1) = (((L ++ [(48 + (Int.tmod (Int.tdiv (absI x) 10) 10))]) ++ [(48 + (Int.tmod (Int.tdiv (absI x) 1) 10))]).length : Int) := len_1 wl_12
        refine g_lload C 3 rfl dX11_writeNumber_65 rfl ?_
        refine g_ldc2 C (x := 10) w_X11_writeNumber_k315 (by decide) dX11_writeNumber_67 rfl ?_
        refine g_ldiv C ⟨by decide, by decide⟩ ⟨by decide, by decide⟩ (by decide) (r := 0) (by decide) dX11_writeNumber_70 rfl ?_
        refine g_lstore C (lv' := [(0, vR (Q 0)), (1, vL x), (3, vL (absI x)), (5, vL 0)]) [1, 2, 3, 0] (by decide) rfl rfl dX11_writeNumber_71 rfl ?_
        refine g_goto C (pc' := 42) dX11_writeNumber_73 (by decide) ?_
        refine g_lload C 3 rfl dX11_writeNumber_42 rfl ?_
        refine g_lconst0 C dX11_writeNumber_44 rfl ?_
        refine g_lcmp_le C ⟨by decide, by decide⟩ ⟨by decide, by decide⟩ dX11_writeNumber_45 rfl (tgt := 76) dX11_writeNumber_46 (by decide) rfl (fun c_16 => ?_) (fun c_16 => ?_)
        · refine g_ws (ws' := [((Q 0), .inr (12, [vR (Q 1), vR (Q 2), vR (Q 3), vR (Q 4), vR (Q 5), vI pn, vR (Q 6), vL f0, vL f1, vL f2, vL f3, vL px, vL py, vL pb, vI rg, vI wr, vR (Q 7), vI rn, vR (Q 8), vI (wn + (dlen x))])), ((Q 8), cI E 120 (ua (ua ww wn (48 + (Int.tmod (Int.tdiv (absI x) 10) 10))) (wn + 1) (48 + (Int.tmod (Int.tdiv (absI x) 1) 10))))]) (congrArg (fun z_ : Int => ([((Q 0), .inr (12, [vR (Q 1), vR (Q 2), vR (Q 3), vR (Q 4), vR (Q 5), vI pn, vR (Q 6), vL f0, vL f1, vL f2, vL f3, vL px, vL py, vL pb, vI rg, vI wr, vR (Q 7), vI rn, vR (Q 8), vI z_])), ((Q 8), cI E 120 (ua (ua ww wn (48 + (Int.tmod (Int.tdiv (absI x) 10) 10))) (wn + 1) (48 + (Int.tmod (Int.tdiv (absI x) 1) 10))))] : va_W)) (show (wn + (dlen x)) = ((wn + 1) + 1) by omega)) ?_
          exact g_vret C hr (Nat.le_of_ble_eq_true rfl) (Nat.le_of_ble_eq_true rfl) dX11_writeNumber_76 ⟨(ua (ua ww wn (48 + (Int.tmod (Int.tdiv (absI x) 10) 10))) (wn + 1) (48 + (Int.tmod (Int.tdiv (absI x) 1) 10))), rfl, rfl, (by rw [dgs_p2 (v := x) (by omega)]; have g9 := f_14; (try simp only [List.append_assoc, List.cons_append, List.nil_append] at g9); refine TX_eq g9 ?_; simp only [List.append_cancel_left_eq, List.cons.injEq, and_true, true_and]; (repeat' apply And.intro) <;> omega)⟩
        exact absurd c_16 (by decide)
      exfalso; omega
    exfalso; omega
  · have ab : absI x = x := by unfold absI; split <;> omega
    have t0 : Int.tdiv (absI x) 1 = absI x / 1 := Int.tdiv_eq_ediv_of_nonneg (by omega)
    have u0 : Int.tmod (Int.tdiv (absI x) 1) 10 = absI x / 1 % 10 := by rw [t0]; exact Int.tmod_eq_emod_of_nonneg (by omega)
    have t1 : Int.tdiv (absI x) 10 = absI x / 10 := Int.tdiv_eq_ediv_of_nonneg (by omega)
    have u1 : Int.tmod (Int.tdiv (absI x) 10) 10 = absI x / 10 % 10 := by rw [t1]; exact Int.tmod_eq_emod_of_nonneg (by omega)
    have t2 : Int.tdiv (absI x) 100 = absI x / 100 := Int.tdiv_eq_ediv_of_nonneg (by omega)
    have u2 : Int.tmod (Int.tdiv (absI x) 100) 10 = absI x / 100 % 10 := by rw [t2]; exact Int.tmod_eq_emod_of_nonneg (by omega)
    refine g_lload_n C 1 rfl dX11_writeNumber_0 rfl ?_
    refine g_lconst0 C dX11_writeNumber_1 rfl ?_
    refine g_lcmp_ge C ⟨by omega, by omega⟩ ⟨by decide, by decide⟩ dX11_writeNumber_2 rfl (tgt := 12) dX11_writeNumber_3 (by decide) rfl (fun c_17 => ?_) (fun c_17 => ?_)
    · refine g_lload_n C 1 rfl dX11_writeNumber_12 rfl ?_
      refine g_callS C (mc := 0) (ms := 0) (rm := rm_K_m_size) (As := [vL x]) (wc := []) (wr := [((Q 0), .inr (12, [vR (Q 1), vR (Q 2), vR (Q 3), vR (Q 4), vR (Q 5), vI pn, vR (Q 6), vL f0, vL f1, vL f2, vL f3, vL px, vL py, vL pb, vI rg, vI wr, vR (Q 7), vI rn, vR (Q 8), vI wn])), ((Q 8), cI E 120 ww)]) (st := []) gX11_writeNumber_X11_size rfl (K_m_size l E x ⟨by omega, by omega⟩) hyd_X11_size rfl [] [0, 1] rfl rfl rfl rfl rfl (by decide) ⟨rfl, rfl⟩ ⟨Nat.le_of_ble_eq_true rfl, Nat.le_of_ble_eq_true rfl, Nat.le_of_ble_eq_true rfl, Nat.le_of_ble_eq_true rfl⟩ (Nat.le_of_ble_eq_true rfl) dX11_writeNumber_13 (rfl : _ = 0) (rfl : _ = 0) rfl ?_
      rintro _ _ ⟨rfl, rfl⟩
      refine g_is (ws' := [((Q 0), .inr (12, [vR (Q 1), vR (Q 2), vR (Q 3), vR (Q 4), vR (Q 5), vI pn, vR (Q 6), vL f0, vL f1, vL f2, vL f3, vL px, vL py, vL pb, vI rg, vI wr, vR (Q 7), vI rn, vR (Q 8), vI wn])), ((Q 8), cI E 120 ww)]) (st' := [vL (absI x)]) rfl rfl ?_
      refine g_lstore_n C (lv' := [(0, vR (Q 0)), (1, vL x), (3, vL (absI x))]) [1, 2, 0] (by decide) rfl rfl dX11_writeNumber_16 rfl ?_
      refine g_lconst1 C dX11_writeNumber_17 rfl ?_
      refine g_lstore C (lv' := [(0, vR (Q 0)), (1, vL x), (3, vL (absI x)), (5, vL 1)]) [1, 2, 3, 0] (by decide) rfl rfl dX11_writeNumber_18 rfl ?_
      refine g_lload_n C 2 rfl dX11_writeNumber_20 rfl ?_
      refine g_lload C 3 rfl dX11_writeNumber_21 rfl ?_
      refine g_ldiv C ⟨by omega, by omega⟩ ⟨by decide, by decide⟩ (by decide) rfl dX11_writeNumber_23 rfl ?_
      refine g_ldc2 C (x := 10) w_X11_writeNumber_k315 (by decide) dX11_writeNumber_24 rfl ?_
      refine g_lcmp_lt C ⟨by omega, by omega⟩ ⟨by decide, by decide⟩ dX11_writeNumber_27 rfl (tgt := 42) dX11_writeNumber_28 (by decide) rfl (fun c_18 => ?_) (fun c_18 => ?_)
      · exfalso; omega
      refine g_lload C 3 rfl dX11_writeNumber_31 rfl ?_
      refine g_ldc2 C (x := 10) w_X11_writeNumber_k315 (by decide) dX11_writeNumber_33 rfl ?_
      refine g_lmul C (r := 10) (by decide) dX11_writeNumber_36 rfl ?_
      refine g_lstore C (lv' := [(0, vR (Q 0)), (1, vL x), (3, vL (absI x)), (5, vL 10)]) [1, 2, 3, 0] (by decide) rfl rfl dX11_writeNumber_37 rfl ?_
      refine g_goto C (pc' := 20) dX11_writeNumber_39 (by decide) ?_
      refine g_lload_n C 2 rfl dX11_writeNumber_20 rfl ?_
      refine g_lload C 3 rfl dX11_writeNumber_21 rfl ?_
      refine g_ldiv C ⟨by omega, by omega⟩ ⟨by decide, by decide⟩ (by decide) rfl dX11_writeNumber_23 rfl ?_
      refine g_ldc2 C (x := 10) w_X11_writeNumber_k315 (by decide) dX11_writeNumber_24 rfl ?_
      refine g_lcmp_lt C ⟨by omega, by omega⟩ ⟨by decide, by decide⟩ dX11_writeNumber_27 rfl (tgt := 42) dX11_writeNumber_28 (by decide) rfl (fun c_19 => ?_) (fun c_19 => ?_)
      · exfalso; omega
      refine g_lload C 3 rfl dX11_writeNumber_31 rfl ?_
      refine g_ldc2 C (x := 10) w_X11_writeNumber_k315 (by decide) dX11_writeNumber_33 rfl ?_
      refine g_lmul C (r := 100) (by decide) dX11_writeNumber_36 rfl ?_
      refine g_lstore C (lv' := [(0, vR (Q 0)), (1, vL x), (3, vL (absI x)), (5, vL 100)]) [1, 2, 3, 0] (by decide) rfl rfl dX11_writeNumber_37 rfl ?_
      refine g_goto C (pc' := 20) dX11_writeNumber_39 (by decide) ?_
      refine g_lload_n C 2 rfl dX11_writeNumber_20 rfl ?_
      refine g_lload C 3 rfl dX11_writeNumber_21 rfl ?_
      refine g_ldiv C ⟨by omega, by omega⟩ ⟨by decide, by decide⟩ (by decide) rfl dX11_writeNumber_23 rfl ?_
      refine g_ldc2 C (x := 10) w_X11_writeNumber_k315 (by decide) dX11_writeNumber_24 rfl ?_
      refine g_lcmp_lt C ⟨by omega, by omega⟩ ⟨by decide, by decide⟩ dX11_writeNumber_27 rfl (tgt := 42) dX11_writeNumber_28 (by decide) rfl (fun c_20 => ?_) (fun c_20 => ?_)
      · refine g_lload C 3 rfl dX11_writeNumber_42 rfl ?_
        refine g_lconst0 C dX11_writeNumber_44 rfl ?_
        refine g_lcmp_le C ⟨by decide, by decide⟩ ⟨by decide, by decide⟩ dX11_writeNumber_45 rfl (tgt := 76) dX11_writeNumber_46 (by decide) rfl (fun c_21 => ?_) (fun c_21 => ?_)
        · exact absurd c_21 (by decide)
        refine g_aload_n C 0 rfl dX11_writeNumber_49 rfl ?_
        refine g_bipush C (by decide) dX11_writeNumber_50 rfl ?_
        refine g_lload_n C 2 rfl dX11_writeNumber_52 rfl ?_
        refine g_lload C 3 rfl dX11_writeNumber_53 rfl ?_
        refine g_ldiv C ⟨by omega, by omega⟩ ⟨by decide, by decide⟩ (by decide) rfl dX11_writeNumber_55 rfl ?_
        refine g_ldc2 C (x := 10) w_X11_writeNumber_k315 (by decide) dX11_writeNumber_56 rfl ?_
        refine g_lrem C ⟨by omega, by omega⟩ ⟨by decide, by decide⟩ (by decide) rfl dX11_writeNumber_59 rfl ?_
        refine g_l2i C rfl dX11_writeNumber_60 rfl ?_
        refine g_iadd C rfl dX11_writeNumber_61 rfl ?_
        refine g_callV C (b := (Q 0)) (mc := 0) (ms := 0) (rm := rm_K_m_write) (As := [vI (48 + (Int.tmod (Int.tdiv (absI x) 100) 10))]) (wc := [((Q 0), .inr (12, [vR (Q 1), vR (Q 2), vR (Q 3), vR (Q 4), vR (Q 5), vI pn, vR (Q 6), vL f0, vL f1, vL f2, vL f3, vL px, vL py, vL pb, vI rg, vI wr, vR (Q 7), vI rn, vR (Q 8), vI wn])), ((Q 8), cI E 120 ww)]) (wr := []) (st := []) gX11_writeNumber_X11_write (q9 := 0) (ci := 12) rfl rfl rfl (K_m_write l E Q pn f0 f1 f2 f3 px py pb rg wr rn wn ww L (48 + (Int.tmod (Int.tdiv (absI x) 100) 10)) hT hl (by omega)) hyd_X11_write rfl [0, 1] [] rfl rfl rfl rfl rfl (by decide) ⟨rfl, rfl⟩ ⟨Nat.le_of_ble_eq_true rfl, Nat.le_of_ble_eq_true rfl, Nat.le_of_ble_eq_true rfl, Nat.le_of_ble_eq_true rfl⟩ (Nat.le_of_ble_eq_true rfl) dX11_writeNumber_62 (rfl : _ = 0) (rfl : _ = 0) rfl ?_
        rintro _ _ ⟨rfl, rfl, f_22⟩
        refine g_is (ws' := [((Q 0), .inr (12, [vR (Q 1), vR (Q 2), vR (Q 3), vR (Q 4), vR (Q 5), vI pn, vR (Q 6), vL f0, vL f1, vL f2, vL f3, vL px, vL py, vL pb, vI rg, vI wr, vR (Q 7), vI rn, vR (Q 8), vI (wn + 1)])), ((Q 8), cI E 120 (ua ww wn (48 + (Int.tmod (Int.tdiv (absI x) 100) 10))))]) (st' := []) rfl rfl ?_
        have wl_23 : (wn + 1) = ((L ++ [(48 + (Int.tmod (Int.tdiv (absI x) 100) 10))]).length : Int) := len_1 hl
        refine g_lload C 3 rfl dX11_writeNumber_65 rfl ?_
        refine g_ldc2 C (x := 10) w_X11_writeNumber_k315 (by decide) dX11_writeNumber_67 rfl ?_
        refine g_ldiv C ⟨by decide, by decide⟩ ⟨by decide, by decide⟩ (by decide) (r := 10) (by decide) dX11_writeNumber_70 rfl ?_
        refine g_lstore C (lv' := [(0, vR (Q 0)), (1, vL x), (3, vL (absI x)), (5, vL 10)]) [1, 2, 3, 0] (by decide) rfl rfl dX11_writeNumber_71 rfl ?_
        refine g_goto C (pc' := 42) dX11_writeNumber_73 (by decide) ?_
        refine g_lload C 3 rfl dX11_writeNumber_42 rfl ?_
        refine g_lconst0 C dX11_writeNumber_44 rfl ?_
        refine g_lcmp_le C ⟨by decide, by decide⟩ ⟨by decide, by decide⟩ dX11_writeNumber_45 rfl (tgt := 76) dX11_writeNumber_46 (by decide) rfl (fun c_24 => ?_) (fun c_24 => ?_)
        · exact absurd c_24 (by decide)
        refine g_aload_n C 0 rfl dX11_writeNumber_49 rfl ?_
        refine g_bipush C (by decide) dX11_writeNumber_50 rfl ?_
        refine g_lload_n C 2 rfl dX11_writeNumber_52 rfl ?_
        refine g_lload C 3 rfl dX11_writeNumber_53 rfl ?_
        refine g_ldiv C ⟨by omega, by omega⟩ ⟨by decide, by decide⟩ (by decide) rfl dX11_writeNumber_55 rfl ?_
        refine g_ldc2 C (x := 10) w_X11_writeNumber_k315 (by decide) dX11_writeNumber_56 rfl ?_
        refine g_lrem C ⟨by omega, by omega⟩ ⟨by decide, by decide⟩ (by decide) rfl dX11_writeNumber_59 rfl ?_
        refine g_l2i C rfl dX11_writeNumber_60 rfl ?_
        refine g_iadd C rfl dX11_writeNumber_61 rfl ?_
        refine g_callV C (b := (Q 0)) (mc := 0) (ms := 0) (rm := rm_K_m_write) (As := [vI (48 + (Int.tmod (Int.tdiv (absI x) 10) 10))]) (wc := [((Q 0), .inr (12, [vR (Q 1), vR (Q 2), vR (Q 3), vR (Q 4), vR (Q 5), vI pn, vR (Q 6), vL f0, vL f1, vL f2, vL f3, vL px, vL py, vL pb, vI rg, vI wr, vR (Q 7), vI rn, vR (Q 8), vI (wn + 1)])), ((Q 8), cI E 120 (ua ww wn (48 + (Int.tmod (Int.tdiv (absI x) 100) 10))))]) (wr := []) (st := []) gX11_writeNumber_X11_write (q9 := 0) (ci := 12) rfl rfl rfl (K_m_write l E Q pn f0 f1 f2 f3 px py pb rg wr rn (wn + 1) (ua ww wn (48 + (Int.tmod (Int.tdiv (absI x) 100) 10))) ((L ++ [(48 + (Int.tmod (Int.tdiv (absI x) 100) 10))])) (48 + (Int.tmod (Int.tdiv (absI x) 10) 10)) f_22 wl_23 (by omega)) hyd_X11_write rfl [0, 1] [] rfl rfl rfl rfl rfl (by decide) ⟨rfl, rfl⟩ ⟨Nat.le_of_ble_eq_true rfl, Nat.le_of_ble_eq_true rfl, Nat.le_of_ble_eq_true rfl, Nat.le_of_ble_eq_true rfl⟩ (Nat.le_of_ble_eq_true rfl) dX11_writeNumber_62 (rfl : _ = 0) (rfl : _ = 0) rfl ?_
        rintro _ _ ⟨rfl, rfl, f_25⟩
        refine g_is (ws' := [((Q 0), .inr (12, [vR (Q 1), vR (Q 2), vR (Q 3), vR (Q 4), vR (Q 5), vI pn, vR (Q 6), vL f0, vL f1, vL f2, vL f3, vL px, vL py, vL pb, vI rg, vI wr, vR (Q 7), vI rn, vR (Q 8), vI ((wn + 1) + 1)])), ((Q 8), cI E 120 (ua (ua ww wn (48 + (Int.tmod (Int.tdiv (absI x) 100) 10))) (wn + 1) (48 + (Int.tmod (Int.tdiv (absI x) 10) 10))))]) (st' := []) rfl rfl ?_
        have wl_26 : ((wn + 1) + 1) = (((L ++ [(48 + (Int.tmod (Int.tdiv (absI x) 100) 10))]) ++ [(48 + (Int.tmod (Int.tdiv (absI x) 10) 10))]).length : Int) := len_1 wl_23
        refine g_lload C 3 rfl dX11_writeNumber_65 rfl ?_
        refine g_ldc2 C (x := 10) w_X11_writeNumber_k315 (by decide) dX11_writeNumber_67 rfl ?_
        refine g_ldiv C ⟨by decide, by decide⟩ ⟨by decide, by decide⟩ (by decide) (r := 1) (by decide) dX11_writeNumber_70 rfl ?_
        refine g_lstore C (lv' := [(0, vR (Q 0)), (1, vL x), (3, vL (absI x)), (5, vL 1)]) [1, 2, 3, 0] (by decide) rfl rfl dX11_writeNumber_71 rfl ?_
        refine g_goto C (pc' := 42) dX11_writeNumber_73 (by decide) ?_
        refine g_lload C 3 rfl dX11_writeNumber_42 rfl ?_
        refine g_lconst0 C dX11_writeNumber_44 rfl ?_
        refine g_lcmp_le C ⟨by decide, by decide⟩ ⟨by decide, by decide⟩ dX11_writeNumber_45 rfl (tgt := 76) dX11_writeNumber_46 (by decide) rfl (fun c_27 => ?_) (fun c_27 => ?_)
        · exact absurd c_27 (by decide)
        refine g_aload_n C 0 rfl dX11_writeNumber_49 rfl ?_
        refine g_bipush C (by decide) dX11_writeNumber_50 rfl ?_
        refine g_lload_n C 2 rfl dX11_writeNumber_52 rfl ?_
        refine g_lload C 3 rfl dX11_writeNumber_53 rfl ?_
        refine g_ldiv C ⟨by omega, by omega⟩ ⟨by decide, by decide⟩ (by decide) rfl dX11_writeNumber_55 rfl ?_
        refine g_ldc2 C (x := 10) w_X11_writeNumber_k315 (by decide) dX11_writeNumber_56 rfl ?_
        refine g_lrem C ⟨by omega, by omega⟩ ⟨by decide, by decide⟩ (by decide) rfl dX11_writeNumber_59 rfl ?_
        refine g_l2i C rfl dX11_writeNumber_60 rfl ?_
        refine g_iadd C rfl dX11_writeNumber_61 rfl ?_
        refine g_callV C (b := (Q 0)) (mc := 0) (ms := 0) (rm := rm_K_m_write) (As := [vI (48 + (Int.tmod (Int.tdiv (absI x) 1) 10))]) (wc := [((Q 0), .inr (12, [vR (Q 1), vR (Q 2), vR (Q 3), vR (Q 4), vR (Q 5), vI pn, vR (Q 6), vL f0, vL f1, vL f2, vL f3, vL px, vL py, vL pb, vI rg, vI wr, vR (Q 7), vI rn, vR (Q 8), vI ((wn + 1) + 1)])), ((Q 8), cI E 120 (ua (ua ww wn (48 + (Int.tmod (Int.tdiv (absI x) 100) 10))) (wn + 1) (48 + (Int.tmod (Int.tdiv (absI x) 10) 10))))]) (wr := []) (st := []) gX11_writeNumber_X11_write (q9 := 0) (ci := 12) rfl rfl rfl (K_m_write l E Q pn f0 f1 f2 f3 px py pb rg wr rn ((wn + 1) + 1) (ua (ua ww wn (48 + (Int.tmod (Int.tdiv (absI x) 100) 10))) (wn + 1) (48 + (Int.tmod (Int.tdiv (absI x) 10) 10))) (((L ++ [(48 + (Int.tmod (Int.tdiv (absI x) 100) 10))]) ++ [(48 + (Int.tmod (Int.tdiv (absI x) 10) 10))])) (48 + (Int.tmod (Int.tdiv (absI x) 1) 10)) f_25 wl_26 (by omega)) hyd_X11_write rfl [0, 1] [] rfl rfl rfl rfl rfl (by decide) ⟨rfl, rfl⟩ ⟨Nat.le_of_ble_eq_true rfl, Nat.le_of_ble_eq_true rfl, Nat.le_of_ble_eq_true rfl, Nat.le_of_ble_eq_true rfl⟩ (Nat.le_of_ble_eq_true rfl) dX11_writeNumber_62 (rfl : _ = 0) (rfl : _ = 0) rfl ?_
        rintro _ _ ⟨rfl, rfl, f_28⟩
        refine g_is (ws' := [((Q 0), .inr (12, [vR (Q 1), vR (Q 2), vR (Q 3), vR (Q 4), vR (Q 5), vI pn, vR (Q 6), vL f0, vL f1, vL f2, vL f3, vL px, vL py, vL pb, vI rg, vI wr, vR (Q 7), vI rn, vR (Q 8), vI (((wn + 1) + 1) + 1)])), ((Q 8), cI E 120 (ua (ua (ua ww wn (48 + (Int.tmod (Int.tdiv (absI x) 100) 10))) (wn + 1) (48 + (Int.tmod (Int.tdiv (absI x) 10) 10))) ((wn + 1) + 1) (48 + (Int.tmod (Int.tdiv (absI x) 1) 10))))]) (st' := []) rfl rfl ?_
        have wl_29 : (((wn + 1) + 1) + 1) = ((((L ++ [(48 + (Int.tmod (Int.tdiv (absI x) 100) 10))]) ++ [(48 + (Int.tmod (Int.tdiv (absI x) 10) 10))]) ++ [(48 + (Int.tmod (Int.tdiv (absI x) 1) 10))]).length : Int) := len_1 wl_26
        refine g_lload C 3 rfl dX11_writeNumber_65 rfl ?_
        refine g_ldc2 C (x := 10) w_X11_writeNumber_k315 (by decide) dX11_writeNumber_67 rfl ?_
        refine g_ldiv C ⟨by decide, by decide⟩ ⟨by decide, by decide⟩ (by decide) (r := 0) (by decide) dX11_writeNumber_70 rfl ?_
        refine g_lstore C (lv' := [(0, vR (Q 0)), (1, vL x), (3, vL (absI x)), (5, vL 0)]) [1, 2, 3, 0] (by decide) rfl rfl dX11_writeNumber_71 rfl ?_
        refine g_goto C (pc' := 42) dX11_writeNumber_73 (by decide) ?_
        refine g_lload C 3 rfl dX11_writeNumber_42 rfl ?_
        refine g_lconst0 C dX11_writeNumber_44 rfl ?_
        refine g_lcmp_le C ⟨by decide, by decide⟩ ⟨by decide, by decide⟩ dX11_writeNumber_45 rfl (tgt := 76) dX11_writeNumber_46 (by decide) rfl (fun c_30 => ?_) (fun c_30 => ?_)
        · refine g_ws (ws' := [((Q 0), .inr (12, [vR (Q 1), vR (Q 2), vR (Q 3), vR (Q 4), vR (Q 5), vI pn, vR (Q 6), vL f0, vL f1, vL f2, vL f3, vL px, vL py, vL pb, vI rg, vI wr, vR (Q 7), vI rn, vR (Q 8), vI (wn + (dlen x))])), ((Q 8), cI E 120 (ua (ua (ua ww wn (48 + (Int.tmod (Int.tdiv (absI x) 100) 10))) (wn + 1) (48 + (Int.tmod (Int.tdiv (absI x) 10) 10))) ((wn + 1) + 1) (48 + (Int.tmod (Int.tdiv (absI x) 1) 10))))]) (congrArg (fun z_ : Int => ([((Q 0), .inr (12, [vR (Q 1), vR (Q 2), vR (Q 3), vR (Q 4), vR (Q 5), vI pn, vR (Q 6), vL f0, vL f1, vL f2, vL f3, vL px, vL py, vL pb, vI rg, vI wr, vR (Q 7), vI rn, vR (Q 8), vI z_])), ((Q 8), cI E 120 (ua (ua (ua ww wn (48 + (Int.tmod (Int.tdiv (absI x) 100) 10))) (wn + 1) (48 + (Int.tmod (Int.tdiv (absI x) 10) 10))) ((wn + 1) + 1) (48 + (Int.tmod (Int.tdiv (absI x) 1) 10))))] : va_W)) (show (wn + (dlen x)) = (((wn + 1) + 1) + 1) by omega)) ?_
          exact g_vret C hr (Nat.le_of_ble_eq_true rfl) (Nat.le_of_ble_eq_true rfl) dX11_writeNumber_76 ⟨(ua (ua (ua ww wn (48 + (Int.tmod (Int.tdiv (absI x) 100) 10))) (wn + 1) (48 + (Int.tmod (Int.tdiv (absI x) 10) 10))) ((wn + 1) + 1) (48 + (Int.tmod (Int.tdiv (absI x) 1) 10))), rfl, rfl, (by rw [dgs_p3 (v := x) (by omega)]; have g9 := f_28; (try simp only [List.append_assoc, List.cons_append, List.nil_append] at g9); refine TX_eq g9 ?_; simp only [List.append_cancel_left_eq, List.cons.injEq, and_true, true_and]; (repeat' apply And.intro) <;> omega)⟩
        exact absurd c_30 (by decide)
      exfalso; omega
    exfalso; omega
  · have ab : absI x = x := by unfold absI; split <;> omega
    have t0 : Int.tdiv (absI x) 1 = absI x / 1 := Int.tdiv_eq_ediv_of_nonneg (by omega)
    have u0 : Int.tmod (Int.tdiv (absI x) 1) 10 = absI x / 1 % 10 := by rw [t0]; exact Int.tmod_eq_emod_of_nonneg (by omega)
    have t1 : Int.tdiv (absI x) 10 = absI x / 10 := Int.tdiv_eq_ediv_of_nonneg (by omega)
    have u1 : Int.tmod (Int.tdiv (absI x) 10) 10 = absI x / 10 % 10 := by rw [t1]; exact Int.tmod_eq_emod_of_nonneg (by omega)
    have t2 : Int.tdiv (absI x) 100 = absI x / 100 := Int.tdiv_eq_ediv_of_nonneg (by omega)
    have u2 : Int.tmod (Int.tdiv (absI x) 100) 10 = absI x / 100 % 10 := by rw [t2]; exact Int.tmod_eq_emod_of_nonneg (by omega)
    have t3 : Int.tdiv (absI x) 1000 = absI x / 1000 := Int.tdiv_eq_ediv_of_nonneg (by omega)
    have u3 : Int.tmod (Int.tdiv (absI x) 1000) 10 = absI x / 1000 % 10 := by rw [t3]; exact Int.tmod_eq_emod_of_nonneg (by omega)
    refine g_lload_n C 1 rfl dX11_writeNumber_0 rfl ?_
    refine g_lconst0 C dX11_writeNumber_1 rfl ?_
    refine g_lcmp_ge C ⟨by omega, by omega⟩ ⟨by decide, by decide⟩ dX11_writeNumber_2 rfl (tgt := 12) dX11_writeNumber_3 (by decide) rfl (fun c_31 => ?_) (fun c_31 => ?_)
    · refine g_lload_n C 1 rfl dX11_writeNumber_12 rfl ?_
      refine g_callS C (mc := 0) (ms := 0) (rm := rm_K_m_size) (As := [vL x]) (wc := []) (wr := [((Q 0), .inr (12, [vR (Q 1), vR (Q 2), vR (Q 3), vR (Q 4), vR (Q 5), vI pn, vR (Q 6), vL f0, vL f1, vL f2, vL f3, vL px, vL py, vL pb, vI rg, vI wr, vR (Q 7), vI rn, vR (Q 8), vI wn])), ((Q 8), cI E 120 ww)]) (st := []) gX11_writeNumber_X11_size rfl (K_m_size l E x ⟨by omega, by omega⟩) hyd_X11_size rfl [] [0, 1] rfl rfl rfl rfl rfl (by decide) ⟨rfl, rfl⟩ ⟨Nat.le_of_ble_eq_true rfl, Nat.le_of_ble_eq_true rfl, Nat.le_of_ble_eq_true rfl, Nat.le_of_ble_eq_true rfl⟩ (Nat.le_of_ble_eq_true rfl) dX11_writeNumber_13 (rfl : _ = 0) (rfl : _ = 0) rfl ?_
      rintro _ _ ⟨rfl, rfl⟩
      refine g_is (ws' := [((Q 0), .inr (12, [vR (Q 1), vR (Q 2), vR (Q 3), vR (Q 4), vR (Q 5), vI pn, vR (Q 6), vL f0, vL f1, vL f2, vL f3, vL px, vL py, vL pb, vI rg, vI wr, vR (Q 7), vI rn, vR (Q 8), vI wn])), ((Q 8), cI E 120 ww)]) (st' := [vL (absI x)]) rfl rfl ?_
      refine g_lstore_n C (lv' := [(0, vR (Q 0)), (1, vL x), (3, vL (absI x))]) [1, 2, 0] (by decide) rfl rfl dX11_writeNumber_16 rfl ?_
      refine g_lconst1 C dX11_writeNumber_17 rfl ?_
      refine g_lstore C (lv' := [(0, vR (Q 0)), (1, vL x), (3, vL (absI x)), (5, vL 1)]) [1, 2, 3, 0] (by decide) rfl rfl dX11_writeNumber_18 rfl ?_
      refine g_lload_n C 2 rfl dX11_writeNumber_20 rfl ?_
      refine g_lload C 3 rfl dX11_writeNumber_21 rfl ?_
      refine g_ldiv C ⟨by omega, by omega⟩ ⟨by decide, by decide⟩ (by decide) rfl dX11_writeNumber_23 rfl ?_
      refine g_ldc2 C (x := 10) w_X11_writeNumber_k315 (by decide) dX11_writeNumber_24 rfl ?_
      refine g_lcmp_lt C ⟨by omega, by omega⟩ ⟨by decide, by decide⟩ dX11_writeNumber_27 rfl (tgt := 42) dX11_writeNumber_28 (by decide) rfl (fun c_32 => ?_) (fun c_32 => ?_)
      · exfalso; omega
      refine g_lload C 3 rfl dX11_writeNumber_31 rfl ?_
      refine g_ldc2 C (x := 10) w_X11_writeNumber_k315 (by decide) dX11_writeNumber_33 rfl ?_
      refine g_lmul C (r := 10) (by decide) dX11_writeNumber_36 rfl ?_
      refine g_lstore C (lv' := [(0, vR (Q 0)), (1, vL x), (3, vL (absI x)), (5, vL 10)]) [1, 2, 3, 0] (by decide) rfl rfl dX11_writeNumber_37 rfl ?_
      refine g_goto C (pc' := 20) dX11_writeNumber_39 (by decide) ?_
      refine g_lload_n C 2 rfl dX11_writeNumber_20 rfl ?_
      refine g_lload C 3 rfl dX11_writeNumber_21 rfl ?_
      refine g_ldiv C ⟨by omega, by omega⟩ ⟨by decide, by decide⟩ (by decide) rfl dX11_writeNumber_23 rfl ?_
      refine g_ldc2 C (x := 10) w_X11_writeNumber_k315 (by decide) dX11_writeNumber_24 rfl ?_
      refine g_lcmp_lt C ⟨by omega, by omega⟩ ⟨by decide, by decide⟩ dX11_writeNumber_27 rfl (tgt := 42) dX11_writeNumber_28 (by decide) rfl (fun c_33 => ?_) (fun c_33 => ?_)
      · exfalso; omega
      refine g_lload C 3 rfl dX11_writeNumber_31 rfl ?_
      refine g_ldc2 C (x := 10) w_X11_writeNumber_k315 (by decide) dX11_writeNumber_33 rfl ?_
      refine g_lmul C (r := 100) (by decide) dX11_writeNumber_36 rfl ?_
      refine g_lstore C (lv' := [(0, vR (Q 0)), (1, vL x), (3, vL (absI x)), (5, vL 100)]) [1, 2, 3, 0] (by decide) rfl rfl dX11_writeNumber_37 rfl ?_
      refine g_goto C (pc' := 20) dX11_writeNumber_39 (by decide) ?_
      refine g_lload_n C 2 rfl dX11_writeNumber_20 rfl ?_
      refine g_lload C 3 rfl dX11_writeNumber_21 rfl ?_
      refine g_ldiv C ⟨by omega, by omega⟩ ⟨by decide, by decide⟩ (by decide) rfl dX11_writeNumber_23 rfl ?_
      refine g_ldc2 C (x := 10) w_X11_writeNumber_k315 (by decide) dX11_writeNumber_24 rfl ?_
      refine g_lcmp_lt C ⟨by omega, by omega⟩ ⟨by decide, by decide⟩ dX11_writeNumber_27 rfl (tgt := 42) dX11_writeNumber_28 (by decide) rfl (fun c_34 => ?_) (fun c_34 => ?_)
      · exfalso; omega
      refine g_lload C 3 rfl dX11_writeNumber_31 rfl ?_
      refine g_ldc2 C (x := 10) w_X11_writeNumber_k315 (by decide) dX11_writeNumber_33 rfl ?_
      refine g_lmul C (r := 1000) (by decide) dX11_writeNumber_36 rfl ?_
      refine g_lstore C (lv' := [(0, vR (Q 0)), (1, vL x), (3, vL (absI x)), (5, vL 1000)]) [1, 2, 3, 0] (by decide) rfl rfl dX11_writeNumber_37 rfl ?_
      refine g_goto C (pc' := 20) dX11_writeNumber_39 (by decide) ?_
      refine g_lload_n C 2 rfl dX11_writeNumber_20 rfl ?_
      refine g_lload C 3 rfl dX11_writeNumber_21 rfl ?_
      refine g_ldiv C ⟨by omega, by omega⟩ ⟨by decide, by decide⟩ (by decide) rfl dX11_writeNumber_23 rfl ?_
      refine g_ldc2 C (x := 10) w_X11_writeNumber_k315 (by decide) dX11_writeNumber_24 rfl ?_
      refine g_lcmp_lt C ⟨by omega, by omega⟩ ⟨by decide, by decide⟩ dX11_writeNumber_27 rfl (tgt := 42) dX11_writeNumber_28 (by decide) rfl (fun c_35 => ?_) (fun c_35 => ?_)
      · refine g_lload C 3 rfl dX11_writeNumber_42 rfl ?_
        refine g_lconst0 C dX11_writeNumber_44 rfl ?_
        refine g_lcmp_le C ⟨by decide, by decide⟩ ⟨by decide, by decide⟩ dX11_writeNumber_45 rfl (tgt := 76) dX11_writeNumber_46 (by decide) rfl (fun c_36 => ?_) (fun c_36 => ?_)
        · exact absurd c_36 (by decide)
        refine g_aload_n C 0 rfl dX11_writeNumber_49 rfl ?_
        refine g_bipush C (by decide) dX11_writeNumber_50 rfl ?_
        refine g_lload_n C 2 rfl dX11_writeNumber_52 rfl ?_
        refine g_lload C 3 rfl dX11_writeNumber_53 rfl ?_
        refine g_ldiv C ⟨by omega, by omega⟩ ⟨by decide, by decide⟩ (by decide) rfl dX11_writeNumber_55 rfl ?_
        refine g_ldc2 C (x := 10) w_X11_writeNumber_k315 (by decide) dX11_writeNumber_56 rfl ?_
        refine g_lrem C ⟨by omega, by omega⟩ ⟨by decide, by decide⟩ (by decide) rfl dX11_writeNumber_59 rfl ?_
        refine g_l2i C rfl dX11_writeNumber_60 rfl ?_
        refine g_iadd C rfl dX11_writeNumber_61 rfl ?_
        refine g_callV C (b := (Q 0)) (mc := 0) (ms := 0) (rm := rm_K_m_write) (As := [vI (48 + (Int.tmod (Int.tdiv (absI x) 1000) 10))]) (wc := [((Q 0), .inr (12, [vR (Q 1), vR (Q 2), vR (Q 3), vR (Q 4), vR (Q 5), vI pn, vR (Q 6), vL f0, vL f1, vL f2, vL f3, vL px, vL py, vL pb, vI rg, vI wr, vR (Q 7), vI rn, vR (Q 8), vI wn])), ((Q 8), cI E 120 ww)]) (wr := []) (st := []) gX11_writeNumber_X11_write (q9 := 0) (ci := 12) rfl rfl rfl (K_m_write l E Q pn f0 f1 f2 f3 px py pb rg wr rn wn ww L (48 + (Int.tmod (Int.tdiv (absI x) 1000) 10)) hT hl (by omega)) hyd_X11_write rfl [0, 1] [] rfl rfl rfl rfl rfl (by decide) ⟨rfl, rfl⟩ ⟨Nat.le_of_ble_eq_true rfl, Nat.le_of_ble_eq_true rfl, Nat.le_of_ble_eq_true rfl, Nat.le_of_ble_eq_true rfl⟩ (Nat.le_of_ble_eq_true rfl) dX11_writeNumber_62 (rfl : _ = 0) (rfl : _ = 0) rfl ?_
        rintro _ _ ⟨rfl, rfl, f_37⟩
        refine g_is (ws' := [((Q 0), .inr (12, [vR (Q 1), vR (Q 2), vR (Q 3), vR (Q 4), vR (Q 5), vI pn, vR (Q 6), vL f0, vL f1, vL f2, vL f3, vL px, vL py, vL pb, vI rg, vI wr, vR (Q 7), vI rn, vR (Q 8), vI (wn + 1)])), ((Q 8), cI E 120 (ua ww wn (48 + (Int.tmod (Int.tdiv (absI x) 1000) 10))))]) (st' := []) rfl rfl ?_
        have wl_38 : (wn + 1) = ((L ++ [(48 + (Int.tmod (Int.tdiv (absI x) 1000) 10))]).length : Int) := len_1 hl
        refine g_lload C 3 rfl dX11_writeNumber_65 rfl ?_
        refine g_ldc2 C (x := 10) w_X11_writeNumber_k315 (by decide) dX11_writeNumber_67 rfl ?_
        refine g_ldiv C ⟨by decide, by decide⟩ ⟨by decide, by decide⟩ (by decide) (r := 100) (by decide) dX11_writeNumber_70 rfl ?_
        refine g_lstore C (lv' := [(0, vR (Q 0)), (1, vL x), (3, vL (absI x)), (5, vL 100)]) [1, 2, 3, 0] (by decide) rfl rfl dX11_writeNumber_71 rfl ?_
        refine g_goto C (pc' := 42) dX11_writeNumber_73 (by decide) ?_
        refine g_lload C 3 rfl dX11_writeNumber_42 rfl ?_
        refine g_lconst0 C dX11_writeNumber_44 rfl ?_
        refine g_lcmp_le C ⟨by decide, by decide⟩ ⟨by decide, by decide⟩ dX11_writeNumber_45 rfl (tgt := 76) dX11_writeNumber_46 (by decide) rfl (fun c_39 => ?_) (fun c_39 => ?_)
        · exact absurd c_39 (by decide)
        refine g_aload_n C 0 rfl dX11_writeNumber_49 rfl ?_
        refine g_bipush C (by decide) dX11_writeNumber_50 rfl ?_
        refine g_lload_n C 2 rfl dX11_writeNumber_52 rfl ?_
        refine g_lload C 3 rfl dX11_writeNumber_53 rfl ?_
        refine g_ldiv C ⟨by omega, by omega⟩ ⟨by decide, by decide⟩ (by decide) rfl dX11_writeNumber_55 rfl ?_
        refine g_ldc2 C (x := 10) w_X11_writeNumber_k315 (by decide) dX11_writeNumber_56 rfl ?_
        refine g_lrem C ⟨by omega, by omega⟩ ⟨by decide, by decide⟩ (by decide) rfl dX11_writeNumber_59 rfl ?_
        refine g_l2i C rfl dX11_writeNumber_60 rfl ?_
        refine g_iadd C rfl dX11_writeNumber_61 rfl ?_
        refine g_callV C (b := (Q 0)) (mc := 0) (ms := 0) (rm := rm_K_m_write) (As := [vI (48 + (Int.tmod (Int.tdiv (absI x) 100) 10))]) (wc := [((Q 0), .inr (12, [vR (Q 1), vR (Q 2), vR (Q 3), vR (Q 4), vR (Q 5), vI pn, vR (Q 6), vL f0, vL f1, vL f2, vL f3, vL px, vL py, vL pb, vI rg, vI wr, vR (Q 7), vI rn, vR (Q 8), vI (wn + 1)])), ((Q 8), cI E 120 (ua ww wn (48 + (Int.tmod (Int.tdiv (absI x) 1000) 10))))]) (wr := []) (st := []) gX11_writeNumber_X11_write (q9 := 0) (ci := 12) rfl rfl rfl (K_m_write l E Q pn f0 f1 f2 f3 px py pb rg wr rn (wn + 1) (ua ww wn (48 + (Int.tmod (Int.tdiv (absI x) 1000) 10))) ((L ++ [(48 + (Int.tmod (Int.tdiv (absI x) 1000) 10))])) (48 + (Int.tmod (Int.tdiv (absI x) 100) 10)) f_37 wl_38 (by omega)) hyd_X11_write rfl [0, 1] [] rfl rfl rfl rfl rfl (by decide) ⟨rfl, rfl⟩ ⟨Nat.le_of_ble_eq_true rfl, Nat.le_of_ble_eq_true rfl, Nat.le_of_ble_eq_true rfl, Nat.le_of_ble_eq_true rfl⟩ (Nat.le_of_ble_eq_true rfl) dX11_writeNumber_62 (rfl : _ = 0) (rfl : _ = 0) rfl ?_
        rintro _ _ ⟨rfl, rfl, f_40⟩
        refine g_is (ws' := [((Q 0), .inr (12, [vR (Q 1), vR (Q 2), vR (Q 3), vR (Q 4), vR (Q 5), vI pn, vR (Q 6), vL f0, vL f1, vL f2, vL f3, vL px, vL py, vL pb, vI rg, vI wr, vR (Q 7), vI rn, vR (Q 8), vI ((wn + 1) + 1)])), ((Q 8), cI E 120 (ua (ua ww wn (48 + (Int.tmod (Int.tdiv (absI x) 1000) 10))) (wn + 1) (48 + (Int.tmod (Int.tdiv (absI x) 100) 10))))]) (st' := []) rfl rfl ?_
        have wl_41 : ((wn + 1) + 1) = (((L ++ [(48 + (Int.tmod (Int.tdiv (absI x) 1000) 10))]) ++ [(48 + (Int.tmod (Int.tdiv (absI x) 100) 10))]).length : Int) := len_1 wl_38
        refine g_lload C 3 rfl dX11_writeNumber_65 rfl ?_
        refine g_ldc2 C (x := 10) w_X11_writeNumber_k315 (by decide) dX11_writeNumber_67 rfl ?_
        refine g_ldiv C ⟨by decide, by decide⟩ ⟨by decide, by decide⟩ (by decide) (r := 10) (by decide) dX11_writeNumber_70 rfl ?_
        refine g_lstore C (lv' := [(0, vR (Q 0)), (1, vL x), (3, vL (absI x)), (5, vL 10)]) [1, 2, 3, 0] (by decide) rfl rfl dX11_writeNumber_71 rfl ?_
        refine g_goto C (pc' := 42) dX11_writeNumber_73 (by decide) ?_
        refine g_lload C 3 rfl dX11_writeNumber_42 rfl ?_
        refine g_lconst0 C dX11_writeNumber_44 rfl ?_
        refine g_lcmp_le C ⟨by decide, by decide⟩ ⟨by decide, by decide⟩ dX11_writeNumber_45 rfl (tgt := 76) dX11_writeNumber_46 (by decide) rfl (fun c_42 => ?_) (fun c_42 => ?_)
        · exact absurd c_42 (by decide)
        refine g_aload_n C 0 rfl dX11_writeNumber_49 rfl ?_
        refine g_bipush C (by decide) dX11_writeNumber_50 rfl ?_
        refine g_lload_n C 2 rfl dX11_writeNumber_52 rfl ?_
        refine g_lload C 3 rfl dX11_writeNumber_53 rfl ?_
        refine g_ldiv C ⟨by omega, by omega⟩ ⟨by decide, by decide⟩ (by decide) rfl dX11_writeNumber_55 rfl ?_
        refine g_ldc2 C (x := 10) w_X11_writeNumber_k315 (by decide) dX11_writeNumber_56 rfl ?_
        refine g_lrem C ⟨by omega, by omega⟩ ⟨by decide, by decide⟩ (by decide) rfl dX11_writeNumber_59 rfl ?_
        refine g_l2i C rfl dX11_writeNumber_60 rfl ?_
        refine g_iadd C rfl dX11_writeNumber_61 rfl ?_
        refine g_callV C (b := (Q 0)) (mc := 0) (ms := 0) (rm := rm_K_m_write) (As := [vI (48 + (Int.tmod (Int.tdiv (absI x) 10) 10))]) (wc := [((Q 0), .inr (12, [vR (Q 1), vR (Q 2), vR (Q 3), vR (Q 4), vR (Q 5), vI pn, vR (Q 6), vL f0, vL f1, vL f2, vL f3, vL px, vL py, vL pb, vI rg, vI wr, vR (Q 7), vI rn, vR (Q 8), vI ((wn + 1) + 1)])), ((Q 8), cI E 120 (ua (ua ww wn (48 + (Int.tmod (Int.tdiv (absI x) 1000) 10))) (wn + 1) (48 + (Int.tmod (Int.tdiv (absI x) 100) 10))))]) (wr := []) (st := []) gX11_writeNumber_X11_write (q9 := 0) (ci := 12) rfl rfl rfl (K_m_write l E Q pn f0 f1 f2 f3 px py pb rg wr rn ((wn + 1) + 1) (ua (ua ww wn (48 + (Int.tmod (Int.tdiv (absI x) 1000) 10))) (wn + 1) (48 + (Int.tmod (Int.tdiv (absI x) 100) 10))) (((L ++ [(48 + (Int.tmod (Int.tdiv (absI x) 1000) 10))]) ++ [(48 + (Int.tmod (Int.tdiv (absI x) 100) 10))])) (48 + (Int.tmod (Int.tdiv (absI x) 10) 10)) f_40 wl_41 (by omega)) hyd_X11_write rfl [0, 1] [] rfl rfl rfl rfl rfl (by decide) ⟨rfl, rfl⟩ ⟨Nat.le_of_ble_eq_true rfl, Nat.le_of_ble_eq_true rfl, Nat.le_of_ble_eq_true rfl, Nat.le_of_ble_eq_true rfl⟩ (Nat.le_of_ble_eq_true rfl) dX11_writeNumber_62 (rfl : _ = 0) (rfl : _ = 0) rfl ?_
        rintro _ _ ⟨rfl, rfl, f_43⟩
        refine g_is (ws' := [((Q 0), .inr (12, [vR (Q 1), vR (Q 2), vR (Q 3), vR (Q 4), vR (Q 5), vI pn, vR (Q 6), vL f0, vL f1, vL f2, vL f3, vL px, vL py, vL pb, vI rg, vI wr, vR (Q 7), vI rn, vR (Q 8), vI (((wn + 1) + 1) + 1)])), ((Q 8), cI E 120 (ua (ua (ua ww wn (48 + (Int.tmod (Int.tdiv (absI x) 1000) 10))) (wn + 1) (48 + (Int.tmod (Int.tdiv (absI x) 100) 10))) ((wn + 1) + 1) (48 + (Int.tmod (Int.tdiv (absI x) 10) 10))))]) (st' := []) rfl rfl ?_
        have wl_44 : (((wn + 1) + 1) + 1) = ((((L ++ [(48 + (Int.tmod (Int.tdiv (absI x) 1000) 10))]) ++ [(48 + (Int.tmod (Int.tdiv (absI x) 100) 10))]) ++ [(48 + (Int.tmod (Int.tdiv (absI x) 10) 10))]).length : Int) := len_1 wl_41
        refine g_lload C 3 rfl dX11_writeNumber_65 rfl ?_
        refine g_ldc2 C (x := 10) w_X11_writeNumber_k315 (by decide) dX11_writeNumber_67 rfl ?_
        refine g_ldiv C ⟨by decide, by decide⟩ ⟨by decide, by decide⟩ (by decide) (r := 1) (by decide) dX11_writeNumber_70 rfl ?_
        refine g_lstore C (lv' := [(0, vR (Q 0)), (1, vL x), (3, vL (absI x)), (5, vL 1)]) [1, 2, 3, 0] (by decide) rfl rfl dX11_writeNumber_71 rfl ?_
        refine g_goto C (pc' := 42) dX11_writeNumber_73 (by decide) ?_
        refine g_lload C 3 rfl dX11_writeNumber_42 rfl ?_
        refine g_lconst0 C dX11_writeNumber_44 rfl ?_
        refine g_lcmp_le C ⟨by decide, by decide⟩ ⟨by decide, by decide⟩ dX11_writeNumber_45 rfl (tgt := 76) dX11_writeNumber_46 (by decide) rfl (fun c_45 => ?_) (fun c_45 => ?_)
        · exact absurd c_45 (by decide)
        refine g_aload_n C 0 rfl dX11_writeNumber_49 rfl ?_
        refine g_bipush C (by decide) dX11_writeNumber_50 rfl ?_
        refine g_lload_n C 2 rfl dX11_writeNumber_52 rfl ?_
        refine g_lload C 3 rfl dX11_writeNumber_53 rfl ?_
        refine g_ldiv C ⟨by omega, by omega⟩ ⟨by decide, by decide⟩ (by decide) rfl dX11_writeNumber_55 rfl ?_
        refine g_ldc2 C (x := 10) w_X11_writeNumber_k315 (by decide) dX11_writeNumber_56 rfl ?_
        refine g_lrem C ⟨by omega, by omega⟩ ⟨by decide, by decide⟩ (by decide) rfl dX11_writeNumber_59 rfl ?_
        refine g_l2i C rfl dX11_writeNumber_60 rfl ?_
        refine g_iadd C rfl dX11_writeNumber_61 rfl ?_
        refine g_callV C (b := (Q 0)) (mc := 0) (ms := 0) (rm := rm_K_m_write) (As := [vI (48 + (Int.tmod (Int.tdiv (absI x) 1) 10))]) (wc := [((Q 0), .inr (12, [vR (Q 1), vR (Q 2), vR (Q 3), vR (Q 4), vR (Q 5), vI pn, vR (Q 6), vL f0, vL f1, vL f2, vL f3, vL px, vL py, vL pb, vI rg, vI wr, vR (Q 7), vI rn, vR (Q 8), vI (((wn + 1) + 1) + 1)])), ((Q 8), cI E 120 (ua (ua (ua ww wn (48 + (Int.tmod (Int.tdiv (absI x) 1000) 10))) (wn + 1) (48 + (Int.tmod (Int.tdiv (absI x) 100) 10))) ((wn + 1) + 1) (48 + (Int.tmod (Int.tdiv (absI x) 10) 10))))]) (wr := []) (st := []) gX11_writeNumber_X11_write (q9 := 0) (ci := 12) rfl rfl rfl (K_m_write l E Q pn f0 f1 f2 f3 px py pb rg wr rn (((wn + 1) + 1) + 1) (ua (ua (ua ww wn (48 + (Int.tmod (Int.tdiv (absI x) 1000) 10))) (wn + 1) (48 + (Int.tmod (Int.tdiv (absI x) 100) 10))) ((wn + 1) + 1) (48 + (Int.tmod (Int.tdiv (absI x) 10) 10))) ((((L ++ [(48 + (Int.tmod (Int.tdiv (absI x) 1000) 10))]) ++ [(48 + (Int.tmod (Int.tdiv (absI x) 100) 10))]) ++ [(48 + (Int.tmod (Int.tdiv (absI x) 10) 10))])) (48 + (Int.tmod (Int.tdiv (absI x) 1) 10)) f_43 wl_44 (by omega)) hyd_X11_write rfl [0, 1] [] rfl rfl rfl rfl rfl (by decide) ⟨rfl, rfl⟩ ⟨Nat.le_of_ble_eq_true rfl, Nat.le_of_ble_eq_true rfl, Nat.le_of_ble_eq_true rfl, Nat.le_of_ble_eq_true rfl⟩ (Nat.le_of_ble_eq_true rfl) dX11_writeNumber_62 (rfl : _ = 0) (rfl : _ = 0) rfl ?_
        rintro _ _ ⟨rfl, rfl, f_46⟩
        refine g_is (ws' := [((Q 0), .inr (12, [vR (Q 1), vR (Q 2), vR (Q 3), vR (Q 4), vR (Q 5), vI pn, vR (Q 6), vL f0, vL f1, vL f2, vL f3, vL px, vL py, vL pb, vI rg, vI wr, vR (Q 7), vI rn, vR (Q 8), vI ((((wn + 1) + 1) + 1) + 1)])), ((Q 8), cI E 120 (ua (ua (ua (ua ww wn (48 + (Int.tmod (Int.tdiv (absI x) 1000) 10))) (wn + 1) (48 + (Int.tmod (Int.tdiv (absI x) 100) 10))) ((wn + 1) + 1) (48 + (Int.tmod (Int.tdiv (absI x) 10) 10))) (((wn + 1) + 1) + 1) (48 + (Int.tmod (Int.tdiv (absI x) 1) 10))))]) (st' := []) rfl rfl ?_
        have wl_47 : ((((wn + 1) + 1) + 1) + 1) = (((((L ++ [(48 + (Int.tmod (Int.tdiv (absI x) 1000) 10))]) ++ [(48 + (Int.tmod (Int.tdiv (absI x) 100) 10))]) ++ [(48 + (Int.tmod (Int.tdiv (absI x) 10) 10))]) ++ [(48 + (Int.tmod (Int.tdiv (absI x) 1) 10))]).length : Int) := len_1 wl_44
        refine g_lload C 3 rfl dX11_writeNumber_65 rfl ?_
        refine g_ldc2 C (x := 10) w_X11_writeNumber_k315 (by decide) dX11_writeNumber_67 rfl ?_
        refine g_ldiv C ⟨by decide, by decide⟩ ⟨by decide, by decide⟩ (by decide) (r := 0) (by decide) dX11_writeNumber_70 rfl ?_
        refine g_lstore C (lv' := [(0, vR (Q 0)), (1, vL x), (3, vL (absI x)), (5, vL 0)]) [1, 2, 3, 0] (by decide) rfl rfl dX11_writeNumber_71 rfl ?_
        refine g_goto C (pc' := 42) dX11_writeNumber_73 (by decide) ?_
        refine g_lload C 3 rfl dX11_writeNumber_42 rfl ?_
        refine g_lconst0 C dX11_writeNumber_44 rfl ?_
        refine g_lcmp_le C ⟨by decide, by decide⟩ ⟨by decide, by decide⟩ dX11_writeNumber_45 rfl (tgt := 76) dX11_writeNumber_46 (by decide) rfl (fun c_48 => ?_) (fun c_48 => ?_)
        · refine g_ws (ws' := [((Q 0), .inr (12, [vR (Q 1), vR (Q 2), vR (Q 3), vR (Q 4), vR (Q 5), vI pn, vR (Q 6), vL f0, vL f1, vL f2, vL f3, vL px, vL py, vL pb, vI rg, vI wr, vR (Q 7), vI rn, vR (Q 8), vI (wn + (dlen x))])), ((Q 8), cI E 120 (ua (ua (ua (ua ww wn (48 + (Int.tmod (Int.tdiv (absI x) 1000) 10))) (wn + 1) (48 + (Int.tmod (Int.tdiv (absI x) 100) 10))) ((wn + 1) + 1) (48 + (Int.tmod (Int.tdiv (absI x) 10) 10))) (((wn + 1) + 1) + 1) (48 + (Int.tmod (Int.tdiv (absI x) 1) 10))))]) (congrArg (fun z_ : Int => ([((Q 0), .inr (12, [vR (Q 1), vR (Q 2), vR (Q 3), vR (Q 4), vR (Q 5), vI pn, vR (Q 6), vL f0, vL f1, vL f2, vL f3, vL px, vL py, vL pb, vI rg, vI wr, vR (Q 7), vI rn, vR (Q 8), vI z_])), ((Q 8), cI E 120 (ua (ua (ua (ua ww wn (48 + (Int.tmod (Int.tdiv (absI x) 1000) 10))) (wn + 1) (48 + (Int.tmod (Int.tdiv (absI x) 100) 10))) ((wn + 1) + 1) (48 + (Int.tmod (Int.tdiv (absI x) 10) 10))) (((wn + 1) + 1) + 1) (48 + (Int.tmod (Int.tdiv (absI x) 1) 10))))] : va_W)) (show (wn + (dlen x)) = ((((wn + 1) + 1) + 1) + 1) by omega)) ?_
          exact g_vret C hr (Nat.le_of_ble_eq_true rfl) (Nat.le_of_ble_eq_true rfl) dX11_writeNumber_76 ⟨(ua (ua (ua (ua ww wn (48 + (Int.tmod (Int.tdiv (absI x) 1000) 10))) (wn + 1) (48 + (Int.tmod (Int.tdiv (absI x) 100) 10))) ((wn + 1) + 1) (48 + (Int.tmod (Int.tdiv (absI x) 10) 10))) (((wn + 1) + 1) + 1) (48 + (Int.tmod (Int.tdiv (absI x) 1) 10))), rfl, rfl, (by rw [dgs_p4 (v := x) (by omega)]; have g9 := f_46; (try simp only [List.append_assoc, List.cons_append, List.nil_append] at g9); refine TX_eq g9 ?_; simp only [List.append_cancel_left_eq, List.cons.injEq, and_true, true_and]; (repeat' apply And.intro) <;> omega)⟩
        exact absurd c_48 (by decide)
      exfalso; omega
    exfalso; omega
  · have ab : absI x = x := by unfold absI; split <;> omega
    have t0 : Int.tdiv (absI x) 1 = absI x / 1 := Int.tdiv_eq_ediv_of_nonneg (by omega)
    have u0 : Int.tmod (Int.tdiv (absI x) 1) 10 = absI x / 1 % 10 := by rw [t0]; exact Int.tmod_eq_emod_of_nonneg (by omega)
    have t1 : Int.tdiv (absI x) 10 = absI x / 10 := Int.tdiv_eq_ediv_of_nonneg (by omega)
    have u1 : Int.tmod (Int.tdiv (absI x) 10) 10 = absI x / 10 % 10 := by rw [t1]; exact Int.tmod_eq_emod_of_nonneg (by omega)
    have t2 : Int.tdiv (absI x) 100 = absI x / 100 := Int.tdiv_eq_ediv_of_nonneg (by omega)
    have u2 : Int.tmod (Int.tdiv (absI x) 100) 10 = absI x / 100 % 10 := by rw [t2]; exact Int.tmod_eq_emod_of_nonneg (by omega)
    have t3 : Int.tdiv (absI x) 1000 = absI x / 1000 := Int.tdiv_eq_ediv_of_nonneg (by omega)
    have u3 : Int.tmod (Int.tdiv (absI x) 1000) 10 = absI x / 1000 % 10 := by rw [t3]; exact Int.tmod_eq_emod_of_nonneg (by omega)
    have t4 : Int.tdiv (absI x) 10000 = absI x / 10000 := Int.tdiv_eq_ediv_of_nonneg (by omega)
    have u4 : Int.tmod (Int.tdiv (absI x) 10000) 10 = absI x / 10000 % 10 := by rw [t4]; exact Int.tmod_eq_emod_of_nonneg (by omega)
    refine g_lload_n C 1 rfl dX11_writeNumber_0 rfl ?_
    refine g_lconst0 C dX11_writeNumber_1 rfl ?_
    refine g_lcmp_ge C ⟨by omega, by omega⟩ ⟨by decide, by decide⟩ dX11_writeNumber_2 rfl (tgt := 12) dX11_writeNumber_3 (by decide) rfl (fun c_49 => ?_) (fun c_49 => ?_)
    · refine g_lload_n C 1 rfl dX11_writeNumber_12 rfl ?_
      refine g_callS C (mc := 0) (ms := 0) (rm := rm_K_m_size) (As := [vL x]) (wc := []) (wr := [((Q 0), .inr (12, [vR (Q 1), vR (Q 2), vR (Q 3), vR (Q 4), vR (Q 5), vI pn, vR (Q 6), vL f0, vL f1, vL f2, vL f3, vL px, vL py, vL pb, vI rg, vI wr, vR (Q 7), vI rn, vR (Q 8), vI wn])), ((Q 8), cI E 120 ww)]) (st := []) gX11_writeNumber_X11_size rfl (K_m_size l E x ⟨by omega, by omega⟩) hyd_X11_size rfl [] [0, 1] rfl rfl rfl rfl rfl (by decide) ⟨rfl, rfl⟩ ⟨Nat.le_of_ble_eq_true rfl, Nat.le_of_ble_eq_true rfl, Nat.le_of_ble_eq_true rfl, Nat.le_of_ble_eq_true rfl⟩ (Nat.le_of_ble_eq_true rfl) dX11_writeNumber_13 (rfl : _ = 0) (rfl : _ = 0) rfl ?_
      rintro _ _ ⟨rfl, rfl⟩
      refine g_is (ws' := [((Q 0), .inr (12, [vR (Q 1), vR (Q 2), vR (Q 3), vR (Q 4), vR (Q 5), vI pn, vR (Q 6), vL f0, vL f1, vL f2, vL f3, vL px, vL py, vL pb, vI rg, vI wr, vR (Q 7), vI rn, vR (Q 8), vI wn])), ((Q 8), cI E 120 ww)]) (st' := [vL (absI x)]) rfl rfl ?_
      refine g_lstore_n C (lv' := [(0, vR (Q 0)), (1, vL x), (3, vL (absI x))]) [1, 2, 0] (by decide) rfl rfl dX11_writeNumber_16 rfl ?_
      refine g_lconst1 C dX11_writeNumber_17 rfl ?_
      refine g_lstore C (lv' := [(0, vR (Q 0)), (1, vL x), (3, vL (absI x)), (5, vL 1)]) [1, 2, 3, 0] (by decide) rfl rfl dX11_writeNumber_18 rfl ?_
      refine g_lload_n C 2 rfl dX11_writeNumber_20 rfl ?_
      refine g_lload C 3 rfl dX11_writeNumber_21 rfl ?_
      refine g_ldiv C ⟨by omega, by omega⟩ ⟨by decide, by decide⟩ (by decide) rfl dX11_writeNumber_23 rfl ?_
      refine g_ldc2 C (x := 10) w_X11_writeNumber_k315 (by decide) dX11_writeNumber_24 rfl ?_
      refine g_lcmp_lt C ⟨by omega, by omega⟩ ⟨by decide, by decide⟩ dX11_writeNumber_27 rfl (tgt := 42) dX11_writeNumber_28 (by decide) rfl (fun c_50 => ?_) (fun c_50 => ?_)
      · exfalso; omega
      refine g_lload C 3 rfl dX11_writeNumber_31 rfl ?_
      refine g_ldc2 C (x := 10) w_X11_writeNumber_k315 (by decide) dX11_writeNumber_33 rfl ?_
      refine g_lmul C (r := 10) (by decide) dX11_writeNumber_36 rfl ?_
      refine g_lstore C (lv' := [(0, vR (Q 0)), (1, vL x), (3, vL (absI x)), (5, vL 10)]) [1, 2, 3, 0] (by decide) rfl rfl dX11_writeNumber_37 rfl ?_
      refine g_goto C (pc' := 20) dX11_writeNumber_39 (by decide) ?_
      refine g_lload_n C 2 rfl dX11_writeNumber_20 rfl ?_
      refine g_lload C 3 rfl dX11_writeNumber_21 rfl ?_
      refine g_ldiv C ⟨by omega, by omega⟩ ⟨by decide, by decide⟩ (by decide) rfl dX11_writeNumber_23 rfl ?_
      refine g_ldc2 C (x := 10) w_X11_writeNumber_k315 (by decide) dX11_writeNumber_24 rfl ?_
      refine g_lcmp_lt C ⟨by omega, by omega⟩ ⟨by decide, by decide⟩ dX11_writeNumber_27 rfl (tgt := 42) dX11_writeNumber_28 (by decide) rfl (fun c_51 => ?_) (fun c_51 => ?_)
      · exfalso; omega
      refine g_lload C 3 rfl dX11_writeNumber_31 rfl ?_
      refine g_ldc2 C (x := 10) w_X11_writeNumber_k315 (by decide) dX11_writeNumber_33 rfl ?_
      refine g_lmul C (r := 100) (by decide) dX11_writeNumber_36 rfl ?_
      refine g_lstore C (lv' := [(0, vR (Q 0)), (1, vL x), (3, vL (absI x)), (5, vL 100)]) [1, 2, 3, 0] (by decide) rfl rfl dX11_writeNumber_37 rfl ?_
      refine g_goto C (pc' := 20) dX11_writeNumber_39 (by decide) ?_
      refine g_lload_n C 2 rfl dX11_writeNumber_20 rfl ?_
      refine g_lload C 3 rfl dX11_writeNumber_21 rfl ?_
      refine g_ldiv C ⟨by omega, by omega⟩ ⟨by decide, by decide⟩ (by decide) rfl dX11_writeNumber_23 rfl ?_
      refine g_ldc2 C (x := 10) w_X11_writeNumber_k315 (by decide) dX11_writeNumber_24 rfl ?_
      refine g_lcmp_lt C ⟨by omega, by omega⟩ ⟨by decide, by decide⟩ dX11_writeNumber_27 rfl (tgt := 42) dX11_writeNumber_28 (by decide) rfl (fun c_52 => ?_) (fun c_52 => ?_)
      · exfalso; omega
      refine g_lload C 3 rfl dX11_writeNumber_31 rfl ?_
      refine g_ldc2 C (x := 10) w_X11_writeNumber_k315 (by decide) dX11_writeNumber_33 rfl ?_
      refine g_lmul C (r := 1000) (by decide) dX11_writeNumber_36 rfl ?_
      refine g_lstore C (lv' := [(0, vR (Q 0)), (1, vL x), (3, vL (absI x)), (5, vL 1000)]) [1, 2, 3, 0] (by decide) rfl rfl dX11_writeNumber_37 rfl ?_
      refine g_goto C (pc' := 20) dX11_writeNumber_39 (by decide) ?_
      refine g_lload_n C 2 rfl dX11_writeNumber_20 rfl ?_
      refine g_lload C 3 rfl dX11_writeNumber_21 rfl ?_
      refine g_ldiv C ⟨by omega, by omega⟩ ⟨by decide, by decide⟩ (by decide) rfl dX11_writeNumber_23 rfl ?_
      refine g_ldc2 C (x := 10) w_X11_writeNumber_k315 (by decide) dX11_writeNumber_24 rfl ?_
      refine g_lcmp_lt C ⟨by omega, by omega⟩ ⟨by decide, by decide⟩ dX11_writeNumber_27 rfl (tgt := 42) dX11_writeNumber_28 (by decide) rfl (fun c_53 => ?_) (fun c_53 => ?_)
      · exfalso; omega
      refine g_lload C 3 rfl dX11_writeNumber_31 rfl ?_
      refine g_ldc2 C (x := 10) w_X11_writeNumber_k315 (by decide) dX11_writeNumber_33 rfl ?_
      refine g_lmul C (r := 10000) (by decide) dX11_writeNumber_36 rfl ?_
      refine g_lstore C (lv' := [(0, vR (Q 0)), (1, vL x), (3, vL (absI x)), (5, vL 10000)]) [1, 2, 3, 0] (by decide) rfl rfl dX11_writeNumber_37 rfl ?_
      refine g_goto C (pc' := 20) dX11_writeNumber_39 (by decide) ?_
      refine g_lload_n C 2 rfl dX11_writeNumber_20 rfl ?_
      refine g_lload C 3 rfl dX11_writeNumber_21 rfl ?_
      refine g_ldiv C ⟨by omega, by omega⟩ ⟨by decide, by decide⟩ (by decide) rfl dX11_writeNumber_23 rfl ?_
      refine g_ldc2 C (x := 10) w_X11_writeNumber_k315 (by decide) dX11_writeNumber_24 rfl ?_
      refine g_lcmp_lt C ⟨by omega, by omega⟩ ⟨by decide, by decide⟩ dX11_writeNumber_27 rfl (tgt := 42) dX11_writeNumber_28 (by decide) rfl (fun c_54 => ?_) (fun c_54 => ?_)
      · refine g_lload C 3 rfl dX11_writeNumber_42 rfl ?_
        refine g_lconst0 C dX11_writeNumber_44 rfl ?_
        refine g_lcmp_le C ⟨by decide, by decide⟩ ⟨by decide, by decide⟩ dX11_writeNumber_45 rfl (tgt := 76) dX11_writeNumber_46 (by decide) rfl (fun c_55 => ?_) (fun c_55 => ?_)
        · exact absurd c_55 (by decide)
        refine g_aload_n C 0 rfl dX11_writeNumber_49 rfl ?_
        refine g_bipush C (by decide) dX11_writeNumber_50 rfl ?_
        refine g_lload_n C 2 rfl dX11_writeNumber_52 rfl ?_
        refine g_lload C 3 rfl dX11_writeNumber_53 rfl ?_
        refine g_ldiv C ⟨by omega, by omega⟩ ⟨by decide, by decide⟩ (by decide) rfl dX11_writeNumber_55 rfl ?_
        refine g_ldc2 C (x := 10) w_X11_writeNumber_k315 (by decide) dX11_writeNumber_56 rfl ?_
        refine g_lrem C ⟨by omega, by omega⟩ ⟨by decide, by decide⟩ (by decide) rfl dX11_writeNumber_59 rfl ?_
        refine g_l2i C rfl dX11_writeNumber_60 rfl ?_
        refine g_iadd C rfl dX11_writeNumber_61 rfl ?_
        refine g_callV C (b := (Q 0)) (mc := 0) (ms := 0) (rm := rm_K_m_write) (As := [vI (48 + (Int.tmod (Int.tdiv (absI x) 10000) 10))]) (wc := [((Q 0), .inr (12, [vR (Q 1), vR (Q 2), vR (Q 3), vR (Q 4), vR (Q 5), vI pn, vR (Q 6), vL f0, vL f1, vL f2, vL f3, vL px, vL py, vL pb, vI rg, vI wr, vR (Q 7), vI rn, vR (Q 8), vI wn])), ((Q 8), cI E 120 ww)]) (wr := []) (st := []) gX11_writeNumber_X11_write (q9 := 0) (ci := 12) rfl rfl rfl (K_m_write l E Q pn f0 f1 f2 f3 px py pb rg wr rn wn ww L (48 + (Int.tmod (Int.tdiv (absI x) 10000) 10)) hT hl (by omega)) hyd_X11_write rfl [0, 1] [] rfl rfl rfl rfl rfl (by decide) ⟨rfl, rfl⟩ ⟨Nat.le_of_ble_eq_true rfl, Nat.le_of_ble_eq_true rfl, Nat.le_of_ble_eq_true rfl, Nat.le_of_ble_eq_true rfl⟩ (Nat.le_of_ble_eq_true rfl) dX11_writeNumber_62 (rfl : _ = 0) (rfl : _ = 0) rfl ?_
        rintro _ _ ⟨rfl, rfl, f_56⟩
        refine g_is (ws' := [((Q 0), .inr (12, [vR (Q 1), vR (Q 2), vR (Q 3), vR (Q 4), vR (Q 5), vI pn, vR (Q 6), vL f0, vL f1, vL f2, vL f3, vL px, vL py, vL pb, vI rg, vI wr, vR (Q 7), vI rn, vR (Q 8), vI (wn + 1)])), ((Q 8), cI E 120 (ua ww wn (48 + (Int.tmod (Int.tdiv (absI x) 10000) 10))))]) (st' := []) rfl rfl ?_
        have wl_57 : (wn + 1) = ((L ++ [(48 + (Int.tmod (Int.tdiv (absI x) 10000) 10))]).length : Int) := len_1 hl
        refine g_lload C 3 rfl dX11_writeNumber_65 rfl ?_
        refine g_ldc2 C (x := 10) w_X11_writeNumber_k315 (by decide) dX11_writeNumber_67 rfl ?_
        refine g_ldiv C ⟨by decide, by decide⟩ ⟨by decide, by decide⟩ (by decide) (r := 1000) (by decide) dX11_writeNumber_70 rfl ?_
        refine g_lstore C (lv' := [(0, vR (Q 0)), (1, vL x), (3, vL (absI x)), (5, vL 1000)]) [1, 2, 3, 0] (by decide) rfl rfl dX11_writeNumber_71 rfl ?_
        refine g_goto C (pc' := 42) dX11_writeNumber_73 (by decide) ?_
        refine g_lload C 3 rfl dX11_writeNumber_42 rfl ?_
        refine g_lconst0 C dX11_writeNumber_44 rfl ?_
        refine g_lcmp_le C ⟨by decide, by decide⟩ ⟨by decide, by decide⟩ dX11_writeNumber_45 rfl (tgt := 76) dX11_writeNumber_46 (by decide) rfl (fun c_58 => ?_) (fun c_58 => ?_)
        · exact absurd c_58 (by decide)
        refine g_aload_n C 0 rfl dX11_writeNumber_49 rfl ?_
        refine g_bipush C (by decide) dX11_writeNumber_50 rfl ?_
        refine g_lload_n C 2 rfl dX11_writeNumber_52 rfl ?_
        refine g_lload C 3 rfl dX11_writeNumber_53 rfl ?_
        refine g_ldiv C ⟨by omega, by omega⟩ ⟨by decide, by decide⟩ (by decide) rfl dX11_writeNumber_55 rfl ?_
        refine g_ldc2 C (x := 10) w_X11_writeNumber_k315 (by decide) dX11_writeNumber_56 rfl ?_
        refine g_lrem C ⟨by omega, by omega⟩ ⟨by decide, by decide⟩ (by decide) rfl dX11_writeNumber_59 rfl ?_
        refine g_l2i C rfl dX11_writeNumber_60 rfl ?_
        refine g_iadd C rfl dX11_writeNumber_61 rfl ?_
        refine g_callV C (b := (Q 0)) (mc := 0) (ms := 0) (rm := rm_K_m_write) (As := [vI (48 + (Int.tmod (Int.tdiv (absI x) 1000) 10))]) (wc := [((Q 0), .inr (12, [vR (Q 1), vR (Q 2), vR (Q 3), vR (Q 4), vR (Q 5), vI pn, vR (Q 6), vL f0, vL f1, vL f2, vL f3, vL px, vL py, vL pb, vI rg, vI wr, vR (Q 7), vI rn, vR (Q 8), vI (wn + 1)])), ((Q 8), cI E 120 (ua ww wn (48 + (Int.tmod (Int.tdiv (absI x) 10000) 10))))]) (wr := []) (st := []) gX11_writeNumber_X11_write (q9 := 0) (ci := 12) rfl rfl rfl (K_m_write l E Q pn f0 f1 f2 f3 px py pb rg wr rn (wn + 1) (ua ww wn (48 + (Int.tmod (Int.tdiv (absI x) 10000) 10))) ((L ++ [(48 + (Int.tmod (Int.tdiv (absI x) 10000) 10))])) (48 + (Int.tmod (Int.tdiv (absI x) 1000) 10)) f_56 wl_57 (by omega)) hyd_X11_write rfl [0, 1] [] rfl rfl rfl rfl rfl (by decide) ⟨rfl, rfl⟩ ⟨Nat.le_of_ble_eq_true rfl, Nat.le_of_ble_eq_true rfl, Nat.le_of_ble_eq_true rfl, Nat.le_of_ble_eq_true rfl⟩ (Nat.le_of_ble_eq_true rfl) dX11_writeNumber_62 (rfl : _ = 0) (rfl : _ = 0) rfl ?_
        rintro _ _ ⟨rfl, rfl, f_59⟩
        refine g_is (ws' := [((Q 0), .inr (12, [vR (Q 1), vR (Q 2), vR (Q 3), vR (Q 4), vR (Q 5), vI pn, vR (Q 6), vL f0, vL f1, vL f2, vL f3, vL px, vL py, vL pb, vI rg, vI wr, vR (Q 7), vI rn, vR (Q 8), vI ((wn + 1) + 1)])), ((Q 8), cI E 120 (ua (ua ww wn (48 + (Int.tmod (Int.tdiv (absI x) 10000) 10))) (wn + 1) (48 + (Int.tmod (Int.tdiv (absI x) 1000) 10))))]) (st' := []) rfl rfl ?_
        have wl_60 : ((wn + 1) + 1) = (((L ++ [(48 + (Int.tmod (Int.tdiv (absI x) 10000) 10))]) ++ [(48 + (Int.tmod (Int.tdiv (absI x) 1000) 10))]).length : Int) := len_1 wl_57
        refine g_lload C 3 rfl dX11_writeNumber_65 rfl ?_
        refine g_ldc2 C (x := 10) w_X11_writeNumber_k315 (by decide) dX11_writeNumber_67 rfl ?_
        refine g_ldiv C ⟨by decide, by decide⟩ ⟨by decide, by decide⟩ (by decide) (r := 100) (by decide) dX11_writeNumber_70 rfl ?_
        refine g_lstore C (lv' := [(0, vR (Q 0)), (1, vL x), (3, vL (absI x)), (5, vL 100)]) [1, 2, 3, 0] (by decide) rfl rfl dX11_writeNumber_71 rfl ?_
        refine g_goto C (pc' := 42) dX11_writeNumber_73 (by decide) ?_
        refine g_lload C 3 rfl dX11_writeNumber_42 rfl ?_
        refine g_lconst0 C dX11_writeNumber_44 rfl ?_
        refine g_lcmp_le C ⟨by decide, by decide⟩ ⟨by decide, by decide⟩ dX11_writeNumber_45 rfl (tgt := 76) dX11_writeNumber_46 (by decide) rfl (fun c_61 => ?_) (fun c_61 => ?_)
        · exact absurd c_61 (by decide)
        refine g_aload_n C 0 rfl dX11_writeNumber_49 rfl ?_
        refine g_bipush C (by decide) dX11_writeNumber_50 rfl ?_
        refine g_lload_n C 2 rfl dX11_writeNumber_52 rfl ?_
        refine g_lload C 3 rfl dX11_writeNumber_53 rfl ?_
        refine g_ldiv C ⟨by omega, by omega⟩ ⟨by decide, by decide⟩ (by decide) rfl dX11_writeNumber_55 rfl ?_
        refine g_ldc2 C (x := 10) w_X11_writeNumber_k315 (by decide) dX11_writeNumber_56 rfl ?_
        refine g_lrem C ⟨by omega, by omega⟩ ⟨by decide, by decide⟩ (by decide) rfl dX11_writeNumber_59 rfl ?_
        refine g_l2i C rfl dX11_writeNumber_60 rfl ?_
        refine g_iadd C rfl dX11_writeNumber_61 rfl ?_
        refine g_callV C (b := (Q 0)) (mc := 0) (ms := 0) (rm := rm_K_m_write) (As := [vI (48 + (Int.tmod (Int.tdiv (absI x) 100) 10))]) (wc := [((Q 0), .inr (12, [vR (Q 1), vR (Q 2), vR (Q 3), vR (Q 4), vR (Q 5), vI pn, vR (Q 6), vL f0, vL f1, vL f2, vL f3, vL px, vL py, vL pb, vI rg, vI wr, vR (Q 7), vI rn, vR (Q 8), vI ((wn + 1) + 1)])), ((Q 8), cI E 120 (ua (ua ww wn (48 + (Int.tmod (Int.tdiv (absI x) 10000) 10))) (wn + 1) (48 + (Int.tmod (Int.tdiv (absI x) 1000) 10))))]) (wr := []) (st := []) gX11_writeNumber_X11_write (q9 := 0) (ci := 12) rfl rfl rfl (K_m_write l E Q pn f0 f1 f2 f3 px py pb rg wr rn ((wn + 1) + 1) (ua (ua ww wn (48 + (Int.tmod (Int.tdiv (absI x) 10000) 10))) (wn + 1) (48 + (Int.tmod (Int.tdiv (absI x) 1000) 10))) (((L ++ [(48 + (Int.tmod (Int.tdiv (absI x) 10000) 10))]) ++ [(48 + (Int.tmod (Int.tdiv (absI x) 1000) 10))])) (48 + (Int.tmod (Int.tdiv (absI x) 100) 10)) f_59 wl_60 (by omega)) hyd_X11_write rfl [0, 1] [] rfl rfl rfl rfl rfl (by decide) ⟨rfl, rfl⟩ ⟨Nat.le_of_ble_eq_true rfl, Nat.le_of_ble_eq_true rfl, Nat.le_of_ble_eq_true rfl, Nat.le_of_ble_eq_true rfl⟩ (Nat.le_of_ble_eq_true rfl) dX11_writeNumber_62 (rfl : _ = 0) (rfl : _ = 0) rfl ?_
        rintro _ _ ⟨rfl, rfl, f_62⟩
        refine g_is (ws' := [((Q 0), .inr (12, [vR (Q 1), vR (Q 2), vR (Q 3), vR (Q 4), vR (Q 5), vI pn, vR (Q 6), vL f0, vL f1, vL f2, vL f3, vL px, vL py, vL pb, vI rg, vI wr, vR (Q 7), vI rn, vR (Q 8), vI (((wn + 1) + 1) + 1)])), ((Q 8), cI E 120 (ua (ua (ua ww wn (48 + (Int.tmod (Int.tdiv (absI x) 10000) 10))) (wn + 1) (48 + (Int.tmod (Int.tdiv (absI x) 1000) 10))) ((wn + 1) + 1) (48 + (Int.tmod (Int.tdiv (absI x) 100) 10))))]) (st' := []) rfl rfl ?_
        have wl_63 : (((wn + 1) + 1) + 1) = ((((L ++ [(48 + (Int.tmod (Int.tdiv (absI x) 10000) 10))]) ++ [(48 + (Int.tmod (Int.tdiv (absI x) 1000) 10))]) ++ [(48 + (Int.tmod (Int.tdiv (absI x) 100) 10))]).length : Int) := len_1 wl_60
        refine g_lload C 3 rfl dX11_writeNumber_65 rfl ?_
        refine g_ldc2 C (x := 10) w_X11_writeNumber_k315 (by decide) dX11_writeNumber_67 rfl ?_
        refine g_ldiv C ⟨by decide, by decide⟩ ⟨by decide, by decide⟩ (by decide) (r := 10) (by decide) dX11_writeNumber_70 rfl ?_
        refine g_lstore C (lv' := [(0, vR (Q 0)), (1, vL x), (3, vL (absI x)), (5, vL 10)]) [1, 2, 3, 0] (by decide) rfl rfl dX11_writeNumber_71 rfl ?_
        refine g_goto C (pc' := 42) dX11_writeNumber_73 (by decide) ?_
        refine g_lload C 3 rfl dX11_writeNumber_42 rfl ?_
        refine g_lconst0 C dX11_writeNumber_44 rfl ?_
        refine g_lcmp_le C ⟨by decide, by decide⟩ ⟨by decide, by decide⟩ dX11_writeNumber_45 rfl (tgt := 76) dX11_writeNumber_46 (by decide) rfl (fun c_64 => ?_) (fun c_64 => ?_)
        · exact absurd c_64 (by decide)
        refine g_aload_n C 0 rfl dX11_writeNumber_49 rfl ?_
        refine g_bipush C (by decide) dX11_writeNumber_50 rfl ?_
        refine g_lload_n C 2 rfl dX11_writeNumber_52 rfl ?_
        refine g_lload C 3 rfl dX11_writeNumber_53 rfl ?_
        refine g_ldiv C ⟨by omega, by omega⟩ ⟨by decide, by decide⟩ (by decide) rfl dX11_writeNumber_55 rfl ?_
        refine g_ldc2 C (x := 10) w_X11_writeNumber_k315 (by decide) dX11_writeNumber_56 rfl ?_
        refine g_lrem C ⟨by omega, by omega⟩ ⟨by decide, by decide⟩ (by decide) rfl dX11_writeNumber_59 rfl ?_
        refine g_l2i C rfl dX11_writeNumber_60 rfl ?_
        refine g_iadd C rfl dX11_writeNumber_61 rfl ?_
        refine g_callV C (b := (Q 0)) (mc := 0) (ms := 0) (rm := rm_K_m_write) (As := [vI (48 + (Int.tmod (Int.tdiv (absI x) 10) 10))]) (wc := [((Q 0), .inr (12, [vR (Q 1), vR (Q 2), vR (Q 3), vR (Q 4), vR (Q 5), vI pn, vR (Q 6), vL f0, vL f1, vL f2, vL f3, vL px, vL py, vL pb, vI rg, vI wr, vR (Q 7), vI rn, vR (Q 8), vI (((wn + 1) + 1) + 1)])), ((Q 8), cI E 120 (ua (ua (ua ww wn (48 + (Int.tmod (Int.tdiv (absI x) 10000) 10))) (wn + 1) (48 + (Int.tmod (Int.tdiv (absI x) 1000) 10))) ((wn + 1) + 1) (48 + (Int.tmod (Int.tdiv (absI x) 100) 10))))]) (wr := []) (st := []) gX11_writeNumber_X11_write (q9 := 0) (ci := 12) rfl rfl rfl (K_m_write l E Q pn f0 f1 f2 f3 px py pb rg wr rn (((wn + 1) + 1) + 1) (ua (ua (ua ww wn (48 + (Int.tmod (Int.tdiv (absI x) 10000) 10))) (wn + 1) (48 + (Int.tmod (Int.tdiv (absI x) 1000) 10))) ((wn + 1) + 1) (48 + (Int.tmod (Int.tdiv (absI x) 100) 10))) ((((L ++ [(48 + (Int.tmod (Int.tdiv (absI x) 10000) 10))]) ++ [(48 + (Int.tmod (Int.tdiv (absI x) 1000) 10))]) ++ [(48 + (Int.tmod (Int.tdiv (absI x) 100) 10))])) (48 + (Int.tmod (Int.tdiv (absI x) 10) 10)) f_62 wl_63 (by omega)) hyd_X11_write rfl [0, 1] [] rfl rfl rfl rfl rfl (by decide) ⟨rfl, rfl⟩ ⟨Nat.le_of_ble_eq_true rfl, Nat.le_of_ble_eq_true rfl, Nat.le_of_ble_eq_true rfl, Nat.le_of_ble_eq_true rfl⟩ (Nat.le_of_ble_eq_true rfl) dX11_writeNumber_62 (rfl : _ = 0) (rfl : _ = 0) rfl ?_
        rintro _ _ ⟨rfl, rfl, f_65⟩
        refine g_is (ws' := [((Q 0), .inr (12, [vR (Q 1), vR (Q 2), vR (Q 3), vR (Q 4), vR (Q 5), vI pn, vR (Q 6), vL f0, vL f1, vL f2, vL f3, vL px, vL py, vL pb, vI rg, vI wr, vR (Q 7), vI rn, vR (Q 8), vI ((((wn + 1) + 1) + 1) + 1)])), ((Q 8), cI E 120 (ua (ua (ua (ua ww wn (48 + (Int.tmod (Int.tdiv (absI x) 10000) 10))) (wn + 1) (48 + (Int.tmod (Int.tdiv (absI x) 1000) 10))) ((wn + 1) + 1) (48 + (Int.tmod (Int.tdiv (absI x) 100) 10))) (((wn + 1) + 1) + 1) (48 + (Int.tmod (Int.tdiv (absI x) 10) 10))))]) (st' := []) rfl rfl ?_
        have wl_66 : ((((wn + 1) + 1) + 1) + 1) = (((((L ++ [(48 + (Int.tmod (Int.tdiv (absI x) 10000) 10))]) ++ [(48 + (Int.tmod (Int.tdiv (absI x) 1000) 10))]) ++ [(48 + (Int.tmod (Int.tdiv (absI x) 100) 10))]) ++ [(48 + (Int.tmod (Int.tdiv (absI x) 10) 10))]).length : Int) := len_1 wl_63
        refine g_lload C 3 rfl dX11_writeNumber_65 rfl ?_
        refine g_ldc2 C (x := 10) w_X11_writeNumber_k315 (by decide) dX11_writeNumber_67 rfl ?_
        refine g_ldiv C ⟨by decide, by decide⟩ ⟨by decide, by decide⟩ (by decide) (r := 1) (by decide) dX11_writeNumber_70 rfl ?_
        refine g_lstore C (lv' := [(0, vR (Q 0)), (1, vL x), (3, vL (absI x)), (5, vL 1)]) [1, 2, 3, 0] (by decide) rfl rfl dX11_writeNumber_71 rfl ?_
        refine g_goto C (pc' := 42) dX11_writeNumber_73 (by decide) ?_
        refine g_lload C 3 rfl dX11_writeNumber_42 rfl ?_
        refine g_lconst0 C dX11_writeNumber_44 rfl ?_
        refine g_lcmp_le C ⟨by decide, by decide⟩ ⟨by decide, by decide⟩ dX11_writeNumber_45 rfl (tgt := 76) dX11_writeNumber_46 (by decide) rfl (fun c_67 => ?_) (fun c_67 => ?_)
        · exact absurd c_67 (by decide)
        refine g_aload_n C 0 rfl dX11_writeNumber_49 rfl ?_
        refine g_bipush C (by decide) dX11_writeNumber_50 rfl ?_
        refine g_lload_n C 2 rfl dX11_writeNumber_52 rfl ?_
        refine g_lload C 3 rfl dX11_writeNumber_53 rfl ?_
        refine g_ldiv C ⟨by omega, by omega⟩ ⟨by decide, by decide⟩ (by decide) rfl dX11_writeNumber_55 rfl ?_
        refine g_ldc2 C (x := 10) w_X11_writeNumber_k315 (by decide) dX11_writeNumber_56 rfl ?_
        refine g_lrem C ⟨by omega, by omega⟩ ⟨by decide, by decide⟩ (by decide) rfl dX11_writeNumber_59 rfl ?_
        refine g_l2i C rfl dX11_writeNumber_60 rfl ?_
        refine g_iadd C rfl dX11_writeNumber_61 rfl ?_
        refine g_callV C (b := (Q 0)) (mc := 0) (ms := 0) (rm := rm_K_m_write) (As := [vI (48 + (Int.tmod (Int.tdiv (absI x) 1) 10))]) (wc := [((Q 0), .inr (12, [vR (Q 1), vR (Q 2), vR (Q 3), vR (Q 4), vR (Q 5), vI pn, vR (Q 6), vL f0, vL f1, vL f2, vL f3, vL px, vL py, vL pb, vI rg, vI wr, vR (Q 7), vI rn, vR (Q 8), vI ((((wn + 1) + 1) + 1) + 1)])), ((Q 8), cI E 120 (ua (ua (ua (ua ww wn (48 + (Int.tmod (Int.tdiv (absI x) 10000) 10))) (wn + 1) (48 + (Int.tmod (Int.tdiv (absI x) 1000) 10))) ((wn + 1) + 1) (48 + (Int.tmod (Int.tdiv (absI x) 100) 10))) (((wn + 1) + 1) + 1) (48 + (Int.tmod (Int.tdiv (absI x) 10) 10))))]) (wr := []) (st := []) gX11_writeNumber_X11_write (q9 := 0) (ci := 12) rfl rfl rfl (K_m_write l E Q pn f0 f1 f2 f3 px py pb rg wr rn ((((wn + 1) + 1) + 1) + 1) (ua (ua (ua (ua ww wn (48 + (Int.tmod (Int.tdiv (absI x) 10000) 10))) (wn + 1) (48 + (Int.tmod (Int.tdiv (absI x) 1000) 10))) ((wn + 1) + 1) (48 + (Int.tmod (Int.tdiv (absI x) 100) 10))) (((wn + 1) + 1) + 1) (48 + (Int.tmod (Int.tdiv (absI x) 10) 10))) (((((L ++ [(48 + (Int.tmod (Int.tdiv (absI x) 10000) 10))]) ++ [(48 + (Int.tmod (Int.tdiv (absI x) 1000) 10))]) ++ [(48 + (Int.tmod (Int.tdiv (absI x) 100) 10))]) ++ [(48 + (Int.tmod (Int.tdiv (absI x) 10) 10))])) (48 + (Int.tmod (Int.tdiv (absI x) 1) 10)) f_65 wl_66 (by omega)) hyd_X11_write rfl [0, 1] [] rfl rfl rfl rfl rfl (by decide) ⟨rfl, rfl⟩ ⟨Nat.le_of_ble_eq_true rfl, Nat.le_of_ble_eq_true rfl, Nat.le_of_ble_eq_true rfl, Nat.le_of_ble_eq_true rfl⟩ (Nat.le_of_ble_eq_true rfl) dX11_writeNumber_62 (rfl : _ = 0) (rfl : _ = 0) rfl ?_
        rintro _ _ ⟨rfl, rfl, f_68⟩
        refine g_is (ws' := [((Q 0), .inr (12, [vR (Q 1), vR (Q 2), vR (Q 3), vR (Q 4), vR (Q 5), vI pn, vR (Q 6), vL f0, vL f1, vL f2, vL f3, vL px, vL py, vL pb, vI rg, vI wr, vR (Q 7), vI rn, vR (Q 8), vI (((((wn + 1) + 1) + 1) + 1) + 1)])), ((Q 8), cI E 120 (ua (ua (ua (ua (ua ww wn (48 + (Int.tmod (Int.tdiv (absI x) 10000) 10))) (wn + 1) (48 + (Int.tmod (Int.tdiv (absI x) 1000) 10))) ((wn + 1) + 1) (48 + (Int.tmod (Int.tdiv (absI x) 100) 10))) (((wn + 1) + 1) + 1) (48 + (Int.tmod (Int.tdiv (absI x) 10) 10))) ((((wn + 1) + 1) + 1) + 1) (48 + (Int.tmod (Int.tdiv (absI x) 1) 10))))]) (st' := []) rfl rfl ?_
        have wl_69 : (((((wn + 1) + 1) + 1) + 1) + 1) = ((((((L ++ [(48 + (Int.tmod (Int.tdiv (absI x) 10000) 10))]) ++ [(48 + (Int.tmod (Int.tdiv (absI x) 1000) 10))]) ++ [(48 + (Int.tmod (Int.tdiv (absI x) 100) 10))]) ++ [(48 + (Int.tmod (Int.tdiv (absI x) 10) 10))]) ++ [(48 + (Int.tmod (Int.tdiv (absI x) 1) 10))]).length : Int) := len_1 wl_66
        refine g_lload C 3 rfl dX11_writeNumber_65 rfl ?_
        refine g_ldc2 C (x := 10) w_X11_writeNumber_k315 (by decide) dX11_writeNumber_67 rfl ?_
        refine g_ldiv C ⟨by decide, by decide⟩ ⟨by decide, by decide⟩ (by decide) (r := 0) (by decide) dX11_writeNumber_70 rfl ?_
        refine g_lstore C (lv' := [(0, vR (Q 0)), (1, vL x), (3, vL (absI x)), (5, vL 0)]) [1, 2, 3, 0] (by decide) rfl rfl dX11_writeNumber_71 rfl ?_
        refine g_goto C (pc' := 42) dX11_writeNumber_73 (by decide) ?_
        refine g_lload C 3 rfl dX11_writeNumber_42 rfl ?_
        refine g_lconst0 C dX11_writeNumber_44 rfl ?_
        refine g_lcmp_le C ⟨by decide, by decide⟩ ⟨by decide, by decide⟩ dX11_writeNumber_45 rfl (tgt := 76) dX11_writeNumber_46 (by decide) rfl (fun c_70 => ?_) (fun c_70 => ?_)
        · refine g_ws (ws' := [((Q 0), .inr (12, [vR (Q 1), vR (Q 2), vR (Q 3), vR (Q 4), vR (Q 5), vI pn, vR (Q 6), vL f0, vL f1, vL f2, vL f3, vL px, vL py, vL pb, vI rg, vI wr, vR (Q 7), vI rn, vR (Q 8), vI (wn + (dlen x))])), ((Q 8), cI E 120 (ua (ua (ua (ua (ua ww wn (48 + (Int.tmod (Int.tdiv (absI x) 10000) 10))) (wn + 1) (48 + (Int.tmod (Int.tdiv (absI x) 1000) 10))) ((wn + 1) + 1) (48 + (Int.tmod (Int.tdiv (absI x) 100) 10))) (((wn + 1) + 1) + 1) (48 + (Int.tmod (Int.tdiv (absI x) 10) 10))) ((((wn + 1) + 1) + 1) + 1) (48 + (Int.tmod (Int.tdiv (absI x) 1) 10))))]) (congrArg (fun z_ : Int => ([((Q 0), .inr (12, [vR (Q 1), vR (Q 2), vR (Q 3), vR (Q 4), vR (Q 5), vI pn, vR (Q 6), vL f0, vL f1, vL f2, vL f3, vL px, vL py, vL pb, vI rg, vI wr, vR (Q 7), vI rn, vR (Q 8), vI z_])), ((Q 8), cI E 120 (ua (ua (ua (ua (ua ww wn (48 + (Int.tmod (Int.tdiv (absI x) 10000) 10))) (wn + 1) (48 + (Int.tmod (Int.tdiv (absI x) 1000) 10))) ((wn + 1) + 1) (48 + (Int.tmod (Int.tdiv (absI x) 100) 10))) (((wn + 1) + 1) + 1) (48 + (Int.tmod (Int.tdiv (absI x) 10) 10))) ((((wn + 1) + 1) + 1) + 1) (48 + (Int.tmod (Int.tdiv (absI x) 1) 10))))] : va_W)) (show (wn + (dlen x)) = (((((wn + 1) + 1) + 1) + 1) + 1) by omega)) ?_
          exact g_vret C hr (Nat.le_of_ble_eq_true rfl) (Nat.le_of_ble_eq_true rfl) dX11_writeNumber_76 ⟨(ua (ua (ua (ua (ua ww wn (48 + (Int.tmod (Int.tdiv (absI x) 10000) 10))) (wn + 1) (48 + (Int.tmod (Int.tdiv (absI x) 1000) 10))) ((wn + 1) + 1) (48 + (Int.tmod (Int.tdiv (absI x) 100) 10))) (((wn + 1) + 1) + 1) (48 + (Int.tmod (Int.tdiv (absI x) 10) 10))) ((((wn + 1) + 1) + 1) + 1) (48 + (Int.tmod (Int.tdiv (absI x) 1) 10))), rfl, rfl, (by rw [dgs_p5 (v := x) (by omega)]; have g9 := f_68; (try simp only [List.append_assoc, List.cons_append, List.nil_append] at g9); refine TX_eq g9 ?_; simp only [List.append_cancel_left_eq, List.cons.injEq, and_true, true_and]; (repeat' apply And.intro) <;> omega)⟩
        exact absurd c_70 (by decide)
      exfalso; omega
    exfalso; omega
  · have ab : absI x = -x := by unfold absI; split <;> omega
    have t0 : Int.tdiv (absI x) 1 = absI x / 1 := Int.tdiv_eq_ediv_of_nonneg (by omega)
    have u0 : Int.tmod (Int.tdiv (absI x) 1) 10 = absI x / 1 % 10 := by rw [t0]; exact Int.tmod_eq_emod_of_nonneg (by omega)
    refine g_lload_n C 1 rfl dX11_writeNumber_0 rfl ?_
    refine g_lconst0 C dX11_writeNumber_1 rfl ?_
    refine g_lcmp_ge C ⟨by omega, by omega⟩ ⟨by decide, by decide⟩ dX11_writeNumber_2 rfl (tgt := 12) dX11_writeNumber_3 (by decide) rfl (fun c_71 => ?_) (fun c_71 => ?_)
    · exfalso; omega
    refine g_aload_n C 0 rfl dX11_writeNumber_6 rfl ?_
    refine g_bipush C (by decide) dX11_writeNumber_7 rfl ?_
    refine g_callV C (b := (Q 0)) (mc := 0) (ms := 0) (rm := rm_K_m_write) (As := [vI 45]) (wc := [((Q 0), .inr (12, [vR (Q 1), vR (Q 2), vR (Q 3), vR (Q 4), vR (Q 5), vI pn, vR (Q 6), vL f0, vL f1, vL f2, vL f3, vL px, vL py, vL pb, vI rg, vI wr, vR (Q 7), vI rn, vR (Q 8), vI wn])), ((Q 8), cI E 120 ww)]) (wr := []) (st := []) gX11_writeNumber_X11_write (q9 := 0) (ci := 12) rfl rfl rfl (K_m_write l E Q pn f0 f1 f2 f3 px py pb rg wr rn wn ww L 45 hT hl (by omega)) hyd_X11_write rfl [0, 1] [] rfl rfl rfl rfl rfl (by decide) ⟨rfl, rfl⟩ ⟨Nat.le_of_ble_eq_true rfl, Nat.le_of_ble_eq_true rfl, Nat.le_of_ble_eq_true rfl, Nat.le_of_ble_eq_true rfl⟩ (Nat.le_of_ble_eq_true rfl) dX11_writeNumber_9 (rfl : _ = 0) (rfl : _ = 0) rfl ?_
    rintro _ _ ⟨rfl, rfl, f_72⟩
    refine g_is (ws' := [((Q 0), .inr (12, [vR (Q 1), vR (Q 2), vR (Q 3), vR (Q 4), vR (Q 5), vI pn, vR (Q 6), vL f0, vL f1, vL f2, vL f3, vL px, vL py, vL pb, vI rg, vI wr, vR (Q 7), vI rn, vR (Q 8), vI (wn + 1)])), ((Q 8), cI E 120 (ua ww wn 45))]) (st' := []) rfl rfl ?_
    have wl_73 : (wn + 1) = ((L ++ [45]).length : Int) := len_1 hl
    refine g_lload_n C 1 rfl dX11_writeNumber_12 rfl ?_
    refine g_callS C (mc := 0) (ms := 0) (rm := rm_K_m_size) (As := [vL x]) (wc := []) (wr := [((Q 0), .inr (12, [vR (Q 1), vR (Q 2), vR (Q 3), vR (Q 4), vR (Q 5), vI pn, vR (Q 6), vL f0, vL f1, vL f2, vL f3, vL px, vL py, vL pb, vI rg, vI wr, vR (Q 7), vI rn, vR (Q 8), vI (wn + 1)])), ((Q 8), cI E 120 (ua ww wn 45))]) (st := []) gX11_writeNumber_X11_size rfl (K_m_size l E x ⟨by omega, by omega⟩) hyd_X11_size rfl [] [0, 1] rfl rfl rfl rfl rfl (by decide) ⟨rfl, rfl⟩ ⟨Nat.le_of_ble_eq_true rfl, Nat.le_of_ble_eq_true rfl, Nat.le_of_ble_eq_true rfl, Nat.le_of_ble_eq_true rfl⟩ (Nat.le_of_ble_eq_true rfl) dX11_writeNumber_13 (rfl : _ = 0) (rfl : _ = 0) rfl ?_
    rintro _ _ ⟨rfl, rfl⟩
    refine g_is (ws' := [((Q 0), .inr (12, [vR (Q 1), vR (Q 2), vR (Q 3), vR (Q 4), vR (Q 5), vI pn, vR (Q 6), vL f0, vL f1, vL f2, vL f3, vL px, vL py, vL pb, vI rg, vI wr, vR (Q 7), vI rn, vR (Q 8), vI (wn + 1)])), ((Q 8), cI E 120 (ua ww wn 45))]) (st' := [vL (absI x)]) rfl rfl ?_
    refine g_lstore_n C (lv' := [(0, vR (Q 0)), (1, vL x), (3, vL (absI x))]) [1, 2, 0] (by decide) rfl rfl dX11_writeNumber_16 rfl ?_
    refine g_lconst1 C dX11_writeNumber_17 rfl ?_
    refine g_lstore C (lv' := [(0, vR (Q 0)), (1, vL x), (3, vL (absI x)), (5, vL 1)]) [1, 2, 3, 0] (by decide) rfl rfl dX11_writeNumber_18 rfl ?_
    refine g_lload_n C 2 rfl dX11_writeNumber_20 rfl ?_
    refine g_lload C 3 rfl dX11_writeNumber_21 rfl ?_
    refine g_ldiv C ⟨by omega, by omega⟩ ⟨by decide, by decide⟩ (by decide) rfl dX11_writeNumber_23 rfl ?_
    refine g_ldc2 C (x := 10) w_X11_writeNumber_k315 (by decide) dX11_writeNumber_24 rfl ?_
    refine g_lcmp_lt C ⟨by omega, by omega⟩ ⟨by decide, by decide⟩ dX11_writeNumber_27 rfl (tgt := 42) dX11_writeNumber_28 (by decide) rfl (fun c_74 => ?_) (fun c_74 => ?_)
    · refine g_lload C 3 rfl dX11_writeNumber_42 rfl ?_
      refine g_lconst0 C dX11_writeNumber_44 rfl ?_
      refine g_lcmp_le C ⟨by decide, by decide⟩ ⟨by decide, by decide⟩ dX11_writeNumber_45 rfl (tgt := 76) dX11_writeNumber_46 (by decide) rfl (fun c_75 => ?_) (fun c_75 => ?_)
      · exact absurd c_75 (by decide)
      refine g_aload_n C 0 rfl dX11_writeNumber_49 rfl ?_
      refine g_bipush C (by decide) dX11_writeNumber_50 rfl ?_
      refine g_lload_n C 2 rfl dX11_writeNumber_52 rfl ?_
      refine g_lload C 3 rfl dX11_writeNumber_53 rfl ?_
      refine g_ldiv C ⟨by omega, by omega⟩ ⟨by decide, by decide⟩ (by decide) rfl dX11_writeNumber_55 rfl ?_
      refine g_ldc2 C (x := 10) w_X11_writeNumber_k315 (by decide) dX11_writeNumber_56 rfl ?_
      refine g_lrem C ⟨by omega, by omega⟩ ⟨by decide, by decide⟩ (by decide) rfl dX11_writeNumber_59 rfl ?_
      refine g_l2i C rfl dX11_writeNumber_60 rfl ?_
      refine g_iadd C rfl dX11_writeNumber_61 rfl ?_
      refine g_callV C (b := (Q 0)) (mc := 0) (ms := 0) (rm := rm_K_m_write) (As := [vI (48 + (Int.tmod (Int.tdiv (absI x) 1) 10))]) (wc := [((Q 0), .inr (12, [vR (Q 1), vR (Q 2), vR (Q 3), vR (Q 4), vR (Q 5), vI pn, vR (Q 6), vL f0, vL f1, vL f2, vL f3, vL px, vL py, vL pb, vI rg, vI wr, vR (Q 7), vI rn, vR (Q 8), vI (wn + 1)])), ((Q 8), cI E 120 (ua ww wn 45))]) (wr := []) (st := []) gX11_writeNumber_X11_write (q9 := 0) (ci := 12) rfl rfl rfl (K_m_write l E Q pn f0 f1 f2 f3 px py pb rg wr rn (wn + 1) (ua ww wn 45) ((L ++ [45])) (48 + (Int.tmod (Int.tdiv (absI x) 1) 10)) f_72 wl_73 (by omega)) hyd_X11_write rfl [0, 1] [] rfl rfl rfl rfl rfl (by decide) ⟨rfl, rfl⟩ ⟨Nat.le_of_ble_eq_true rfl, Nat.le_of_ble_eq_true rfl, Nat.le_of_ble_eq_true rfl, Nat.le_of_ble_eq_true rfl⟩ (Nat.le_of_ble_eq_true rfl) dX11_writeNumber_62 (rfl : _ = 0) (rfl : _ = 0) rfl ?_
      rintro _ _ ⟨rfl, rfl, f_76⟩
      refine g_is (ws' := [((Q 0), .inr (12, [vR (Q 1), vR (Q 2), vR (Q 3), vR (Q 4), vR (Q 5), vI pn, vR (Q 6), vL f0, vL f1, vL f2, vL f3, vL px, vL py, vL pb, vI rg, vI wr, vR (Q 7), vI rn, vR (Q 8), vI ((wn + 1) + 1)])), ((Q 8), cI E 120 (ua (ua ww wn 45) (wn + 1) (48 + (Int.tmod (Int.tdiv (absI x) 1) 10))))]) (st' := []) rfl rfl ?_
      have wl_77 : ((wn + 1) + 1) = (((L ++ [45]) ++ [(48 + (Int.tmod (Int.tdiv (absI x) 1) 10))]).length : Int) := len_1 wl_73
      refine g_lload C 3 rfl dX11_writeNumber_65 rfl ?_
      refine g_ldc2 C (x := 10) w_X11_writeNumber_k315 (by decide) dX11_writeNumber_67 rfl ?_
      refine g_ldiv C ⟨by decide, by decide⟩ ⟨by decide, by decide⟩ (by decide) (r := 0) (by decide) dX11_writeNumber_70 rfl ?_
      refine g_lstore C (lv' := [(0, vR (Q 0)), (1, vL x), (3, vL (absI x)), (5, vL 0)]) [1, 2, 3, 0] (by decide) rfl rfl dX11_writeNumber_71 rfl ?_
      refine g_goto C (pc' := 42) dX11_writeNumber_73 (by decide) ?_
      refine g_lload C 3 rfl dX11_writeNumber_42 rfl ?_
      refine g_lconst0 C dX11_writeNumber_44 rfl ?_
      refine g_lcmp_le C ⟨by decide, by decide⟩ ⟨by decide, by decide⟩ dX11_writeNumber_45 rfl (tgt := 76) dX11_writeNumber_46 (by decide) rfl (fun c_78 => ?_) (fun c_78 => ?_)
      · refine g_ws (ws' := [((Q 0), .inr (12, [vR (Q 1), vR (Q 2), vR (Q 3), vR (Q 4), vR (Q 5), vI pn, vR (Q 6), vL f0, vL f1, vL f2, vL f3, vL px, vL py, vL pb, vI rg, vI wr, vR (Q 7), vI rn, vR (Q 8), vI (wn + (dlen x))])), ((Q 8), cI E 120 (ua (ua ww wn 45) (wn + 1) (48 + (Int.tmod (Int.tdiv (absI x) 1) 10))))]) (congrArg (fun z_ : Int => ([((Q 0), .inr (12, [vR (Q 1), vR (Q 2), vR (Q 3), vR (Q 4), vR (Q 5), vI pn, vR (Q 6), vL f0, vL f1, vL f2, vL f3, vL px, vL py, vL pb, vI rg, vI wr, vR (Q 7), vI rn, vR (Q 8), vI z_])), ((Q 8), cI E 120 (ua (ua ww wn 45) (wn + 1) (48 + (Int.tmod (Int.tdiv (absI x) 1) 10))))] : va_W)) (show (wn + (dlen x)) = ((wn + 1) + 1) by omega)) ?_
        exact g_vret C hr (Nat.le_of_ble_eq_true rfl) (Nat.le_of_ble_eq_true rfl) dX11_writeNumber_76 ⟨(ua (ua ww wn 45) (wn + 1) (48 + (Int.tmod (Int.tdiv (absI x) 1) 10))), rfl, rfl, (by rw [dgs_n (by omega), dgs_p1 (v := (-x)) (by omega)]; have g9 := f_76; (try simp only [List.append_assoc, List.cons_append, List.nil_append] at g9); refine TX_eq g9 ?_; simp only [List.append_cancel_left_eq, List.cons.injEq, and_true, true_and]; (repeat' apply And.intro) <;> omega)⟩
      exact absurd c_78 (by decide)
    exfalso; omega
  · have ab : absI x = -x := by unfold absI; split <;> omega
    have t0 : Int.tdiv (absI x) 1 = absI x / 1 := Int.tdiv_eq_ediv_of_nonneg (by omega)
    have u0 : Int.tmod (Int.tdiv (absI x) 1) 10 = absI x / 1 % 10 := by rw [t0]; exact Int.tmod_eq_emod_of_nonneg (by omega)
    have t1 : Int.tdiv (absI x) 10 = absI x / 10 := Int.tdiv_eq_ediv_of_nonneg (by omega)
    have u1 : Int.tmod (Int.tdiv (absI x) 10) 10 = absI x / 10 % 10 := by rw [t1]; exact Int.tmod_eq_emod_of_nonneg (by omega)
    refine g_lload_n C 1 rfl dX11_writeNumber_0 rfl ?_
    refine g_lconst0 C dX11_writeNumber_1 rfl ?_
    refine g_lcmp_ge C ⟨by omega, by omega⟩ ⟨by decide, by decide⟩ dX11_writeNumber_2 rfl (tgt := 12) dX11_writeNumber_3 (by decide) rfl (fun c_79 => ?_) (fun c_79 => ?_)
    · exfalso; omega
    refine g_aload_n C 0 rfl dX11_writeNumber_6 rfl ?_
    refine g_bipush C (by decide) dX11_writeNumber_7 rfl ?_
    refine g_callV C (b := (Q 0)) (mc := 0) (ms := 0) (rm := rm_K_m_write) (As := [vI 45]) (wc := [((Q 0), .inr (12, [vR (Q 1), vR (Q 2), vR (Q 3), vR (Q 4), vR (Q 5), vI pn, vR (Q 6), vL f0, vL f1, vL f2, vL f3, vL px, vL py, vL pb, vI rg, vI wr, vR (Q 7), vI rn, vR (Q 8), vI wn])), ((Q 8), cI E 120 ww)]) (wr := []) (st := []) gX11_writeNumber_X11_write (q9 := 0) (ci := 12) rfl rfl rfl (K_m_write l E Q pn f0 f1 f2 f3 px py pb rg wr rn wn ww L 45 hT hl (by omega)) hyd_X11_write rfl [0, 1] [] rfl rfl rfl rfl rfl (by decide) ⟨rfl, rfl⟩ ⟨Nat.le_of_ble_eq_true rfl, Nat.le_of_ble_eq_true rfl, Nat.le_of_ble_eq_true rfl, Nat.le_of_ble_eq_true rfl⟩ (Nat.le_of_ble_eq_true rfl) dX11_writeNumber_9 (rfl : _ = 0) (rfl : _ = 0) rfl ?_
    rintro _ _ ⟨rfl, rfl, f_80⟩
    refine g_is (ws' := [((Q 0), .inr (12, [vR (Q 1), vR (Q 2), vR (Q 3), vR (Q 4), vR (Q 5), vI pn, vR (Q 6), vL f0, vL f1, vL f2, vL f3, vL px, vL py, vL pb, vI rg, vI wr, vR (Q 7), vI rn, vR (Q 8), vI (wn + 1)])), ((Q 8), cI E 120 (ua ww wn 45))]) (st' := []) rfl rfl ?_
    have wl_81 : (wn + 1) = ((L ++ [45]).length : Int) := len_1 hl
    refine g_lload_n C 1 rfl dX11_writeNumber_12 rfl ?_
    refine g_callS C (mc := 0) (ms := 0) (rm := rm_K_m_size) (As := [vL x]) (wc := []) (wr := [((Q 0), .inr (12, [vR (Q 1), vR (Q 2), vR (Q 3), vR (Q 4), vR (Q 5), vI pn, vR (Q 6), vL f0, vL f1, vL f2, vL f3, vL px, vL py, vL pb, vI rg, vI wr, vR (Q 7), vI rn, vR (Q 8), vI (wn + 1)])), ((Q 8), cI E 120 (ua ww wn 45))]) (st := []) gX11_writeNumber_X11_size rfl (K_m_size l E x ⟨by omega, by omega⟩) hyd_X11_size rfl [] [0, 1] rfl rfl rfl rfl rfl (by decide) ⟨rfl, rfl⟩ ⟨Nat.le_of_ble_eq_true rfl, Nat.le_of_ble_eq_true rfl, Nat.le_of_ble_eq_true rfl, Nat.le_of_ble_eq_true rfl⟩ (Nat.le_of_ble_eq_true rfl) dX11_writeNumber_13 (rfl : _ = 0) (rfl : _ = 0) rfl ?_
    rintro _ _ ⟨rfl, rfl⟩
    refine g_is (ws' := [((Q 0), .inr (12, [vR (Q 1), vR (Q 2), vR (Q 3), vR (Q 4), vR (Q 5), vI pn, vR (Q 6), vL f0, vL f1, vL f2, vL f3, vL px, vL py, vL pb, vI rg, vI wr, vR (Q 7), vI rn, vR (Q 8), vI (wn + 1)])), ((Q 8), cI E 120 (ua ww wn 45))]) (st' := [vL (absI x)]) rfl rfl ?_
    refine g_lstore_n C (lv' := [(0, vR (Q 0)), (1, vL x), (3, vL (absI x))]) [1, 2, 0] (by decide) rfl rfl dX11_writeNumber_16 rfl ?_
    refine g_lconst1 C dX11_writeNumber_17 rfl ?_
    refine g_lstore C (lv' := [(0, vR (Q 0)), (1, vL x), (3, vL (absI x)), (5, vL 1)]) [1, 2, 3, 0] (by decide) rfl rfl dX11_writeNumber_18 rfl ?_
    refine g_lload_n C 2 rfl dX11_writeNumber_20 rfl ?_
    refine g_lload C 3 rfl dX11_writeNumber_21 rfl ?_
    refine g_ldiv C ⟨by omega, by omega⟩ ⟨by decide, by decide⟩ (by decide) rfl dX11_writeNumber_23 rfl ?_
    refine g_ldc2 C (x := 10) w_X11_writeNumber_k315 (by decide) dX11_writeNumber_24 rfl ?_
    refine g_lcmp_lt C ⟨by omega, by omega⟩ ⟨by decide, by decide⟩ dX11_writeNumber_27 rfl (tgt := 42) dX11_writeNumber_28 (by decide) rfl (fun c_82 => ?_) (fun c_82 => ?_)
    · exfalso; omega
    refine g_lload C 3 rfl dX11_writeNumber_31 rfl ?_
    refine g_ldc2 C (x := 10) w_X11_writeNumber_k315 (by decide) dX11_writeNumber_33 rfl ?_
    refine g_lmul C (r := 10) (by decide) dX11_writeNumber_36 rfl ?_
    refine g_lstore C (lv' := [(0, vR (Q 0)), (1, vL x), (3, vL (absI x)), (5, vL 10)]) [1, 2, 3, 0] (by decide) rfl rfl dX11_writeNumber_37 rfl ?_
    refine g_goto C (pc' := 20) dX11_writeNumber_39 (by decide) ?_
    refine g_lload_n C 2 rfl dX11_writeNumber_20 rfl ?_
    refine g_lload C 3 rfl dX11_writeNumber_21 rfl ?_
    refine g_ldiv C ⟨by omega, by omega⟩ ⟨by decide, by decide⟩ (by decide) rfl dX11_writeNumber_23 rfl ?_
    refine g_ldc2 C (x := 10) w_X11_writeNumber_k315 (by decide) dX11_writeNumber_24 rfl ?_
    refine g_lcmp_lt C ⟨by omega, by omega⟩ ⟨by decide, by decide⟩ dX11_writeNumber_27 rfl (tgt := 42) dX11_writeNumber_28 (by decide) rfl (fun c_83 => ?_) (fun c_83 => ?_)
    · refine g_lload C 3 rfl dX11_writeNumber_42 rfl ?_
      refine g_lconst0 C dX11_writeNumber_44 rfl ?_
      refine g_lcmp_le C ⟨by decide, by decide⟩ ⟨by decide, by decide⟩ dX11_writeNumber_45 rfl (tgt := 76) dX11_writeNumber_46 (by decide) rfl (fun c_84 => ?_) (fun c_84 => ?_)
      · exact absurd c_84 (by decide)
      refine g_aload_n C 0 rfl dX11_writeNumber_49 rfl ?_
      refine g_bipush C (by decide) dX11_writeNumber_50 rfl ?_
      refine g_lload_n C 2 rfl dX11_writeNumber_52 rfl ?_
      refine g_lload C 3 rfl dX11_writeNumber_53 rfl ?_
      refine g_ldiv C ⟨by omega, by omega⟩ ⟨by decide, by decide⟩ (by decide) rfl dX11_writeNumber_55 rfl ?_
      refine g_ldc2 C (x := 10) w_X11_writeNumber_k315 (by decide) dX11_writeNumber_56 rfl ?_
      refine g_lrem C ⟨by omega, by omega⟩ ⟨by decide, by decide⟩ (by decide) rfl dX11_writeNumber_59 rfl ?_
      refine g_l2i C rfl dX11_writeNumber_60 rfl ?_
      refine g_iadd C rfl dX11_writeNumber_61 rfl ?_
      refine g_callV C (b := (Q 0)) (mc := 0) (ms := 0) (rm := rm_K_m_write) (As := [vI (48 + (Int.tmod (Int.tdiv (absI x) 10) 10))]) (wc := [((Q 0), .inr (12, [vR (Q 1), vR (Q 2), vR (Q 3), vR (Q 4), vR (Q 5), vI pn, vR (Q 6), vL f0, vL f1, vL f2, vL f3, vL px, vL py, vL pb, vI rg, vI wr, vR (Q 7), vI rn, vR (Q 8), vI (wn + 1)])), ((Q 8), cI E 120 (ua ww wn 45))]) (wr := []) (st := []) gX11_writeNumber_X11_write (q9 := 0) (ci := 12) rfl rfl rfl (K_m_write l E Q pn f0 f1 f2 f3 px py pb rg wr rn (wn + 1) (ua ww wn 45) ((L ++ [45])) (48 + (Int.tmod (Int.tdiv (absI x) 10) 10)) f_80 wl_81 (by omega)) hyd_X11_write rfl [0, 1] [] rfl rfl rfl rfl rfl (by decide) ⟨rfl, rfl⟩ ⟨Nat.le_of_ble_eq_true rfl, Nat.le_of_ble_eq_true rfl, Nat.le_of_ble_eq_true rfl, Nat.le_of_ble_eq_true rfl⟩ (Nat.le_of_ble_eq_true rfl) dX11_writeNumber_62 (rfl : _ = 0) (rfl : _ = 0) rfl ?_
      rintro _ _ ⟨rfl, rfl, f_85⟩
      refine g_is (ws' := [((Q 0), .inr (12, [vR (Q 1), vR (Q 2), vR (Q 3), vR (Q 4), vR (Q 5), vI pn, vR (Q 6), vL f0, vL f1, vL f2, vL f3, vL px, vL py, vL pb, vI rg, vI wr, vR (Q 7), vI rn, vR (Q 8), vI ((wn + 1) + 1)])), ((Q 8), cI E 120 (ua (ua ww wn 45) (wn + 1) (48 + (Int.tmod (Int.tdiv (absI x) 10) 10))))]) (st' := []) rfl rfl ?_
      have wl_86 : ((wn + 1) + 1) = (((L ++ [45]) ++ [(48 + (Int.tmod (Int.tdiv (absI x) 10) 10))]).length : Int) := len_1 wl_81
      refine g_lload C 3 rfl dX11_writeNumber_65 rfl ?_
      refine g_ldc2 C (x := 10) w_X11_writeNumber_k315 (by decide) dX11_writeNumber_67 rfl ?_
      refine g_ldiv C ⟨by decide, by decide⟩ ⟨by decide, by decide⟩ (by decide) (r := 1) (by decide) dX11_writeNumber_70 rfl ?_
      refine g_lstore C (lv' := [(0, vR (Q 0)), (1, vL x), (3, vL (absI x)), (5, vL 1)]) [1, 2, 3, 0] (by decide) rfl rfl dX11_writeNumber_71 rfl ?_
      refine g_goto C (pc' := 42) dX11_writeNumber_73 (by decide) ?_
      refine g_lload C 3 rfl dX11_writeNumber_42 rfl ?_
      refine g_lconst0 C dX11_writeNumber_44 rfl ?_
      refine g_lcmp_le C ⟨by decide, by decide⟩ ⟨by decide, by decide⟩ dX11_writeNumber_45 rfl (tgt := 76) dX11_writeNumber_46 (by decide) rfl (fun c_87 => ?_) (fun c_87 => ?_)
      · exact absurd c_87 (by decide)
      refine g_aload_n C 0 rfl dX11_writeNumber_49 rfl ?_
      refine g_bipush C (by decide) dX11_writeNumber_50 rfl ?_
      refine g_lload_n C 2 rfl dX11_writeNumber_52 rfl ?_
      refine g_lload C 3 rfl dX11_writeNumber_53 rfl ?_
      refine g_ldiv C ⟨by omega, by omega⟩ ⟨by decide, by decide⟩ (by decide) rfl dX11_writeNumber_55 rfl ?_
      refine g_ldc2 C (x := 10) w_X11_writeNumber_k315 (by decide) dX11_writeNumber_56 rfl ?_
      refine g_lrem C ⟨by omega, by omega⟩ ⟨by decide, by decide⟩ (by decide) rfl dX11_writeNumber_59 rfl ?_
      refine g_l2i C rfl dX11_writeNumber_60 rfl ?_
      refine g_iadd C rfl dX11_writeNumber_61 rfl ?_
      refine g_callV C (b := (Q 0)) (mc := 0) (ms := 0) (rm := rm_K_m_write) (As := [vI (48 + (Int.tmod (Int.tdiv (absI x) 1) 10))]) (wc := [((Q 0), .inr (12, [vR (Q 1), vR (Q 2), vR (Q 3), vR (Q 4), vR (Q 5), vI pn, vR (Q 6), vL f0, vL f1, vL f2, vL f3, vL px, vL py, vL pb, vI rg, vI wr, vR (Q 7), vI rn, vR (Q 8), vI ((wn + 1) + 1)])), ((Q 8), cI E 120 (ua (ua ww wn 45) (wn + 1) (48 + (Int.tmod (Int.tdiv (absI x) 10) 10))))]) (wr := []) (st := []) gX11_writeNumber_X11_write (q9 := 0) (ci := 12) rfl rfl rfl (K_m_write l E Q pn f0 f1 f2 f3 px py pb rg wr rn ((wn + 1) + 1) (ua (ua ww wn 45) (wn + 1) (48 + (Int.tmod (Int.tdiv (absI x) 10) 10))) (((L ++ [45]) ++ [(48 + (Int.tmod (Int.tdiv (absI x) 10) 10))])) (48 + (Int.tmod (Int.tdiv (absI x) 1) 10)) f_85 wl_86 (by omega)) hyd_X11_write rfl [0, 1] [] rfl rfl rfl rfl rfl (by decide) ⟨rfl, rfl⟩ ⟨Nat.le_of_ble_eq_true rfl, Nat.le_of_ble_eq_true rfl, Nat.le_of_ble_eq_true rfl, Nat.le_of_ble_eq_true rfl⟩ (Nat.le_of_ble_eq_true rfl) dX11_writeNumber_62 (rfl : _ = 0) (rfl : _ = 0) rfl ?_
      rintro _ _ ⟨rfl, rfl, f_88⟩
      refine g_is (ws' := [((Q 0), .inr (12, [vR (Q 1), vR (Q 2), vR (Q 3), vR (Q 4), vR (Q 5), vI pn, vR (Q 6), vL f0, vL f1, vL f2, vL f3, vL px, vL py, vL pb, vI rg, vI wr, vR (Q 7), vI rn, vR (Q 8), vI (((wn + 1) + 1) + 1)])), ((Q 8), cI E 120 (ua (ua (ua ww wn 45) (wn + 1) (48 + (Int.tmod (Int.tdiv (absI x) 10) 10))) ((wn + 1) + 1) (48 + (Int.tmod (Int.tdiv (absI x) 1) 10))))]) (st' := []) rfl rfl ?_
      have wl_89 : (((wn + 1) + 1) + 1) = ((((L ++ [45]) ++ [(48 + (Int.tmod (Int.tdiv (absI x) 10) 10))]) ++ [(48 + (Int.tmod (Int.tdiv (absI x) 1) 10))]).length : Int) := len_1 wl_86
      refine g_lload C 3 rfl dX11_writeNumber_65 rfl ?_
      refine g_ldc2 C (x := 10) w_X11_writeNumber_k315 (by decide) dX11_writeNumber_67 rfl ?_
      refine g_ldiv C ⟨by decide, by decide⟩ ⟨by decide, by decide⟩ (by decide) (r := 0) (by decide) dX11_writeNumber_70 rfl ?_
      refine g_lstore C (lv' := [(0, vR (Q 0)), (1, vL x), (3, vL (absI x)), (5, vL 0)]) [1, 2, 3, 0] (by decide) rfl rfl dX11_writeNumber_71 rfl ?_
      refine g_goto C (pc' := 42) dX11_writeNumber_73 (by decide) ?_
      refine g_lload C 3 rfl dX11_writeNumber_42 rfl ?_
      refine g_lconst0 C dX11_writeNumber_44 rfl ?_
      refine g_lcmp_le C ⟨by decide, by decide⟩ ⟨by decide, by decide⟩ dX11_writeNumber_45 rfl (tgt := 76) dX11_writeNumber_46 (by decide) rfl (fun c_90 => ?_) (fun c_90 => ?_)
      · refine g_ws (ws' := [((Q 0), .inr (12, [vR (Q 1), vR (Q 2), vR (Q 3), vR (Q 4), vR (Q 5), vI pn, vR (Q 6), vL f0, vL f1, vL f2, vL f3, vL px, vL py, vL pb, vI rg, vI wr, vR (Q 7), vI rn, vR (Q 8), vI (wn + (dlen x))])), ((Q 8), cI E 120 (ua (ua (ua ww wn 45) (wn + 1) (48 + (Int.tmod (Int.tdiv (absI x) 10) 10))) ((wn + 1) + 1) (48 + (Int.tmod (Int.tdiv (absI x) 1) 10))))]) (congrArg (fun z_ : Int => ([((Q 0), .inr (12, [vR (Q 1), vR (Q 2), vR (Q 3), vR (Q 4), vR (Q 5), vI pn, vR (Q 6), vL f0, vL f1, vL f2, vL f3, vL px, vL py, vL pb, vI rg, vI wr, vR (Q 7), vI rn, vR (Q 8), vI z_])), ((Q 8), cI E 120 (ua (ua (ua ww wn 45) (wn + 1) (48 + (Int.tmod (Int.tdiv (absI x) 10) 10))) ((wn + 1) + 1) (48 + (Int.tmod (Int.tdiv (absI x) 1) 10))))] : va_W)) (show (wn + (dlen x)) = (((wn + 1) + 1) + 1) by omega)) ?_
        exact g_vret C hr (Nat.le_of_ble_eq_true rfl) (Nat.le_of_ble_eq_true rfl) dX11_writeNumber_76 ⟨(ua (ua (ua ww wn 45) (wn + 1) (48 + (Int.tmod (Int.tdiv (absI x) 10) 10))) ((wn + 1) + 1) (48 + (Int.tmod (Int.tdiv (absI x) 1) 10))), rfl, rfl, (by rw [dgs_n (by omega), dgs_p2 (v := (-x)) (by omega)]; have g9 := f_88; (try simp only [List.append_assoc, List.cons_append, List.nil_append] at g9); refine TX_eq g9 ?_; simp only [List.append_cancel_left_eq, List.cons.injEq, and_true, true_and]; (repeat' apply And.intro) <;> omega)⟩
      exact absurd c_90 (by decide)
    exfalso; omega
  · have ab : absI x = -x := by unfold absI; split <;> omega
    have t0 : Int.tdiv (absI x) 1 = absI x / 1 := Int.tdiv_eq_ediv_of_nonneg (by omega)
    have u0 : Int.tmod (Int.tdiv (absI x) 1) 10 = absI x / 1 % 10 := by rw [t0]; exact Int.tmod_eq_emod_of_nonneg (by omega)
    have t1 : Int.tdiv (absI x) 10 = absI x / 10 := Int.tdiv_eq_ediv_of_nonneg (by omega)
    have u1 : Int.tmod (Int.tdiv (absI x) 10) 10 = absI x / 10 % 10 := by rw [t1]; exact Int.tmod_eq_emod_of_nonneg (by omega)
    have t2 : Int.tdiv (absI x) 100 = absI x / 100 := Int.tdiv_eq_ediv_of_nonneg (by omega)
    have u2 : Int.tmod (Int.tdiv (absI x) 100) 10 = absI x / 100 % 10 := by rw [t2]; exact Int.tmod_eq_emod_of_nonneg (by omega)
    refine g_lload_n C 1 rfl dX11_writeNumber_0 rfl ?_
    refine g_lconst0 C dX11_writeNumber_1 rfl ?_
    refine g_lcmp_ge C ⟨by omega, by omega⟩ ⟨by decide, by decide⟩ dX11_writeNumber_2 rfl (tgt := 12) dX11_writeNumber_3 (by decide) rfl (fun c_91 => ?_) (fun c_91 => ?_)
    · exfalso; omega
    refine g_aload_n C 0 rfl dX11_writeNumber_6 rfl ?_
    refine g_bipush C (by decide) dX11_writeNumber_7 rfl ?_
    refine g_callV C (b := (Q 0)) (mc := 0) (ms := 0) (rm := rm_K_m_write) (As := [vI 45]) (wc := [((Q 0), .inr (12, [vR (Q 1), vR (Q 2), vR (Q 3), vR (Q 4), vR (Q 5), vI pn, vR (Q 6), vL f0, vL f1, vL f2, vL f3, vL px, vL py, vL pb, vI rg, vI wr, vR (Q 7), vI rn, vR (Q 8), vI wn])), ((Q 8), cI E 120 ww)]) (wr := []) (st := []) gX11_writeNumber_X11_write (q9 := 0) (ci := 12) rfl rfl rfl (K_m_write l E Q pn f0 f1 f2 f3 px py pb rg wr rn wn ww L 45 hT hl (by omega)) hyd_X11_write rfl [0, 1] [] rfl rfl rfl rfl rfl (by decide) ⟨rfl, rfl⟩ ⟨Nat.le_of_ble_eq_true rfl, Nat.le_of_ble_eq_true rfl, Nat.le_of_ble_eq_true rfl, Nat.le_of_ble_eq_true rfl⟩ (Nat.le_of_ble_eq_true rfl) dX11_writeNumber_9 (rfl : _ = 0) (rfl : _ = 0) rfl ?_
    rintro _ _ ⟨rfl, rfl, f_92⟩
    refine g_is (ws' := [((Q 0), .inr (12, [vR (Q 1), vR (Q 2), vR (Q 3), vR (Q 4), vR (Q 5), vI pn, vR (Q 6), vL f0, vL f1, vL f2, vL f3, vL px, vL py, vL pb, vI rg, vI wr, vR (Q 7), vI rn, vR (Q 8), vI (wn + 1)])), ((Q 8), cI E 120 (ua ww wn 45))]) (st' := []) rfl rfl ?_
    have wl_93 : (wn + 1) = ((L ++ [45]).length : Int) := len_1 hl
    refine g_lload_n C 1 rfl dX11_writeNumber_12 rfl ?_
    refine g_callS C (mc := 0) (ms := 0) (rm := rm_K_m_size) (As := [vL x]) (wc := []) (wr := [((Q 0), .inr (12, [vR (Q 1), vR (Q 2), vR (Q 3), vR (Q 4), vR (Q 5), vI pn, vR (Q 6), vL f0, vL f1, vL f2, vL f3, vL px, vL py, vL pb, vI rg, vI wr, vR (Q 7), vI rn, vR (Q 8), vI (wn + 1)])), ((Q 8), cI E 120 (ua ww wn 45))]) (st := []) gX11_writeNumber_X11_size rfl (K_m_size l E x ⟨by omega, by omega⟩) hyd_X11_size rfl [] [0, 1] rfl rfl rfl rfl rfl (by decide) ⟨rfl, rfl⟩ ⟨Nat.le_of_ble_eq_true rfl, Nat.le_of_ble_eq_true rfl, Nat.le_of_ble_eq_true rfl, Nat.le_of_ble_eq_true rfl⟩ (Nat.le_of_ble_eq_true rfl) dX11_writeNumber_13 (rfl : _ = 0) (rfl : _ = 0) rfl ?_
    rintro _ _ ⟨rfl, rfl⟩
    refine g_is (ws' := [((Q 0), .inr (12, [vR (Q 1), vR (Q 2), vR (Q 3), vR (Q 4), vR (Q 5), vI pn, vR (Q 6), vL f0, vL f1, vL f2, vL f3, vL px, vL py, vL pb, vI rg, vI wr, vR (Q 7), vI rn, vR (Q 8), vI (wn + 1)])), ((Q 8), cI E 120 (ua ww wn 45))]) (st' := [vL (absI x)]) rfl rfl ?_
    refine g_lstore_n C (lv' := [(0, vR (Q 0)), (1, vL x), (3, vL (absI x))]) [1, 2, 0] (by decide) rfl rfl dX11_writeNumber_16 rfl ?_
    refine g_lconst1 C dX11_writeNumber_17 rfl ?_
    refine g_lstore C (lv' := [(0, vR (Q 0)), (1, vL x), (3, vL (absI x)), (5, vL 1)]) [1, 2, 3, 0] (by decide) rfl rfl dX11_writeNumber_18 rfl ?_
    refine g_lload_n C 2 rfl dX11_writeNumber_20 rfl ?_
    refine g_lload C 3 rfl dX11_writeNumber_21 rfl ?_
    refine g_ldiv C ⟨by omega, by omega⟩ ⟨by decide, by decide⟩ (by decide) rfl dX11_writeNumber_23 rfl ?_
    refine g_ldc2 C (x := 10) w_X11_writeNumber_k315 (by decide) dX11_writeNumber_24 rfl ?_
    refine g_lcmp_lt C ⟨by omega, by omega⟩ ⟨by decide, by decide⟩ dX11_writeNumber_27 rfl (tgt := 42) dX11_writeNumber_28 (by decide) rfl (fun c_94 => ?_) (fun c_94 => ?_)
    · exfalso; omega
    refine g_lload C 3 rfl dX11_writeNumber_31 rfl ?_
    refine g_ldc2 C (x := 10) w_X11_writeNumber_k315 (by decide) dX11_writeNumber_33 rfl ?_
    refine g_lmul C (r := 10) (by decide) dX11_writeNumber_36 rfl ?_
    refine g_lstore C (lv' := [(0, vR (Q 0)), (1, vL x), (3, vL (absI x)), (5, vL 10)]) [1, 2, 3, 0] (by decide) rfl rfl dX11_writeNumber_37 rfl ?_
    refine g_goto C (pc' := 20) dX11_writeNumber_39 (by decide) ?_
    refine g_lload_n C 2 rfl dX11_writeNumber_20 rfl ?_
    refine g_lload C 3 rfl dX11_writeNumber_21 rfl ?_
    refine g_ldiv C ⟨by omega, by omega⟩ ⟨by decide, by decide⟩ (by decide) rfl dX11_writeNumber_23 rfl ?_
    refine g_ldc2 C (x := 10) w_X11_writeNumber_k315 (by decide) dX11_writeNumber_24 rfl ?_
    refine g_lcmp_lt C ⟨by omega, by omega⟩ ⟨by decide, by decide⟩ dX11_writeNumber_27 rfl (tgt := 42) dX11_writeNumber_28 (by decide) rfl (fun c_95 => ?_) (fun c_95 => ?_)
    · exfalso; omega
    refine g_lload C 3 rfl dX11_writeNumber_31 rfl ?_
    refine g_ldc2 C (x := 10) w_X11_writeNumber_k315 (by decide) dX11_writeNumber_33 rfl ?_
    refine g_lmul C (r := 100) (by decide) dX11_writeNumber_36 rfl ?_
    refine g_lstore C (lv' := [(0, vR (Q 0)), (1, vL x), (3, vL (absI x)), (5, vL 100)]) [1, 2, 3, 0] (by decide) rfl rfl dX11_writeNumber_37 rfl ?_
    refine g_goto C (pc' := 20) dX11_writeNumber_39 (by decide) ?_
    refine g_lload_n C 2 rfl dX11_writeNumber_20 rfl ?_
    refine g_lload C 3 rfl dX11_writeNumber_21 rfl ?_
    refine g_ldiv C ⟨by omega, by omega⟩ ⟨by decide, by decide⟩ (by decide) rfl dX11_writeNumber_23 rfl ?_
    refine g_ldc2 C (x := 10) w_X11_writeNumber_k315 (by decide) dX11_writeNumber_24 rfl ?_
    refine g_lcmp_lt C ⟨by omega, by omega⟩ ⟨by decide, by decide⟩ dX11_writeNumber_27 rfl (tgt := 42) dX11_writeNumber_28 (by decide) rfl (fun c_96 => ?_) (fun c_96 => ?_)
    · refine g_lload C 3 rfl dX11_writeNumber_42 rfl ?_
      refine g_lconst0 C dX11_writeNumber_44 rfl ?_
      refine g_lcmp_le C ⟨by decide, by decide⟩ ⟨by decide, by decide⟩ dX11_writeNumber_45 rfl (tgt := 76) dX11_writeNumber_46 (by decide) rfl (fun c_97 => ?_) (fun c_97 => ?_)
      · exact absurd c_97 (by decide)
      refine g_aload_n C 0 rfl dX11_writeNumber_49 rfl ?_
      refine g_bipush C (by decide) dX11_writeNumber_50 rfl ?_
      refine g_lload_n C 2 rfl dX11_writeNumber_52 rfl ?_
      refine g_lload C 3 rfl dX11_writeNumber_53 rfl ?_
      refine g_ldiv C ⟨by omega, by omega⟩ ⟨by decide, by decide⟩ (by decide) rfl dX11_writeNumber_55 rfl ?_
      refine g_ldc2 C (x := 10) w_X11_writeNumber_k315 (by decide) dX11_writeNumber_56 rfl ?_
      refine g_lrem C ⟨by omega, by omega⟩ ⟨by decide, by decide⟩ (by decide) rfl dX11_writeNumber_59 rfl ?_
      refine g_l2i C rfl dX11_writeNumber_60 rfl ?_
      refine g_iadd C rfl dX11_writeNumber_61 rfl ?_
      refine g_callV C (b := (Q 0)) (mc := 0) (ms := 0) (rm := rm_K_m_write) (As := [vI (48 + (Int.tmod (Int.tdiv (absI x) 100) 10))]) (wc := [((Q 0), .inr (12, [vR (Q 1), vR (Q 2), vR (Q 3), vR (Q 4), vR (Q 5), vI pn, vR (Q 6), vL f0, vL f1, vL f2, vL f3, vL px, vL py, vL pb, vI rg, vI wr, vR (Q 7), vI rn, vR (Q 8), vI (wn + 1)])), ((Q 8), cI E 120 (ua ww wn 45))]) (wr := []) (st := []) gX11_writeNumber_X11_write (q9 := 0) (ci := 12) rfl rfl rfl (K_m_write l E Q pn f0 f1 f2 f3 px py pb rg wr rn (wn + 1) (ua ww wn 45) ((L ++ [45])) (48 + (Int.tmod (Int.tdiv (absI x) 100) 10)) f_92 wl_93 (by omega)) hyd_X11_write rfl [0, 1] [] rfl rfl rfl rfl rfl (by decide) ⟨rfl, rfl⟩ ⟨Nat.le_of_ble_eq_true rfl, Nat.le_of_ble_eq_true rfl, Nat.le_of_ble_eq_true rfl, Nat.le_of_ble_eq_true rfl⟩ (Nat.le_of_ble_eq_true rfl) dX11_writeNumber_62 (rfl : _ = 0) (rfl : _ = 0) rfl ?_
      rintro _ _ ⟨rfl, rfl, f_98⟩
      refine g_is (ws' := [((Q 0), .inr (12, [vR (Q 1), vR (Q 2), vR (Q 3), vR (Q 4), vR (Q 5), vI pn, vR (Q 6), vL f0, vL f1, vL f2, vL f3, vL px, vL py, vL pb, vI rg, vI wr, vR (Q 7), vI rn, vR (Q 8), vI ((wn + 1) + 1)])), ((Q 8), cI E 120 (ua (ua ww wn 45) (wn + 1) (48 + (Int.tmod (Int.tdiv (absI x) 100) 10))))]) (st' := []) rfl rfl ?_
      have wl_99 : ((wn + 1) + 1) = (((L ++ [45]) ++ [(48 + (Int.tmod (Int.tdiv (absI x) 100) 10))]).length : Int) := len_1 wl_93
      refine g_lload C 3 rfl dX11_writeNumber_65 rfl ?_
      refine g_ldc2 C (x := 10) w_X11_writeNumber_k315 (by decide) dX11_writeNumber_67 rfl ?_
      refine g_ldiv C ⟨by decide, by decide⟩ ⟨by decide, by decide⟩ (by decide) (r := 10) (by decide) dX11_writeNumber_70 rfl ?_
      refine g_lstore C (lv' := [(0, vR (Q 0)), (1, vL x), (3, vL (absI x)), (5, vL 10)]) [1, 2, 3, 0] (by decide) rfl rfl dX11_writeNumber_71 rfl ?_
      refine g_goto C (pc' := 42) dX11_writeNumber_73 (by decide) ?_
      refine g_lload C 3 rfl dX11_writeNumber_42 rfl ?_
      refine g_lconst0 C dX11_writeNumber_44 rfl ?_
      refine g_lcmp_le C ⟨by decide, by decide⟩ ⟨by decide, by decide⟩ dX11_writeNumber_45 rfl (tgt := 76) dX11_writeNumber_46 (by decide) rfl (fun c_100 => ?_) (fun c_100 => ?_)
      · exact absurd c_100 (by decide)
      refine g_aload_n C 0 rfl dX11_writeNumber_49 rfl ?_
      refine g_bipush C (by decide) dX11_writeNumber_50 rfl ?_
      refine g_lload_n C 2 rfl dX11_writeNumber_52 rfl ?_
      refine g_lload C 3 rfl dX11_writeNumber_53 rfl ?_
      refine g_ldiv C ⟨by omega, by omega⟩ ⟨by decide, by decide⟩ (by decide) rfl dX11_writeNumber_55 rfl ?_
      refine g_ldc2 C (x := 10) w_X11_writeNumber_k315 (by decide) dX11_writeNumber_56 rfl ?_
      refine g_lrem C ⟨by omega, by omega⟩ ⟨by decide, by decide⟩ (by decide) rfl dX11_writeNumber_59 rfl ?_
      refine g_l2i C rfl dX11_writeNumber_60 rfl ?_
      refine g_iadd C rfl dX11_writeNumber_61 rfl ?_
      refine g_callV C (b := (Q 0)) (mc := 0) (ms := 0) (rm := rm_K_m_write) (As := [vI (48 + (Int.tmod (Int.tdiv (absI x) 10) 10))]) (wc := [((Q 0), .inr (12, [vR (Q 1), vR (Q 2), vR (Q 3), vR (Q 4), vR (Q 5), vI pn, vR (Q 6), vL f0, vL f1, vL f2, vL f3, vL px, vL py, vL pb, vI rg, vI wr, vR (Q 7), vI rn, vR (Q 8), vI ((wn + 1) + 1)])), ((Q 8), cI E 120 (ua (ua ww wn 45) (wn + 1) (48 + (Int.tmod (Int.tdiv (absI x) 100) 10))))]) (wr := []) (st := []) gX11_writeNumber_X11_write (q9 := 0) (ci := 12) rfl rfl rfl (K_m_write l E Q pn f0 f1 f2 f3 px py pb rg wr rn ((wn + 1) + 1) (ua (ua ww wn 45) (wn + 1) (48 + (Int.tmod (Int.tdiv (absI x) 100) 10))) (((L ++ [45]) ++ [(48 + (Int.tmod (Int.tdiv (absI x) 100) 10))])) (48 + (Int.tmod (Int.tdiv (absI x) 10) 10)) f_98 wl_99 (by omega)) hyd_X11_write rfl [0, 1] [] rfl rfl rfl rfl rfl (by decide) ⟨rfl, rfl⟩ ⟨Nat.le_of_ble_eq_true rfl, Nat.le_of_ble_eq_true rfl, Nat.le_of_ble_eq_true rfl, Nat.le_of_ble_eq_true rfl⟩ (Nat.le_of_ble_eq_true rfl) dX11_writeNumber_62 (rfl : _ = 0) (rfl : _ = 0) rfl ?_
      rintro _ _ ⟨rfl, rfl, f_101⟩
      refine g_is (ws' := [((Q 0), .inr (12, [vR (Q 1), vR (Q 2), vR (Q 3), vR (Q 4), vR (Q 5), vI pn, vR (Q 6), vL f0, vL f1, vL f2, vL f3, vL px, vL py, vL pb, vI rg, vI wr, vR (Q 7), vI rn, vR (Q 8), vI (((wn + 1) + 1) + 1)])), ((Q 8), cI E 120 (ua (ua (ua ww wn 45) (wn + 1) (48 + (Int.tmod (Int.tdiv (absI x) 100) 10))) ((wn + 1) + 1) (48 + (Int.tmod (Int.tdiv (absI x) 10) 10))))]) (st' := []) rfl rfl ?_
      have wl_102 : (((wn + 1) + 1) + 1) = ((((L ++ [45]) ++ [(48 + (Int.tmod (Int.tdiv (absI x) 100) 10))]) ++ [(48 + (Int.tmod (Int.tdiv (absI x) 10) 10))]).length : Int) := len_1 wl_99
      refine g_lload C 3 rfl dX11_writeNumber_65 rfl ?_
      refine g_ldc2 C (x := 10) w_X11_writeNumber_k315 (by decide) dX11_writeNumber_67 rfl ?_
      refine g_ldiv C ⟨by decide, by decide⟩ ⟨by decide, by decide⟩ (by decide) (r := 1) (by decide) dX11_writeNumber_70 rfl ?_
      refine g_lstore C (lv' := [(0, vR (Q 0)), (1, vL x), (3, vL (absI x)), (5, vL 1)]) [1, 2, 3, 0] (by decide) rfl rfl dX11_writeNumber_71 rfl ?_
      refine g_goto C (pc' := 42) dX11_writeNumber_73 (by decide) ?_
      refine g_lload C 3 rfl dX11_writeNumber_42 rfl ?_
      refine g_lconst0 C dX11_writeNumber_44 rfl ?_
      refine g_lcmp_le C ⟨by decide, by decide⟩ ⟨by decide, by decide⟩ dX11_writeNumber_45 rfl (tgt := 76) dX11_writeNumber_46 (by decide) rfl (fun c_103 => ?_) (fun c_103 => ?_)
      · exact absurd c_103 (by decide)
      refine g_aload_n C 0 rfl dX11_writeNumber_49 rfl ?_
      refine g_bipush C (by decide) dX11_writeNumber_50 rfl ?_
      refine g_lload_n C 2 rfl dX11_writeNumber_52 rfl ?_
      refine g_lload C 3 rfl dX11_writeNumber_53 rfl ?_
      refine g_ldiv C ⟨by omega, by omega⟩ ⟨by decide, by decide⟩ (by decide) rfl dX11_writeNumber_55 rfl ?_
      refine g_ldc2 C (x := 10) w_X11_writeNumber_k315 (by decide) dX11_writeNumber_56 rfl ?_
      refine g_lrem C ⟨by omega, by omega⟩ ⟨by decide, by decide⟩ (by decide) rfl dX11_writeNumber_59 rfl ?_
      refine g_l2i C rfl dX11_writeNumber_60 rfl ?_
      refine g_iadd C rfl dX11_writeNumber_61 rfl ?_
      refine g_callV C (b := (Q 0)) (mc := 0) (ms := 0) (rm := rm_K_m_write) (As := [vI (48 + (Int.tmod (Int.tdiv (absI x) 1) 10))]) (wc := [((Q 0), .inr (12, [vR (Q 1), vR (Q 2), vR (Q 3), vR (Q 4), vR (Q 5), vI pn, vR (Q 6), vL f0, vL f1, vL f2, vL f3, vL px, vL py, vL pb, vI rg, vI wr, vR (Q 7), vI rn, vR (Q 8), vI (((wn + 1) + 1) + 1)])), ((Q 8), cI E 120 (ua (ua (ua ww wn 45) (wn + 1) (48 + (Int.tmod (Int.tdiv (absI x) 100) 10))) ((wn + 1) + 1) (48 + (Int.tmod (Int.tdiv (absI x) 10) 10))))]) (wr := []) (st := []) gX11_writeNumber_X11_write (q9 := 0) (ci := 12) rfl rfl rfl (K_m_write l E Q pn f0 f1 f2 f3 px py pb rg wr rn (((wn + 1) + 1) + 1) (ua (ua (ua ww wn 45) (wn + 1) (48 + (Int.tmod (Int.tdiv (absI x) 100) 10))) ((wn + 1) + 1) (48 + (Int.tmod (Int.tdiv (absI x) 10) 10))) ((((L ++ [45]) ++ [(48 + (Int.tmod (Int.tdiv (absI x) 100) 10))]) ++ [(48 + (Int.tmod (Int.tdiv (absI x) 10) 10))])) (48 + (Int.tmod (Int.tdiv (absI x) 1) 10)) f_101 wl_102 (by omega)) hyd_X11_write rfl [0, 1] [] rfl rfl rfl rfl rfl (by decide) ⟨rfl, rfl⟩ ⟨Nat.le_of_ble_eq_true rfl, Nat.le_of_ble_eq_true rfl, Nat.le_of_ble_eq_true rfl, Nat.le_of_ble_eq_true rfl⟩ (Nat.le_of_ble_eq_true rfl) dX11_writeNumber_62 (rfl : _ = 0) (rfl : _ = 0) rfl ?_
      rintro _ _ ⟨rfl, rfl, f_104⟩
      refine g_is (ws' := [((Q 0), .inr (12, [vR (Q 1), vR (Q 2), vR (Q 3), vR (Q 4), vR (Q 5), vI pn, vR (Q 6), vL f0, vL f1, vL f2, vL f3, vL px, vL py, vL pb, vI rg, vI wr, vR (Q 7), vI rn, vR (Q 8), vI ((((wn + 1) + 1) + 1) + 1)])), ((Q 8), cI E 120 (ua (ua (ua (ua ww wn 45) (wn + 1) (48 + (Int.tmod (Int.tdiv (absI x) 100) 10))) ((wn + 1) + 1) (48 + (Int.tmod (Int.tdiv (absI x) 10) 10))) (((wn + 1) + 1) + 1) (48 + (Int.tmod (Int.tdiv (absI x) 1) 10))))]) (st' := []) rfl rfl ?_
      have wl_105 : ((((wn + 1) + 1) + 1) + 1) = (((((L ++ [45]) ++ [(48 + (Int.tmod (Int.tdiv (absI x) 100) 10))]) ++ [(48 + (Int.tmod (Int.tdiv (absI x) 10) 10))]) ++ [(48 + (Int.tmod (Int.tdiv (absI x) 1) 10))]).length : Int) := len_1 wl_102
      refine g_lload C 3 rfl dX11_writeNumber_65 rfl ?_
      refine g_ldc2 C (x := 10) w_X11_writeNumber_k315 (by decide) dX11_writeNumber_67 rfl ?_
      refine g_ldiv C ⟨by decide, by decide⟩ ⟨by decide, by decide⟩ (by decide) (r := 0) (by decide) dX11_writeNumber_70 rfl ?_
      refine g_lstore C (lv' := [(0, vR (Q 0)), (1, vL x), (3, vL (absI x)), (5, vL 0)]) [1, 2, 3, 0] (by decide) rfl rfl dX11_writeNumber_71 rfl ?_
      refine g_goto C (pc' := 42) dX11_writeNumber_73 (by decide) ?_
      refine g_lload C 3 rfl dX11_writeNumber_42 rfl ?_
      refine g_lconst0 C dX11_writeNumber_44 rfl ?_
      refine g_lcmp_le C ⟨by decide, by decide⟩ ⟨by decide, by decide⟩ dX11_writeNumber_45 rfl (tgt := 76) dX11_writeNumber_46 (by decide) rfl (fun c_106 => ?_) (fun c_106 => ?_)
      · refine g_ws (ws' := [((Q 0), .inr (12, [vR (Q 1), vR (Q 2), vR (Q 3), vR (Q 4), vR (Q 5), vI pn, vR (Q 6), vL f0, vL f1, vL f2, vL f3, vL px, vL py, vL pb, vI rg, vI wr, vR (Q 7), vI rn, vR (Q 8), vI (wn + (dlen x))])), ((Q 8), cI E 120 (ua (ua (ua (ua ww wn 45) (wn + 1) (48 + (Int.tmod (Int.tdiv (absI x) 100) 10))) ((wn + 1) + 1) (48 + (Int.tmod (Int.tdiv (absI x) 10) 10))) (((wn + 1) + 1) + 1) (48 + (Int.tmod (Int.tdiv (absI x) 1) 10))))]) (congrArg (fun z_ : Int => ([((Q 0), .inr (12, [vR (Q 1), vR (Q 2), vR (Q 3), vR (Q 4), vR (Q 5), vI pn, vR (Q 6), vL f0, vL f1, vL f2, vL f3, vL px, vL py, vL pb, vI rg, vI wr, vR (Q 7), vI rn, vR (Q 8), vI z_])), ((Q 8), cI E 120 (ua (ua (ua (ua ww wn 45) (wn + 1) (48 + (Int.tmod (Int.tdiv (absI x) 100) 10))) ((wn + 1) + 1) (48 + (Int.tmod (Int.tdiv (absI x) 10) 10))) (((wn + 1) + 1) + 1) (48 + (Int.tmod (Int.tdiv (absI x) 1) 10))))] : va_W)) (show (wn + (dlen x)) = ((((wn + 1) + 1) + 1) + 1) by omega)) ?_
        exact g_vret C hr (Nat.le_of_ble_eq_true rfl) (Nat.le_of_ble_eq_true rfl) dX11_writeNumber_76 ⟨(ua (ua (ua (ua ww wn 45) (wn + 1) (48 + (Int.tmod (Int.tdiv (absI x) 100) 10))) ((wn + 1) + 1) (48 + (Int.tmod (Int.tdiv (absI x) 10) 10))) (((wn + 1) + 1) + 1) (48 + (Int.tmod (Int.tdiv (absI x) 1) 10))), rfl, rfl, (by rw [dgs_n (by omega), dgs_p3 (v := (-x)) (by omega)]; have g9 := f_104; (try simp only [List.append_assoc, List.cons_append, List.nil_append] at g9); refine TX_eq g9 ?_; simp only [List.append_cancel_left_eq, List.cons.injEq, and_true, true_and]; (repeat' apply And.intro) <;> omega)⟩
      exact absurd c_106 (by decide)
    exfalso; omega
  · have ab : absI x = -x := by unfold absI; split <;> omega
    have t0 : Int.tdiv (absI x) 1 = absI x / 1 := Int.tdiv_eq_ediv_of_nonneg (by omega)
    have u0 : Int.tmod (Int.tdiv (absI x) 1) 10 = absI x / 1 % 10 := by rw [t0]; exact Int.tmod_eq_emod_of_nonneg (by omega)
    have t1 : Int.tdiv (absI x) 10 = absI x / 10 := Int.tdiv_eq_ediv_of_nonneg (by omega)
    have u1 : Int.tmod (Int.tdiv (absI x) 10) 10 = absI x / 10 % 10 := by rw [t1]; exact Int.tmod_eq_emod_of_nonneg (by omega)
    have t2 : Int.tdiv (absI x) 100 = absI x / 100 := Int.tdiv_eq_ediv_of_nonneg (by omega)
    have u2 : Int.tmod (Int.tdiv (absI x) 100) 10 = absI x / 100 % 10 := by rw [t2]; exact Int.tmod_eq_emod_of_nonneg (by omega)
    have t3 : Int.tdiv (absI x) 1000 = absI x / 1000 := Int.tdiv_eq_ediv_of_nonneg (by omega)
    have u3 : Int.tmod (Int.tdiv (absI x) 1000) 10 = absI x / 1000 % 10 := by rw [t3]; exact Int.tmod_eq_emod_of_nonneg (by omega)
    refine g_lload_n C 1 rfl dX11_writeNumber_0 rfl ?_
    refine g_lconst0 C dX11_writeNumber_1 rfl ?_
    refine g_lcmp_ge C ⟨by omega, by omega⟩ ⟨by decide, by decide⟩ dX11_writeNumber_2 rfl (tgt := 12) dX11_writeNumber_3 (by decide) rfl (fun c_107 => ?_) (fun c_107 => ?_)
    · exfalso; omega
    refine g_aload_n C 0 rfl dX11_writeNumber_6 rfl ?_
    refine g_bipush C (by decide) dX11_writeNumber_7 rfl ?_
    refine g_callV C (b := (Q 0)) (mc := 0) (ms := 0) (rm := rm_K_m_write) (As := [vI 45]) (wc := [((Q 0), .inr (12, [vR (Q 1), vR (Q 2), vR (Q 3), vR (Q 4), vR (Q 5), vI pn, vR (Q 6), vL f0, vL f1, vL f2, vL f3, vL px, vL py, vL pb, vI rg, vI wr, vR (Q 7), vI rn, vR (Q 8), vI wn])), ((Q 8), cI E 120 ww)]) (wr := []) (st := []) gX11_writeNumber_X11_write (q9 := 0) (ci := 12) rfl rfl rfl (K_m_write l E Q pn f0 f1 f2 f3 px py pb rg wr rn wn ww L 45 hT hl (by omega)) hyd_X11_write rfl [0, 1] [] rfl rfl rfl rfl rfl (by decide) ⟨rfl, rfl⟩ ⟨Nat.le_of_ble_eq_true rfl, Nat.le_of_ble_eq_true rfl, Nat.le_of_ble_eq_true rfl, Nat.le_of_ble_eq_true rfl⟩ (Nat.le_of_ble_eq_true rfl) dX11_writeNumber_9 (rfl : _ = 0) (rfl : _ = 0) rfl ?_
    rintro _ _ ⟨rfl, rfl, f_108⟩
    refine g_is (ws' := [((Q 0), .inr (12, [vR (Q 1), vR (Q 2), vR (Q 3), vR (Q 4), vR (Q 5), vI pn, vR (Q 6), vL f0, vL f1, vL f2, vL f3, vL px, vL py, vL pb, vI rg, vI wr, vR (Q 7), vI rn, vR (Q 8), vI (wn + 1)])), ((Q 8), cI E 120 (ua ww wn 45))]) (st' := []) rfl rfl ?_
    have wl_109 : (wn + 1) = ((L ++ [45]).length : Int) := len_1 hl
    refine g_lload_n C 1 rfl dX11_writeNumber_12 rfl ?_
    refine g_callS C (mc := 0) (ms := 0) (rm := rm_K_m_size) (As := [vL x]) (wc := []) (wr := [((Q 0), .inr (12, [vR (Q 1), vR (Q 2), vR (Q 3), vR (Q 4), vR (Q 5), vI pn, vR (Q 6), vL f0, vL f1, vL f2, vL f3, vL px, vL py, vL pb, vI rg, vI wr, vR (Q 7), vI rn, vR (Q 8), vI (wn + 1)])), ((Q 8), cI E 120 (ua ww wn 45))]) (st := []) gX11_writeNumber_X11_size rfl (K_m_size l E x ⟨by omega, by omega⟩) hyd_X11_size rfl [] [0, 1] rfl rfl rfl rfl rfl (by decide) ⟨rfl, rfl⟩ ⟨Nat.le_of_ble_eq_true rfl, Nat.le_of_ble_eq_true rfl, Nat.le_of_ble_eq_true rfl, Nat.le_of_ble_eq_true rfl⟩ (Nat.le_of_ble_eq_true rfl) dX11_writeNumber_13 (rfl : _ = 0) (rfl : _ = 0) rfl ?_
    rintro _ _ ⟨rfl, rfl⟩
    refine g_is (ws' := [((Q 0), .inr (12, [vR (Q 1), vR (Q 2), vR (Q 3), vR (Q 4), vR (Q 5), vI pn, vR (Q 6), vL f0, vL f1, vL f2, vL f3, vL px, vL py, vL pb, vI rg, vI wr, vR (Q 7), vI rn, vR (Q 8), vI (wn + 1)])), ((Q 8), cI E 120 (ua ww wn 45))]) (st' := [vL (absI x)]) rfl rfl ?_
    refine g_lstore_n C (lv' := [(0, vR (Q 0)), (1, vL x), (3, vL (absI x))]) [1, 2, 0] (by decide) rfl rfl dX11_writeNumber_16 rfl ?_
    refine g_lconst1 C dX11_writeNumber_17 rfl ?_
    refine g_lstore C (lv' := [(0, vR (Q 0)), (1, vL x), (3, vL (absI x)), (5, vL 1)]) [1, 2, 3, 0] (by decide) rfl rfl dX11_writeNumber_18 rfl ?_
    refine g_lload_n C 2 rfl dX11_writeNumber_20 rfl ?_
    refine g_lload C 3 rfl dX11_writeNumber_21 rfl ?_
    refine g_ldiv C ⟨by omega, by omega⟩ ⟨by decide, by decide⟩ (by decide) rfl dX11_writeNumber_23 rfl ?_
    refine g_ldc2 C (x := 10) w_X11_writeNumber_k315 (by decide) dX11_writeNumber_24 rfl ?_
    refine g_lcmp_lt C ⟨by omega, by omega⟩ ⟨by decide, by decide⟩ dX11_writeNumber_27 rfl (tgt := 42) dX11_writeNumber_28 (by decide) rfl (fun c_110 => ?_) (fun c_110 => ?_)
    · exfalso; omega
    refine g_lload C 3 rfl dX11_writeNumber_31 rfl ?_
    refine g_ldc2 C (x := 10) w_X11_writeNumber_k315 (by decide) dX11_writeNumber_33 rfl ?_
    refine g_lmul C (r := 10) (by decide) dX11_writeNumber_36 rfl ?_
    refine g_lstore C (lv' := [(0, vR (Q 0)), (1, vL x), (3, vL (absI x)), (5, vL 10)]) [1, 2, 3, 0] (by decide) rfl rfl dX11_writeNumber_37 rfl ?_
    refine g_goto C (pc' := 20) dX11_writeNumber_39 (by decide) ?_
    refine g_lload_n C 2 rfl dX11_writeNumber_20 rfl ?_
    refine g_lload C 3 rfl dX11_writeNumber_21 rfl ?_
    refine g_ldiv C ⟨by omega, by omega⟩ ⟨by decide, by decide⟩ (by decide) rfl dX11_writeNumber_23 rfl ?_
    refine g_ldc2 C (x := 10) w_X11_writeNumber_k315 (by decide) dX11_writeNumber_24 rfl ?_
    refine g_lcmp_lt C ⟨by omega, by omega⟩ ⟨by decide, by decide⟩ dX11_writeNumber_27 rfl (tgt := 42) dX11_writeNumber_28 (by decide) rfl (fun c_111 => ?_) (fun c_111 => ?_)
    · exfalso; omega
    refine g_lload C 3 rfl dX11_writeNumber_31 rfl ?_
    refine g_ldc2 C (x := 10) w_X11_writeNumber_k315 (by decide) dX11_writeNumber_33 rfl ?_
    refine g_lmul C (r := 100) (by decide) dX11_writeNumber_36 rfl ?_
    refine g_lstore C (lv' := [(0, vR (Q 0)), (1, vL x), (3, vL (absI x)), (5, vL 100)]) [1, 2, 3, 0] (by decide) rfl rfl dX11_writeNumber_37 rfl ?_
    refine g_goto C (pc' := 20) dX11_writeNumber_39 (by decide) ?_
    refine g_lload_n C 2 rfl dX11_writeNumber_20 rfl ?_
    refine g_lload C 3 rfl dX11_writeNumber_21 rfl ?_
    refine g_ldiv C ⟨by omega, by omega⟩ ⟨by decide, by decide⟩ (by decide) rfl dX11_writeNumber_23 rfl ?_
    refine g_ldc2 C (x := 10) w_X11_writeNumber_k315 (by decide) dX11_writeNumber_24 rfl ?_
    refine g_lcmp_lt C ⟨by omega, by omega⟩ ⟨by decide, by decide⟩ dX11_writeNumber_27 rfl (tgt := 42) dX11_writeNumber_28 (by decide) rfl (fun c_112 => ?_) (fun c_112 => ?_)
    · exfalso; omega
    refine g_lload C 3 rfl dX11_writeNumber_31 rfl ?_
    refine g_ldc2 C (x := 10) w_X11_writeNumber_k315 (by decide) dX11_writeNumber_33 rfl ?_
    refine g_lmul C (r := 1000) (by decide) dX11_writeNumber_36 rfl ?_
    refine g_lstore C (lv' := [(0, vR (Q 0)), (1, vL x), (3, vL (absI x)), (5, vL 1000)]) [1, 2, 3, 0] (by decide) rfl rfl dX11_writeNumber_37 rfl ?_
    refine g_goto C (pc' := 20) dX11_writeNumber_39 (by decide) ?_
    refine g_lload_n C 2 rfl dX11_writeNumber_20 rfl ?_
    refine g_lload C 3 rfl dX11_writeNumber_21 rfl ?_
    refine g_ldiv C ⟨by omega, by omega⟩ ⟨by decide, by decide⟩ (by decide) rfl dX11_writeNumber_23 rfl ?_
    refine g_ldc2 C (x := 10) w_X11_writeNumber_k315 (by decide) dX11_writeNumber_24 rfl ?_
    refine g_lcmp_lt C ⟨by omega, by omega⟩ ⟨by decide, by decide⟩ dX11_writeNumber_27 rfl (tgt := 42) dX11_writeNumber_28 (by decide) rfl (fun c_113 => ?_) (fun c_113 => ?_)
    · refine g_lload C 3 rfl dX11_writeNumber_42 rfl ?_
      refine g_lconst0 C dX11_writeNumber_44 rfl ?_
      refine g_lcmp_le C ⟨by decide, by decide⟩ ⟨by decide, by decide⟩ dX11_writeNumber_45 rfl (tgt := 76) dX11_writeNumber_46 (by decide) rfl (fun c_114 => ?_) (fun c_114 => ?_)
      · exact absurd c_114 (by decide)
      refine g_aload_n C 0 rfl dX11_writeNumber_49 rfl ?_
      refine g_bipush C (by decide) dX11_writeNumber_50 rfl ?_
      refine g_lload_n C 2 rfl dX11_writeNumber_52 rfl ?_
      refine g_lload C 3 rfl dX11_writeNumber_53 rfl ?_
      refine g_ldiv C ⟨by omega, by omega⟩ ⟨by decide, by decide⟩ (by decide) rfl dX11_writeNumber_55 rfl ?_
      refine g_ldc2 C (x := 10) w_X11_writeNumber_k315 (by decide) dX11_writeNumber_56 rfl ?_
      refine g_lrem C ⟨by omega, by omega⟩ ⟨by decide, by decide⟩ (by decide) rfl dX11_writeNumber_59 rfl ?_
      refine g_l2i C rfl dX11_writeNumber_60 rfl ?_
      refine g_iadd C rfl dX11_writeNumber_61 rfl ?_
      refine g_callV C (b := (Q 0)) (mc := 0) (ms := 0) (rm := rm_K_m_write) (As := [vI (48 + (Int.tmod (Int.tdiv (absI x) 1000) 10))]) (wc := [((Q 0), .inr (12, [vR (Q 1), vR (Q 2), vR (Q 3), vR (Q 4), vR (Q 5), vI pn, vR (Q 6), vL f0, vL f1, vL f2, vL f3, vL px, vL py, vL pb, vI rg, vI wr, vR (Q 7), vI rn, vR (Q 8), vI (wn + 1)])), ((Q 8), cI E 120 (ua ww wn 45))]) (wr := []) (st := []) gX11_writeNumber_X11_write (q9 := 0) (ci := 12) rfl rfl rfl (K_m_write l E Q pn f0 f1 f2 f3 px py pb rg wr rn (wn + 1) (ua ww wn 45) ((L ++ [45])) (48 + (Int.tmod (Int.tdiv (absI x) 1000) 10)) f_108 wl_109 (by omega)) hyd_X11_write rfl [0, 1] [] rfl rfl rfl rfl rfl (by decide) ⟨rfl, rfl⟩ ⟨Nat.le_of_ble_eq_true rfl, Nat.le_of_ble_eq_true rfl, Nat.le_of_ble_eq_true rfl, Nat.le_of_ble_eq_true rfl⟩ (Nat.le_of_ble_eq_true rfl) dX11_writeNumber_62 (rfl : _ = 0) (rfl : _ = 0) rfl ?_
      rintro _ _ ⟨rfl, rfl, f_115⟩
      refine g_is (ws' := [((Q 0), .inr (12, [vR (Q 1), vR (Q 2), vR (Q 3), vR (Q 4), vR (Q 5), vI pn, vR (Q 6), vL f0, vL f1, vL f2, vL f3, vL px, vL py, vL pb, vI rg, vI wr, vR (Q 7), vI rn, vR (Q 8), vI ((wn + 1) + 1)])), ((Q 8), cI E 120 (ua (ua ww wn 45) (wn + 1) (48 + (Int.tmod (Int.tdiv (absI x) 1000) 10))))]) (st' := []) rfl rfl ?_
      have wl_116 : ((wn + 1) + 1) = (((L ++ [45]) ++ [(48 + (Int.tmod (Int.tdiv (absI x) 1000) 10))]).length : Int) := len_1 wl_109
      refine g_lload C 3 rfl dX11_writeNumber_65 rfl ?_
      refine g_ldc2 C (x := 10) w_X11_writeNumber_k315 (by decide) dX11_writeNumber_67 rfl ?_
      refine g_ldiv C ⟨by decide, by decide⟩ ⟨by decide, by decide⟩ (by decide) (r := 100) (by decide) dX11_writeNumber_70 rfl ?_
      refine g_lstore C (lv' := [(0, vR (Q 0)), (1, vL x), (3, vL (absI x)), (5, vL 100)]) [1, 2, 3, 0] (by decide) rfl rfl dX11_writeNumber_71 rfl ?_
      refine g_goto C (pc' := 42) dX11_writeNumber_73 (by decide) ?_
      refine g_lload C 3 rfl dX11_writeNumber_42 rfl ?_
      refine g_lconst0 C dX11_writeNumber_44 rfl ?_
      refine g_lcmp_le C ⟨by decide, by decide⟩ ⟨by decide, by decide⟩ dX11_writeNumber_45 rfl (tgt := 76) dX11_writeNumber_46 (by decide) rfl (fun c_117 => ?_) (fun c_117 => ?_)
      · exact absurd c_117 (by decide)
      refine g_aload_n C 0 rfl dX11_writeNumber_49 rfl ?_
      refine g_bipush C (by decide) dX11_writeNumber_50 rfl ?_
      refine g_lload_n C 2 rfl dX11_writeNumber_52 rfl ?_
      refine g_lload C 3 rfl dX11_writeNumber_53 rfl ?_
      refine g_ldiv C ⟨by omega, by omega⟩ ⟨by decide, by decide⟩ (by decide) rfl dX11_writeNumber_55 rfl ?_
      refine g_ldc2 C (x := 10) w_X11_writeNumber_k315 (by decide) dX11_writeNumber_56 rfl ?_
      refine g_lrem C ⟨by omega, by omega⟩ ⟨by decide, by decide⟩ (by decide) rfl dX11_writeNumber_59 rfl ?_
      refine g_l2i C rfl dX11_writeNumber_60 rfl ?_
      refine g_iadd C rfl dX11_writeNumber_61 rfl ?_
      refine g_callV C (b := (Q 0)) (mc := 0) (ms := 0) (rm := rm_K_m_write) (As := [vI (48 + (Int.tmod (Int.tdiv (absI x) 100) 10))]) (wc := [((Q 0), .inr (12, [vR (Q 1), vR (Q 2), vR (Q 3), vR (Q 4), vR (Q 5), vI pn, vR (Q 6), vL f0, vL f1, vL f2, vL f3, vL px, vL py, vL pb, vI rg, vI wr, vR (Q 7), vI rn, vR (Q 8), vI ((wn + 1) + 1)])), ((Q 8), cI E 120 (ua (ua ww wn 45) (wn + 1) (48 + (Int.tmod (Int.tdiv (absI x) 1000) 10))))]) (wr := []) (st := []) gX11_writeNumber_X11_write (q9 := 0) (ci := 12) rfl rfl rfl (K_m_write l E Q pn f0 f1 f2 f3 px py pb rg wr rn ((wn + 1) + 1) (ua (ua ww wn 45) (wn + 1) (48 + (Int.tmod (Int.tdiv (absI x) 1000) 10))) (((L ++ [45]) ++ [(48 + (Int.tmod (Int.tdiv (absI x) 1000) 10))])) (48 + (Int.tmod (Int.tdiv (absI x) 100) 10)) f_115 wl_116 (by omega)) hyd_X11_write rfl [0, 1] [] rfl rfl rfl rfl rfl (by decide) ⟨rfl, rfl⟩ ⟨Nat.le_of_ble_eq_true rfl, Nat.le_of_ble_eq_true rfl, Nat.le_of_ble_eq_true rfl, Nat.le_of_ble_eq_true rfl⟩ (Nat.le_of_ble_eq_true rfl) dX11_writeNumber_62 (rfl : _ = 0) (rfl : _ = 0) rfl ?_
      rintro _ _ ⟨rfl, rfl, f_118⟩
      refine g_is (ws' := [((Q 0), .inr (12, [vR (Q 1), vR (Q 2), vR (Q 3), vR (Q 4), vR (Q 5), vI pn, vR (Q 6), vL f0, vL f1, vL f2, vL f3, vL px, vL py, vL pb, vI rg, vI wr, vR (Q 7), vI rn, vR (Q 8), vI (((wn + 1) + 1) + 1)])), ((Q 8), cI E 120 (ua (ua (ua ww wn 45) (wn + 1) (48 + (Int.tmod (Int.tdiv (absI x) 1000) 10))) ((wn + 1) + 1) (48 + (Int.tmod (Int.tdiv (absI x) 100) 10))))]) (st' := []) rfl rfl ?_
      have wl_119 : (((wn + 1) + 1) + 1) = ((((L ++ [45]) ++ [(48 + (Int.tmod (Int.tdiv (absI x) 1000) 10))]) ++ [(48 + (Int.tmod (Int.tdiv (absI x) 100) 10))]).length : Int) := len_1 wl_116
      refine g_lload C 3 rfl dX11_writeNumber_65 rfl ?_
      refine g_ldc2 C (x := 10) w_X11_writeNumber_k315 (by decide) dX11_writeNumber_67 rfl ?_
      refine g_ldiv C ⟨by decide, by decide⟩ ⟨by decide, by decide⟩ (by decide) (r := 10) (by decide) dX11_writeNumber_70 rfl ?_
      refine g_lstore C (lv' := [(0, vR (Q 0)), (1, vL x), (3, vL (absI x)), (5, vL 10)]) [1, 2, 3, 0] (by decide) rfl rfl dX11_writeNumber_71 rfl ?_
      refine g_goto C (pc' := 42) dX11_writeNumber_73 (by decide) ?_
      refine g_lload C 3 rfl dX11_writeNumber_42 rfl ?_
      refine g_lconst0 C dX11_writeNumber_44 rfl ?_
      refine g_lcmp_le C ⟨by decide, by decide⟩ ⟨by decide, by decide⟩ dX11_writeNumber_45 rfl (tgt := 76) dX11_writeNumber_46 (by decide) rfl (fun c_120 => ?_) (fun c_120 => ?_)
      · exact absurd c_120 (by decide)
      refine g_aload_n C 0 rfl dX11_writeNumber_49 rfl ?_
      refine g_bipush C (by decide) dX11_writeNumber_50 rfl ?_
      refine g_lload_n C 2 rfl dX11_writeNumber_52 rfl ?_
      refine g_lload C 3 rfl dX11_writeNumber_53 rfl ?_
      refine g_ldiv C ⟨by omega, by omega⟩ ⟨by decide, by decide⟩ (by decide) rfl dX11_writeNumber_55 rfl ?_
      refine g_ldc2 C (x := 10) w_X11_writeNumber_k315 (by decide) dX11_writeNumber_56 rfl ?_
      refine g_lrem C ⟨by omega, by omega⟩ ⟨by decide, by decide⟩ (by decide) rfl dX11_writeNumber_59 rfl ?_
      refine g_l2i C rfl dX11_writeNumber_60 rfl ?_
      refine g_iadd C rfl dX11_writeNumber_61 rfl ?_
      refine g_callV C (b := (Q 0)) (mc := 0) (ms := 0) (rm := rm_K_m_write) (As := [vI (48 + (Int.tmod (Int.tdiv (absI x) 10) 10))]) (wc := [((Q 0), .inr (12, [vR (Q 1), vR (Q 2), vR (Q 3), vR (Q 4), vR (Q 5), vI pn, vR (Q 6), vL f0, vL f1, vL f2, vL f3, vL px, vL py, vL pb, vI rg, vI wr, vR (Q 7), vI rn, vR (Q 8), vI (((wn + 1) + 1) + 1)])), ((Q 8), cI E 120 (ua (ua (ua ww wn 45) (wn + 1) (48 + (Int.tmod (Int.tdiv (absI x) 1000) 10))) ((wn + 1) + 1) (48 + (Int.tmod (Int.tdiv (absI x) 100) 10))))]) (wr := []) (st := []) gX11_writeNumber_X11_write (q9 := 0) (ci := 12) rfl rfl rfl (K_m_write l E Q pn f0 f1 f2 f3 px py pb rg wr rn (((wn + 1) + 1) + 1) (ua (ua (ua ww wn 45) (wn + 1) (48 + (Int.tmod (Int.tdiv (absI x) 1000) 10))) ((wn + 1) + 1) (48 + (Int.tmod (Int.tdiv (absI x) 100) 10))) ((((L ++ [45]) ++ [(48 + (Int.tmod (Int.tdiv (absI x) 1000) 10))]) ++ [(48 + (Int.tmod (Int.tdiv (absI x) 100) 10))])) (48 + (Int.tmod (Int.tdiv (absI x) 10) 10)) f_118 wl_119 (by omega)) hyd_X11_write rfl [0, 1] [] rfl rfl rfl rfl rfl (by decide) ⟨rfl, rfl⟩ ⟨Nat.le_of_ble_eq_true rfl, Nat.le_of_ble_eq_true rfl, Nat.le_of_ble_eq_true rfl, Nat.le_of_ble_eq_true rfl⟩ (Nat.le_of_ble_eq_true rfl) dX11_writeNumber_62 (rfl : _ = 0) (rfl : _ = 0) rfl ?_
      rintro _ _ ⟨rfl, rfl, f_121⟩
      refine g_is (ws' := [((Q 0), .inr (12, [vR (Q 1), vR (Q 2), vR (Q 3), vR (Q 4), vR (Q 5), vI pn, vR (Q 6), vL f0, vL f1, vL f2, vL f3, vL px, vL py, vL pb, vI rg, vI wr, vR (Q 7), vI rn, vR (Q 8), vI ((((wn + 1) + 1) + 1) + 1)])), ((Q 8), cI E 120 (ua (ua (ua (ua ww wn 45) (wn + 1) (48 + (Int.tmod (Int.tdiv (absI x) 1000) 10))) ((wn + 1) + 1) (48 + (Int.tmod (Int.tdiv (absI x) 100) 10))) (((wn + 1) + 1) + 1) (48 + (Int.tmod (Int.tdiv (absI x) 10) 10))))]) (st' := []) rfl rfl ?_
      have wl_122 : ((((wn + 1) + 1) + 1) + 1) = (((((L ++ [45]) ++ [(48 + (Int.tmod (Int.tdiv (absI x) 1000) 10))]) ++ [(48 + (Int.tmod (Int.tdiv (absI x) 100) 10))]) ++ [(48 + (Int.tmod (Int.tdiv (absI x) 10) 10))]).length : Int) := len_1 wl_119
      refine g_lload C 3 rfl dX11_writeNumber_65 rfl ?_
      refine g_ldc2 C (x := 10) w_X11_writeNumber_k315 (by decide) dX11_writeNumber_67 rfl ?_
      refine g_ldiv C ⟨by decide, by decide⟩ ⟨by decide, by decide⟩ (by decide) (r := 1) (by decide) dX11_writeNumber_70 rfl ?_
      refine g_lstore C (lv' := [(0, vR (Q 0)), (1, vL x), (3, vL (absI x)), (5, vL 1)]) [1, 2, 3, 0] (by decide) rfl rfl dX11_writeNumber_71 rfl ?_
      refine g_goto C (pc' := 42) dX11_writeNumber_73 (by decide) ?_
      refine g_lload C 3 rfl dX11_writeNumber_42 rfl ?_
      refine g_lconst0 C dX11_writeNumber_44 rfl ?_
      refine g_lcmp_le C ⟨by decide, by decide⟩ ⟨by decide, by decide⟩ dX11_writeNumber_45 rfl (tgt := 76) dX11_writeNumber_46 (by decide) rfl (fun c_123 => ?_) (fun c_123 => ?_)
      · exact absurd c_123 (by decide)
      refine g_aload_n C 0 rfl dX11_writeNumber_49 rfl ?_
      refine g_bipush C (by decide) dX11_writeNumber_50 rfl ?_
      refine g_lload_n C 2 rfl dX11_writeNumber_52 rfl ?_
      refine g_lload C 3 rfl dX11_writeNumber_53 rfl ?_
      refine g_ldiv C ⟨by omega, by omega⟩ ⟨by decide, by decide⟩ (by decide) rfl dX11_writeNumber_55 rfl ?_
      refine g_ldc2 C (x := 10) w_X11_writeNumber_k315 (by decide) dX11_writeNumber_56 rfl ?_
      refine g_lrem C ⟨by omega, by omega⟩ ⟨by decide, by decide⟩ (by decide) rfl dX11_writeNumber_59 rfl ?_
      refine g_l2i C rfl dX11_writeNumber_60 rfl ?_
      refine g_iadd C rfl dX11_writeNumber_61 rfl ?_
      refine g_callV C (b := (Q 0)) (mc := 0) (ms := 0) (rm := rm_K_m_write) (As := [vI (48 + (Int.tmod (Int.tdiv (absI x) 1) 10))]) (wc := [((Q 0), .inr (12, [vR (Q 1), vR (Q 2), vR (Q 3), vR (Q 4), vR (Q 5), vI pn, vR (Q 6), vL f0, vL f1, vL f2, vL f3, vL px, vL py, vL pb, vI rg, vI wr, vR (Q 7), vI rn, vR (Q 8), vI ((((wn + 1) + 1) + 1) + 1)])), ((Q 8), cI E 120 (ua (ua (ua (ua ww wn 45) (wn + 1) (48 + (Int.tmod (Int.tdiv (absI x) 1000) 10))) ((wn + 1) + 1) (48 + (Int.tmod (Int.tdiv (absI x) 100) 10))) (((wn + 1) + 1) + 1) (48 + (Int.tmod (Int.tdiv (absI x) 10) 10))))]) (wr := []) (st := []) gX11_writeNumber_X11_write (q9 := 0) (ci := 12) rfl rfl rfl (K_m_write l E Q pn f0 f1 f2 f3 px py pb rg wr rn ((((wn + 1) + 1) + 1) + 1) (ua (ua (ua (ua ww wn 45) (wn + 1) (48 + (Int.tmod (Int.tdiv (absI x) 1000) 10))) ((wn + 1) + 1) (48 + (Int.tmod (Int.tdiv (absI x) 100) 10))) (((wn + 1) + 1) + 1) (48 + (Int.tmod (Int.tdiv (absI x) 10) 10))) (((((L ++ [45]) ++ [(48 + (Int.tmod (Int.tdiv (absI x) 1000) 10))]) ++ [(48 + (Int.tmod (Int.tdiv (absI x) 100) 10))]) ++ [(48 + (Int.tmod (Int.tdiv (absI x) 10) 10))])) (48 + (Int.tmod (Int.tdiv (absI x) 1) 10)) f_121 wl_122 (by omega)) hyd_X11_write rfl [0, 1] [] rfl rfl rfl rfl rfl (by decide) ⟨rfl, rfl⟩ ⟨Nat.le_of_ble_eq_true rfl, Nat.le_of_ble_eq_true rfl, Nat.le_of_ble_eq_true rfl, Nat.le_of_ble_eq_true rfl⟩ (Nat.le_of_ble_eq_true rfl) dX11_writeNumber_62 (rfl : _ = 0) (rfl : _ = 0) rfl ?_
      rintro _ _ ⟨rfl, rfl, f_124⟩
      refine g_is (ws' := [((Q 0), .inr (12, [vR (Q 1), vR (Q 2), vR (Q 3), vR (Q 4), vR (Q 5), vI pn, vR (Q 6), vL f0, vL f1, vL f2, vL f3, vL px, vL py, vL pb, vI rg, vI wr, vR (Q 7), vI rn, vR (Q 8), vI (((((wn + 1) + 1) + 1) + 1) + 1)])), ((Q 8), cI E 120 (ua (ua (ua (ua (ua ww wn 45) (wn + 1) (48 + (Int.tmod (Int.tdiv (absI x) 1000) 10))) ((wn + 1) + 1) (48 + (Int.tmod (Int.tdiv (absI x) 100) 10))) (((wn + 1) + 1) + 1) (48 + (Int.tmod (Int.tdiv (absI x) 10) 10))) ((((wn + 1) + 1) + 1) + 1) (48 + (Int.tmod (Int.tdiv (absI x) 1) 10))))]) (st' := []) rfl rfl ?_
      have wl_125 : (((((wn + 1) + 1) + 1) + 1) + 1) = ((((((L ++ [45]) ++ [(48 + (Int.tmod (Int.tdiv (absI x) 1000) 10))]) ++ [(48 + (Int.tmod (Int.tdiv (absI x) 100) 10))]) ++ [(48 + (Int.tmod (Int.tdiv (absI x) 10) 10))]) ++ [(48 + (Int.tmod (Int.tdiv (absI x) 1) 10))]).length : Int) := len_1 wl_122
      refine g_lload C 3 rfl dX11_writeNumber_65 rfl ?_
      refine g_ldc2 C (x := 10) w_X11_writeNumber_k315 (by decide) dX11_writeNumber_67 rfl ?_
      refine g_ldiv C ⟨by decide, by decide⟩ ⟨by decide, by decide⟩ (by decide) (r := 0) (by decide) dX11_writeNumber_70 rfl ?_
      refine g_lstore C (lv' := [(0, vR (Q 0)), (1, vL x), (3, vL (absI x)), (5, vL 0)]) [1, 2, 3, 0] (by decide) rfl rfl dX11_writeNumber_71 rfl ?_
      refine g_goto C (pc' := 42) dX11_writeNumber_73 (by decide) ?_
      refine g_lload C 3 rfl dX11_writeNumber_42 rfl ?_
      refine g_lconst0 C dX11_writeNumber_44 rfl ?_
      refine g_lcmp_le C ⟨by decide, by decide⟩ ⟨by decide, by decide⟩ dX11_writeNumber_45 rfl (tgt := 76) dX11_writeNumber_46 (by decide) rfl (fun c_126 => ?_) (fun c_126 => ?_)
      · refine g_ws (ws' := [((Q 0), .inr (12, [vR (Q 1), vR (Q 2), vR (Q 3), vR (Q 4), vR (Q 5), vI pn, vR (Q 6), vL f0, vL f1, vL f2, vL f3, vL px, vL py, vL pb, vI rg, vI wr, vR (Q 7), vI rn, vR (Q 8), vI (wn + (dlen x))])), ((Q 8), cI E 120 (ua (ua (ua (ua (ua ww wn 45) (wn + 1) (48 + (Int.tmod (Int.tdiv (absI x) 1000) 10))) ((wn + 1) + 1) (48 + (Int.tmod (Int.tdiv (absI x) 100) 10))) (((wn + 1) + 1) + 1) (48 + (Int.tmod (Int.tdiv (absI x) 10) 10))) ((((wn + 1) + 1) + 1) + 1) (48 + (Int.tmod (Int.tdiv (absI x) 1) 10))))]) (congrArg (fun z_ : Int => ([((Q 0), .inr (12, [vR (Q 1), vR (Q 2), vR (Q 3), vR (Q 4), vR (Q 5), vI pn, vR (Q 6), vL f0, vL f1, vL f2, vL f3, vL px, vL py, vL pb, vI rg, vI wr, vR (Q 7), vI rn, vR (Q 8), vI z_])), ((Q 8), cI E 120 (ua (ua (ua (ua (ua ww wn 45) (wn + 1) (48 + (Int.tmod (Int.tdiv (absI x) 1000) 10))) ((wn + 1) + 1) (48 + (Int.tmod (Int.tdiv (absI x) 100) 10))) (((wn + 1) + 1) + 1) (48 + (Int.tmod (Int.tdiv (absI x) 10) 10))) ((((wn + 1) + 1) + 1) + 1) (48 + (Int.tmod (Int.tdiv (absI x) 1) 10))))] : va_W)) (show (wn + (dlen x)) = (((((wn + 1) + 1) + 1) + 1) + 1) by omega)) ?_
        exact g_vret C hr (Nat.le_of_ble_eq_true rfl) (Nat.le_of_ble_eq_true rfl) dX11_writeNumber_76 ⟨(ua (ua (ua (ua (ua ww wn 45) (wn + 1) (48 + (Int.tmod (Int.tdiv (absI x) 1000) 10))) ((wn + 1) + 1) (48 + (Int.tmod (Int.tdiv (absI x) 100) 10))) (((wn + 1) + 1) + 1) (48 + (Int.tmod (Int.tdiv (absI x) 10) 10))) ((((wn + 1) + 1) + 1) + 1) (48 + (Int.tmod (Int.tdiv (absI x) 1) 10))), rfl, rfl, (by rw [dgs_n (by omega), dgs_p4 (v := (-x)) (by omega)]; have g9 := f_124; (try simp only [List.append_assoc, List.cons_append, List.nil_append] at g9); refine TX_eq g9 ?_; simp only [List.append_cancel_left_eq, List.cons.injEq, and_true, true_and]; (repeat' apply And.intro) <;> omega)⟩
      exact absurd c_126 (by decide)
    exfalso; omega
  · have ab : absI x = -x := by unfold absI; split <;> omega
    have t0 : Int.tdiv (absI x) 1 = absI x / 1 := Int.tdiv_eq_ediv_of_nonneg (by omega)
    have u0 : Int.tmod (Int.tdiv (absI x) 1) 10 = absI x / 1 % 10 := by rw [t0]; exact Int.tmod_eq_emod_of_nonneg (by omega)
    have t1 : Int.tdiv (absI x) 10 = absI x / 10 := Int.tdiv_eq_ediv_of_nonneg (by omega)
    have u1 : Int.tmod (Int.tdiv (absI x) 10) 10 = absI x / 10 % 10 := by rw [t1]; exact Int.tmod_eq_emod_of_nonneg (by omega)
    have t2 : Int.tdiv (absI x) 100 = absI x / 100 := Int.tdiv_eq_ediv_of_nonneg (by omega)
    have u2 : Int.tmod (Int.tdiv (absI x) 100) 10 = absI x / 100 % 10 := by rw [t2]; exact Int.tmod_eq_emod_of_nonneg (by omega)
    have t3 : Int.tdiv (absI x) 1000 = absI x / 1000 := Int.tdiv_eq_ediv_of_nonneg (by omega)
    have u3 : Int.tmod (Int.tdiv (absI x) 1000) 10 = absI x / 1000 % 10 := by rw [t3]; exact Int.tmod_eq_emod_of_nonneg (by omega)
    have t4 : Int.tdiv (absI x) 10000 = absI x / 10000 := Int.tdiv_eq_ediv_of_nonneg (by omega)
    have u4 : Int.tmod (Int.tdiv (absI x) 10000) 10 = absI x / 10000 % 10 := by rw [t4]; exact Int.tmod_eq_emod_of_nonneg (by omega)
    refine g_lload_n C 1 rfl dX11_writeNumber_0 rfl ?_
    refine g_lconst0 C dX11_writeNumber_1 rfl ?_
    refine g_lcmp_ge C ⟨by omega, by omega⟩ ⟨by decide, by decide⟩ dX11_writeNumber_2 rfl (tgt := 12) dX11_writeNumber_3 (by decide) rfl (fun c_127 => ?_) (fun c_127 => ?_)
    · exfalso; omega
    refine g_aload_n C 0 rfl dX11_writeNumber_6 rfl ?_
    refine g_bipush C (by decide) dX11_writeNumber_7 rfl ?_
    refine g_callV C (b := (Q 0)) (mc := 0) (ms := 0) (rm := rm_K_m_write) (As := [vI 45]) (wc := [((Q 0), .inr (12, [vR (Q 1), vR (Q 2), vR (Q 3), vR (Q 4), vR (Q 5), vI pn, vR (Q 6), vL f0, vL f1, vL f2, vL f3, vL px, vL py, vL pb, vI rg, vI wr, vR (Q 7), vI rn, vR (Q 8), vI wn])), ((Q 8), cI E 120 ww)]) (wr := []) (st := []) gX11_writeNumber_X11_write (q9 := 0) (ci := 12) rfl rfl rfl (K_m_write l E Q pn f0 f1 f2 f3 px py pb rg wr rn wn ww L 45 hT hl (by omega)) hyd_X11_write rfl [0, 1] [] rfl rfl rfl rfl rfl (by decide) ⟨rfl, rfl⟩ ⟨Nat.le_of_ble_eq_true rfl, Nat.le_of_ble_eq_true rfl, Nat.le_of_ble_eq_true rfl, Nat.le_of_ble_eq_true rfl⟩ (Nat.le_of_ble_eq_true rfl) dX11_writeNumber_9 (rfl : _ = 0) (rfl : _ = 0) rfl ?_
    rintro _ _ ⟨rfl, rfl, f_128⟩
    refine g_is (ws' := [((Q 0), .inr (12, [vR (Q 1), vR (Q 2), vR (Q 3), vR (Q 4), vR (Q 5), vI pn, vR (Q 6), vL f0, vL f1, vL f2, vL f3, vL px, vL py, vL pb, vI rg, vI wr, vR (Q 7), vI rn, vR (Q 8), vI (wn + 1)])), ((Q 8), cI E 120 (ua ww wn 45))]) (st' := []) rfl rfl ?_
    have wl_129 : (wn + 1) = ((L ++ [45]).length : Int) := len_1 hl
    refine g_lload_n C 1 rfl dX11_writeNumber_12 rfl ?_
    refine g_callS C (mc := 0) (ms := 0) (rm := rm_K_m_size) (As := [vL x]) (wc := []) (wr := [((Q 0), .inr (12, [vR (Q 1), vR (Q 2), vR (Q 3), vR (Q 4), vR (Q 5), vI pn, vR (Q 6), vL f0, vL f1, vL f2, vL f3, vL px, vL py, vL pb, vI rg, vI wr, vR (Q 7), vI rn, vR (Q 8), vI (wn + 1)])), ((Q 8), cI E 120 (ua ww wn 45))]) (st := []) gX11_writeNumber_X11_size rfl (K_m_size l E x ⟨by omega, by omega⟩) hyd_X11_size rfl [] [0, 1] rfl rfl rfl rfl rfl (by decide) ⟨rfl, rfl⟩ ⟨Nat.le_of_ble_eq_true rfl, Nat.le_of_ble_eq_true rfl, Nat.le_of_ble_eq_true rfl, Nat.le_of_ble_eq_true rfl⟩ (Nat.le_of_ble_eq_true rfl) dX11_writeNumber_13 (rfl : _ = 0) (rfl : _ = 0) rfl ?_
    rintro _ _ ⟨rfl, rfl⟩
    refine g_is (ws' := [((Q 0), .inr (12, [vR (Q 1), vR (Q 2), vR (Q 3), vR (Q 4), vR (Q 5), vI pn, vR (Q 6), vL f0, vL f1, vL f2, vL f3, vL px, vL py, vL pb, vI rg, vI wr, vR (Q 7), vI rn, vR (Q 8), vI (wn + 1)])), ((Q 8), cI E 120 (ua ww wn 45))]) (st' := [vL (absI x)]) rfl rfl ?_
    refine g_lstore_n C (lv' := [(0, vR (Q 0)), (1, vL x), (3, vL (absI x))]) [1, 2, 0] (by decide) rfl rfl dX11_writeNumber_16 rfl ?_
    refine g_lconst1 C dX11_writeNumber_17 rfl ?_
    refine g_lstore C (lv' := [(0, vR (Q 0)), (1, vL x), (3, vL (absI x)), (5, vL 1)]) [1, 2, 3, 0] (by decide) rfl rfl dX11_writeNumber_18 rfl ?_
    refine g_lload_n C 2 rfl dX11_writeNumber_20 rfl ?_
    refine g_lload C 3 rfl dX11_writeNumber_21 rfl ?_
    refine g_ldiv C ⟨by omega, by omega⟩ ⟨by decide, by decide⟩ (by decide) rfl dX11_writeNumber_23 rfl ?_
    refine g_ldc2 C (x := 10) w_X11_writeNumber_k315 (by decide) dX11_writeNumber_24 rfl ?_
    refine g_lcmp_lt C ⟨by omega, by omega⟩ ⟨by decide, by decide⟩ dX11_writeNumber_27 rfl (tgt := 42) dX11_writeNumber_28 (by decide) rfl (fun c_130 => ?_) (fun c_130 => ?_)
    · exfalso; omega
    refine g_lload C 3 rfl dX11_writeNumber_31 rfl ?_
    refine g_ldc2 C (x := 10) w_X11_writeNumber_k315 (by decide) dX11_writeNumber_33 rfl ?_
    refine g_lmul C (r := 10) (by decide) dX11_writeNumber_36 rfl ?_
    refine g_lstore C (lv' := [(0, vR (Q 0)), (1, vL x), (3, vL (absI x)), (5, vL 10)]) [1, 2, 3, 0] (by decide) rfl rfl dX11_writeNumber_37 rfl ?_
    refine g_goto C (pc' := 20) dX11_writeNumber_39 (by decide) ?_
    refine g_lload_n C 2 rfl dX11_writeNumber_20 rfl ?_
    refine g_lload C 3 rfl dX11_writeNumber_21 rfl ?_
    refine g_ldiv C ⟨by omega, by omega⟩ ⟨by decide, by decide⟩ (by decide) rfl dX11_writeNumber_23 rfl ?_
    refine g_ldc2 C (x := 10) w_X11_writeNumber_k315 (by decide) dX11_writeNumber_24 rfl ?_
    refine g_lcmp_lt C ⟨by omega, by omega⟩ ⟨by decide, by decide⟩ dX11_writeNumber_27 rfl (tgt := 42) dX11_writeNumber_28 (by decide) rfl (fun c_131 => ?_) (fun c_131 => ?_)
    · exfalso; omega
    refine g_lload C 3 rfl dX11_writeNumber_31 rfl ?_
    refine g_ldc2 C (x := 10) w_X11_writeNumber_k315 (by decide) dX11_writeNumber_33 rfl ?_
    refine g_lmul C (r := 100) (by decide) dX11_writeNumber_36 rfl ?_
    refine g_lstore C (lv' := [(0, vR (Q 0)), (1, vL x), (3, vL (absI x)), (5, vL 100)]) [1, 2, 3, 0] (by decide) rfl rfl dX11_writeNumber_37 rfl ?_
    refine g_goto C (pc' := 20) dX11_writeNumber_39 (by decide) ?_
    refine g_lload_n C 2 rfl dX11_writeNumber_20 rfl ?_
    refine g_lload C 3 rfl dX11_writeNumber_21 rfl ?_
    refine g_ldiv C ⟨by omega, by omega⟩ ⟨by decide, by decide⟩ (by decide) rfl dX11_writeNumber_23 rfl ?_
    refine g_ldc2 C (x := 10) w_X11_writeNumber_k315 (by decide) dX11_writeNumber_24 rfl ?_
    refine g_lcmp_lt C ⟨by omega, by omega⟩ ⟨by decide, by decide⟩ dX11_writeNumber_27 rfl (tgt := 42) dX11_writeNumber_28 (by decide) rfl (fun c_132 => ?_) (fun c_132 => ?_)
    · exfalso; omega
    refine g_lload C 3 rfl dX11_writeNumber_31 rfl ?_
    refine g_ldc2 C (x := 10) w_X11_writeNumber_k315 (by decide) dX11_writeNumber_33 rfl ?_
    refine g_lmul C (r := 1000) (by decide) dX11_writeNumber_36 rfl ?_
    refine g_lstore C (lv' := [(0, vR (Q 0)), (1, vL x), (3, vL (absI x)), (5, vL 1000)]) [1, 2, 3, 0] (by decide) rfl rfl dX11_writeNumber_37 rfl ?_
    refine g_goto C (pc' := 20) dX11_writeNumber_39 (by decide) ?_
    refine g_lload_n C 2 rfl dX11_writeNumber_20 rfl ?_
    refine g_lload C 3 rfl dX11_writeNumber_21 rfl ?_
    refine g_ldiv C ⟨by omega, by omega⟩ ⟨by decide, by decide⟩ (by decide) rfl dX11_writeNumber_23 rfl ?_
    refine g_ldc2 C (x := 10) w_X11_writeNumber_k315 (by decide) dX11_writeNumber_24 rfl ?_
    refine g_lcmp_lt C ⟨by omega, by omega⟩ ⟨by decide, by decide⟩ dX11_writeNumber_27 rfl (tgt := 42) dX11_writeNumber_28 (by decide) rfl (fun c_133 => ?_) (fun c_133 => ?_)
    · exfalso; omega
    refine g_lload C 3 rfl dX11_writeNumber_31 rfl ?_
    refine g_ldc2 C (x := 10) w_X11_writeNumber_k315 (by decide) dX11_writeNumber_33 rfl ?_
    refine g_lmul C (r := 10000) (by decide) dX11_writeNumber_36 rfl ?_
    refine g_lstore C (lv' := [(0, vR (Q 0)), (1, vL x), (3, vL (absI x)), (5, vL 10000)]) [1, 2, 3, 0] (by decide) rfl rfl dX11_writeNumber_37 rfl ?_
    refine g_goto C (pc' := 20) dX11_writeNumber_39 (by decide) ?_
    refine g_lload_n C 2 rfl dX11_writeNumber_20 rfl ?_
    refine g_lload C 3 rfl dX11_writeNumber_21 rfl ?_
    refine g_ldiv C ⟨by omega, by omega⟩ ⟨by decide, by decide⟩ (by decide) rfl dX11_writeNumber_23 rfl ?_
    refine g_ldc2 C (x := 10) w_X11_writeNumber_k315 (by decide) dX11_writeNumber_24 rfl ?_
    refine g_lcmp_lt C ⟨by omega, by omega⟩ ⟨by decide, by decide⟩ dX11_writeNumber_27 rfl (tgt := 42) dX11_writeNumber_28 (by decide) rfl (fun c_134 => ?_) (fun c_134 => ?_)
    · refine g_lload C 3 rfl dX11_writeNumber_42 rfl ?_
      refine g_lconst0 C dX11_writeNumber_44 rfl ?_
      refine g_lcmp_le C ⟨by decide, by decide⟩ ⟨by decide, by decide⟩ dX11_writeNumber_45 rfl (tgt := 76) dX11_writeNumber_46 (by decide) rfl (fun c_135 => ?_) (fun c_135 => ?_)
      · exact absurd c_135 (by decide)
      refine g_aload_n C 0 rfl dX11_writeNumber_49 rfl ?_
      refine g_bipush C (by decide) dX11_writeNumber_50 rfl ?_
      refine g_lload_n C 2 rfl dX11_writeNumber_52 rfl ?_
      refine g_lload C 3 rfl dX11_writeNumber_53 rfl ?_
      refine g_ldiv C ⟨by omega, by omega⟩ ⟨by decide, by decide⟩ (by decide) rfl dX11_writeNumber_55 rfl ?_
      refine g_ldc2 C (x := 10) w_X11_writeNumber_k315 (by decide) dX11_writeNumber_56 rfl ?_
      refine g_lrem C ⟨by omega, by omega⟩ ⟨by decide, by decide⟩ (by decide) rfl dX11_writeNumber_59 rfl ?_
      refine g_l2i C rfl dX11_writeNumber_60 rfl ?_
      refine g_iadd C rfl dX11_writeNumber_61 rfl ?_
      refine g_callV C (b := (Q 0)) (mc := 0) (ms := 0) (rm := rm_K_m_write) (As := [vI (48 + (Int.tmod (Int.tdiv (absI x) 10000) 10))]) (wc := [((Q 0), .inr (12, [vR (Q 1), vR (Q 2), vR (Q 3), vR (Q 4), vR (Q 5), vI pn, vR (Q 6), vL f0, vL f1, vL f2, vL f3, vL px, vL py, vL pb, vI rg, vI wr, vR (Q 7), vI rn, vR (Q 8), vI (wn + 1)])), ((Q 8), cI E 120 (ua ww wn 45))]) (wr := []) (st := []) gX11_writeNumber_X11_write (q9 := 0) (ci := 12) rfl rfl rfl (K_m_write l E Q pn f0 f1 f2 f3 px py pb rg wr rn (wn + 1) (ua ww wn 45) ((L ++ [45])) (48 + (Int.tmod (Int.tdiv (absI x) 10000) 10)) f_128 wl_129 (by omega)) hyd_X11_write rfl [0, 1] [] rfl rfl rfl rfl rfl (by decide) ⟨rfl, rfl⟩ ⟨Nat.le_of_ble_eq_true rfl, Nat.le_of_ble_eq_true rfl, Nat.le_of_ble_eq_true rfl, Nat.le_of_ble_eq_true rfl⟩ (Nat.le_of_ble_eq_true rfl) dX11_writeNumber_62 (rfl : _ = 0) (rfl : _ = 0) rfl ?_
      rintro _ _ ⟨rfl, rfl, f_136⟩
      refine g_is (ws' := [((Q 0), .inr (12, [vR (Q 1), vR (Q 2), vR (Q 3), vR (Q 4), vR (Q 5), vI pn, vR (Q 6), vL f0, vL f1, vL f2, vL f3, vL px, vL py, vL pb, vI rg, vI wr, vR (Q 7), vI rn, vR (Q 8), vI ((wn + 1) + 1)])), ((Q 8), cI E 120 (ua (ua ww wn 45) (wn + 1) (48 + (Int.tmod (Int.tdiv (absI x) 10000) 10))))]) (st' := []) rfl rfl ?_
      have wl_137 : ((wn + 1) + 1) = (((L ++ [45]) ++ [(48 + (Int.tmod (Int.tdiv (absI x) 10000) 10))]).length : Int) := len_1 wl_129
      refine g_lload C 3 rfl dX11_writeNumber_65 rfl ?_
      refine g_ldc2 C (x := 10) w_X11_writeNumber_k315 (by decide) dX11_writeNumber_67 rfl ?_
      refine g_ldiv C ⟨by decide, by decide⟩ ⟨by decide, by decide⟩ (by decide) (r := 1000) (by decide) dX11_writeNumber_70 rfl ?_
      refine g_lstore C (lv' := [(0, vR (Q 0)), (1, vL x), (3, vL (absI x)), (5, vL 1000)]) [1, 2, 3, 0] (by decide) rfl rfl dX11_writeNumber_71 rfl ?_
      refine g_goto C (pc' := 42) dX11_writeNumber_73 (by decide) ?_
      refine g_lload C 3 rfl dX11_writeNumber_42 rfl ?_
      refine g_lconst0 C dX11_writeNumber_44 rfl ?_
      refine g_lcmp_le C ⟨by decide, by decide⟩ ⟨by decide, by decide⟩ dX11_writeNumber_45 rfl (tgt := 76) dX11_writeNumber_46 (by decide) rfl (fun c_138 => ?_) (fun c_138 => ?_)
      · exact absurd c_138 (by decide)
      refine g_aload_n C 0 rfl dX11_writeNumber_49 rfl ?_
      refine g_bipush C (by decide) dX11_writeNumber_50 rfl ?_
      refine g_lload_n C 2 rfl dX11_writeNumber_52 rfl ?_
      refine g_lload C 3 rfl dX11_writeNumber_53 rfl ?_
      refine g_ldiv C ⟨by omega, by omega⟩ ⟨by decide, by decide⟩ (by decide) rfl dX11_writeNumber_55 rfl ?_
      refine g_ldc2 C (x := 10) w_X11_writeNumber_k315 (by decide) dX11_writeNumber_56 rfl ?_
      refine g_lrem C ⟨by omega, by omega⟩ ⟨by decide, by decide⟩ (by decide) rfl dX11_writeNumber_59 rfl ?_
      refine g_l2i C rfl dX11_writeNumber_60 rfl ?_
      refine g_iadd C rfl dX11_writeNumber_61 rfl ?_
      refine g_callV C (b := (Q 0)) (mc := 0) (ms := 0) (rm := rm_K_m_write) (As := [vI (48 + (Int.tmod (Int.tdiv (absI x) 1000) 10))]) (wc := [((Q 0), .inr (12, [vR (Q 1), vR (Q 2), vR (Q 3), vR (Q 4), vR (Q 5), vI pn, vR (Q 6), vL f0, vL f1, vL f2, vL f3, vL px, vL py, vL pb, vI rg, vI wr, vR (Q 7), vI rn, vR (Q 8), vI ((wn + 1) + 1)])), ((Q 8), cI E 120 (ua (ua ww wn 45) (wn + 1) (48 + (Int.tmod (Int.tdiv (absI x) 10000) 10))))]) (wr := []) (st := []) gX11_writeNumber_X11_write (q9 := 0) (ci := 12) rfl rfl rfl (K_m_write l E Q pn f0 f1 f2 f3 px py pb rg wr rn ((wn + 1) + 1) (ua (ua ww wn 45) (wn + 1) (48 + (Int.tmod (Int.tdiv (absI x) 10000) 10))) (((L ++ [45]) ++ [(48 + (Int.tmod (Int.tdiv (absI x) 10000) 10))])) (48 + (Int.tmod (Int.tdiv (absI x) 1000) 10)) f_136 wl_137 (by omega)) hyd_X11_write rfl [0, 1] [] rfl rfl rfl rfl rfl (by decide) ⟨rfl, rfl⟩ ⟨Nat.le_of_ble_eq_true rfl, Nat.le_of_ble_eq_true rfl, Nat.le_of_ble_eq_true rfl, Nat.le_of_ble_eq_true rfl⟩ (Nat.le_of_ble_eq_true rfl) dX11_writeNumber_62 (rfl : _ = 0) (rfl : _ = 0) rfl ?_
      rintro _ _ ⟨rfl, rfl, f_139⟩
      refine g_is (ws' := [((Q 0), .inr (12, [vR (Q 1), vR (Q 2), vR (Q 3), vR (Q 4), vR (Q 5), vI pn, vR (Q 6), vL f0, vL f1, vL f2, vL f3, vL px, vL py, vL pb, vI rg, vI wr, vR (Q 7), vI rn, vR (Q 8), vI (((wn + 1) + 1) + 1)])), ((Q 8), cI E 120 (ua (ua (ua ww wn 45) (wn + 1) (48 + (Int.tmod (Int.tdiv (absI x) 10000) 10))) ((wn + 1) + 1) (48 + (Int.tmod (Int.tdiv (absI x) 1000) 10))))]) (st' := []) rfl rfl ?_
      have wl_140 : (((wn + 1) + 1) + 1) = ((((L ++ [45]) ++ [(48 + (Int.tmod (Int.tdiv (absI x) 10000) 10))]) ++ [(48 + (Int.tmod (Int.tdiv (absI x) 1000) 10))]).length : Int) := len_1 wl_137
      refine g_lload C 3 rfl dX11_writeNumber_65 rfl ?_
      refine g_ldc2 C (x := 10) w_X11_writeNumber_k315 (by decide) dX11_writeNumber_67 rfl ?_
      refine g_ldiv C ⟨by decide, by decide⟩ ⟨by decide, by decide⟩ (by decide) (r := 100) (by decide) dX11_writeNumber_70 rfl ?_
      refine g_lstore C (lv' := [(0, vR (Q 0)), (1, vL x), (3, vL (absI x)), (5, vL 100)]) [1, 2, 3, 0] (by decide) rfl rfl dX11_writeNumber_71 rfl ?_
      refine g_goto C (pc' := 42) dX11_writeNumber_73 (by decide) ?_
      refine g_lload C 3 rfl dX11_writeNumber_42 rfl ?_
      refine g_lconst0 C dX11_writeNumber_44 rfl ?_
      refine g_lcmp_le C ⟨by decide, by decide⟩ ⟨by decide, by decide⟩ dX11_writeNumber_45 rfl (tgt := 76) dX11_writeNumber_46 (by decide) rfl (fun c_141 => ?_) (fun c_141 => ?_)
      · exact absurd c_141 (by decide)
      refine g_aload_n C 0 rfl dX11_writeNumber_49 rfl ?_
      refine g_bipush C (by decide) dX11_writeNumber_50 rfl ?_
      refine g_lload_n C 2 rfl dX11_writeNumber_52 rfl ?_
      refine g_lload C 3 rfl dX11_writeNumber_53 rfl ?_
      refine g_ldiv C ⟨by omega, by omega⟩ ⟨by decide, by decide⟩ (by decide) rfl dX11_writeNumber_55 rfl ?_
      refine g_ldc2 C (x := 10) w_X11_writeNumber_k315 (by decide) dX11_writeNumber_56 rfl ?_
      refine g_lrem C ⟨by omega, by omega⟩ ⟨by decide, by decide⟩ (by decide) rfl dX11_writeNumber_59 rfl ?_
      refine g_l2i C rfl dX11_writeNumber_60 rfl ?_
      refine g_iadd C rfl dX11_writeNumber_61 rfl ?_
      refine g_callV C (b := (Q 0)) (mc := 0) (ms := 0) (rm := rm_K_m_write) (As := [vI (48 + (Int.tmod (Int.tdiv (absI x) 100) 10))]) (wc := [((Q 0), .inr (12, [vR (Q 1), vR (Q 2), vR (Q 3), vR (Q 4), vR (Q 5), vI pn, vR (Q 6), vL f0, vL f1, vL f2, vL f3, vL px, vL py, vL pb, vI rg, vI wr, vR (Q 7), vI rn, vR (Q 8), vI (((wn + 1) + 1) + 1)])), ((Q 8), cI E 120 (ua (ua (ua ww wn 45) (wn + 1) (48 + (Int.tmod (Int.tdiv (absI x) 10000) 10))) ((wn + 1) + 1) (48 + (Int.tmod (Int.tdiv (absI x) 1000) 10))))]) (wr := []) (st := []) gX11_writeNumber_X11_write (q9 := 0) (ci := 12) rfl rfl rfl (K_m_write l E Q pn f0 f1 f2 f3 px py pb rg wr rn (((wn + 1) + 1) + 1) (ua (ua (ua ww wn 45) (wn + 1) (48 + (Int.tmod (Int.tdiv (absI x) 10000) 10))) ((wn + 1) + 1) (48 + (Int.tmod (Int.tdiv (absI x) 1000) 10))) ((((L ++ [45]) ++ [(48 + (Int.tmod (Int.tdiv (absI x) 10000) 10))]) ++ [(48 + (Int.tmod (Int.tdiv (absI x) 1000) 10))])) (48 + (Int.tmod (Int.tdiv (absI x) 100) 10)) f_139 wl_140 (by omega)) hyd_X11_write rfl [0, 1] [] rfl rfl rfl rfl rfl (by decide) ⟨rfl, rfl⟩ ⟨Nat.le_of_ble_eq_true rfl, Nat.le_of_ble_eq_true rfl, Nat.le_of_ble_eq_true rfl, Nat.le_of_ble_eq_true rfl⟩ (Nat.le_of_ble_eq_true rfl) dX11_writeNumber_62 (rfl : _ = 0) (rfl : _ = 0) rfl ?_
      rintro _ _ ⟨rfl, rfl, f_142⟩
      refine g_is (ws' := [((Q 0), .inr (12, [vR (Q 1), vR (Q 2), vR (Q 3), vR (Q 4), vR (Q 5), vI pn, vR (Q 6), vL f0, vL f1, vL f2, vL f3, vL px, vL py, vL pb, vI rg, vI wr, vR (Q 7), vI rn, vR (Q 8), vI ((((wn + 1) + 1) + 1) + 1)])), ((Q 8), cI E 120 (ua (ua (ua (ua ww wn 45) (wn + 1) (48 + (Int.tmod (Int.tdiv (absI x) 10000) 10))) ((wn + 1) + 1) (48 + (Int.tmod (Int.tdiv (absI x) 1000) 10))) (((wn + 1) + 1) + 1) (48 + (Int.tmod (Int.tdiv (absI x) 100) 10))))]) (st' := []) rfl rfl ?_
      have wl_143 : ((((wn + 1) + 1) + 1) + 1) = (((((L ++ [45]) ++ [(48 + (Int.tmod (Int.tdiv (absI x) 10000) 10))]) ++ [(48 + (Int.tmod (Int.tdiv (absI x) 1000) 10))]) ++ [(48 + (Int.tmod (Int.tdiv (absI x) 100) 10))]).length : Int) := len_1 wl_140
      refine g_lload C 3 rfl dX11_writeNumber_65 rfl ?_
      refine g_ldc2 C (x := 10) w_X11_writeNumber_k315 (by decide) dX11_writeNumber_67 rfl ?_
      refine g_ldiv C ⟨by decide, by decide⟩ ⟨by decide, by decide⟩ (by decide) (r := 10) (by decide) dX11_writeNumber_70 rfl ?_
      refine g_lstore C (lv' := [(0, vR (Q 0)), (1, vL x), (3, vL (absI x)), (5, vL 10)]) [1, 2, 3, 0] (by decide) rfl rfl dX11_writeNumber_71 rfl ?_
      refine g_goto C (pc' := 42) dX11_writeNumber_73 (by decide) ?_
      refine g_lload C 3 rfl dX11_writeNumber_42 rfl ?_
      refine g_lconst0 C dX11_writeNumber_44 rfl ?_
      refine g_lcmp_le C ⟨by decide, by decide⟩ ⟨by decide, by decide⟩ dX11_writeNumber_45 rfl (tgt := 76) dX11_writeNumber_46 (by decide) rfl (fun c_144 => ?_) (fun c_144 => ?_)
      · exact absurd c_144 (by decide)
      refine g_aload_n C 0 rfl dX11_writeNumber_49 rfl ?_
      refine g_bipush C (by decide) dX11_writeNumber_50 rfl ?_
      refine g_lload_n C 2 rfl dX11_writeNumber_52 rfl ?_
      refine g_lload C 3 rfl dX11_writeNumber_53 rfl ?_
      refine g_ldiv C ⟨by omega, by omega⟩ ⟨by decide, by decide⟩ (by decide) rfl dX11_writeNumber_55 rfl ?_
      refine g_ldc2 C (x := 10) w_X11_writeNumber_k315 (by decide) dX11_writeNumber_56 rfl ?_
      refine g_lrem C ⟨by omega, by omega⟩ ⟨by decide, by decide⟩ (by decide) rfl dX11_writeNumber_59 rfl ?_
      refine g_l2i C rfl dX11_writeNumber_60 rfl ?_
      refine g_iadd C rfl dX11_writeNumber_61 rfl ?_
      refine g_callV C (b := (Q 0)) (mc := 0) (ms := 0) (rm := rm_K_m_write) (As := [vI (48 + (Int.tmod (Int.tdiv (absI x) 10) 10))]) (wc := [((Q 0), .inr (12, [vR (Q 1), vR (Q 2), vR (Q 3), vR (Q 4), vR (Q 5), vI pn, vR (Q 6), vL f0, vL f1, vL f2, vL f3, vL px, vL py, vL pb, vI rg, vI wr, vR (Q 7), vI rn, vR (Q 8), vI ((((wn + 1) + 1) + 1) + 1)])), ((Q 8), cI E 120 (ua (ua (ua (ua ww wn 45) (wn + 1) (48 + (Int.tmod (Int.tdiv (absI x) 10000) 10))) ((wn + 1) + 1) (48 + (Int.tmod (Int.tdiv (absI x) 1000) 10))) (((wn + 1) + 1) + 1) (48 + (Int.tmod (Int.tdiv (absI x) 100) 10))))]) (wr := []) (st := []) gX11_writeNumber_X11_write (q9 := 0) (ci := 12) rfl rfl rfl (K_m_write l E Q pn f0 f1 f2 f3 px py pb rg wr rn ((((wn + 1) + 1) + 1) + 1) (ua (ua (ua (ua ww wn 45) (wn + 1) (48 + (Int.tmod (Int.tdiv (absI x) 10000) 10))) ((wn + 1) + 1) (48 + (Int.tmod (Int.tdiv (absI x) 1000) 10))) (((wn + 1) + 1) + 1) (48 + (Int.tmod (Int.tdiv (absI x) 100) 10))) (((((L ++ [45]) ++ [(48 + (Int.tmod (Int.tdiv (absI x) 10000) 10))]) ++ [(48 + (Int.tmod (Int.tdiv (absI x) 1000) 10))]) ++ [(48 + (Int.tmod (Int.tdiv (absI x) 100) 10))])) (48 + (Int.tmod (Int.tdiv (absI x) 10) 10)) f_142 wl_143 (by omega)) hyd_X11_write rfl [0, 1] [] rfl rfl rfl rfl rfl (by decide) ⟨rfl, rfl⟩ ⟨Nat.le_of_ble_eq_true rfl, Nat.le_of_ble_eq_true rfl, Nat.le_of_ble_eq_true rfl, Nat.le_of_ble_eq_true rfl⟩ (Nat.le_of_ble_eq_true rfl) dX11_writeNumber_62 (rfl : _ = 0) (rfl : _ = 0) rfl ?_
      rintro _ _ ⟨rfl, rfl, f_145⟩
      refine g_is (ws' := [((Q 0), .inr (12, [vR (Q 1), vR (Q 2), vR (Q 3), vR (Q 4), vR (Q 5), vI pn, vR (Q 6), vL f0, vL f1, vL f2, vL f3, vL px, vL py, vL pb, vI rg, vI wr, vR (Q 7), vI rn, vR (Q 8), vI (((((wn + 1) + 1) + 1) + 1) + 1)])), ((Q 8), cI E 120 (ua (ua (ua (ua (ua ww wn 45) (wn + 1) (48 + (Int.tmod (Int.tdiv (absI x) 10000) 10))) ((wn + 1) + 1) (48 + (Int.tmod (Int.tdiv (absI x) 1000) 10))) (((wn + 1) + 1) + 1) (48 + (Int.tmod (Int.tdiv (absI x) 100) 10))) ((((wn + 1) + 1) + 1) + 1) (48 + (Int.tmod (Int.tdiv (absI x) 10) 10))))]) (st' := []) rfl rfl ?_
      have wl_146 : (((((wn + 1) + 1) + 1) + 1) + 1) = ((((((L ++ [45]) ++ [(48 + (Int.tmod (Int.tdiv (absI x) 10000) 10))]) ++ [(48 + (Int.tmod (Int.tdiv (absI x) 1000) 10))]) ++ [(48 + (Int.tmod (Int.tdiv (absI x) 100) 10))]) ++ [(48 + (Int.tmod (Int.tdiv (absI x) 10) 10))]).length : Int) := len_1 wl_143
      refine g_lload C 3 rfl dX11_writeNumber_65 rfl ?_
      refine g_ldc2 C (x := 10) w_X11_writeNumber_k315 (by decide) dX11_writeNumber_67 rfl ?_
      refine g_ldiv C ⟨by decide, by decide⟩ ⟨by decide, by decide⟩ (by decide) (r := 1) (by decide) dX11_writeNumber_70 rfl ?_
      refine g_lstore C (lv' := [(0, vR (Q 0)), (1, vL x), (3, vL (absI x)), (5, vL 1)]) [1, 2, 3, 0] (by decide) rfl rfl dX11_writeNumber_71 rfl ?_
      refine g_goto C (pc' := 42) dX11_writeNumber_73 (by decide) ?_
      refine g_lload C 3 rfl dX11_writeNumber_42 rfl ?_
      refine g_lconst0 C dX11_writeNumber_44 rfl ?_
      refine g_lcmp_le C ⟨by decide, by decide⟩ ⟨by decide, by decide⟩ dX11_writeNumber_45 rfl (tgt := 76) dX11_writeNumber_46 (by decide) rfl (fun c_147 => ?_) (fun c_147 => ?_)
      · exact absurd c_147 (by decide)
      refine g_aload_n C 0 rfl dX11_writeNumber_49 rfl ?_
      refine g_bipush C (by decide) dX11_writeNumber_50 rfl ?_
      refine g_lload_n C 2 rfl dX11_writeNumber_52 rfl ?_
      refine g_lload C 3 rfl dX11_writeNumber_53 rfl ?_
      refine g_ldiv C ⟨by omega, by omega⟩ ⟨by decide, by decide⟩ (by decide) rfl dX11_writeNumber_55 rfl ?_
      refine g_ldc2 C (x := 10) w_X11_writeNumber_k315 (by decide) dX11_writeNumber_56 rfl ?_
      refine g_lrem C ⟨by omega, by omega⟩ ⟨by decide, by decide⟩ (by decide) rfl dX11_writeNumber_59 rfl ?_
      refine g_l2i C rfl dX11_writeNumber_60 rfl ?_
      refine g_iadd C rfl dX11_writeNumber_61 rfl ?_
      refine g_callV C (b := (Q 0)) (mc := 0) (ms := 0) (rm := rm_K_m_write) (As := [vI (48 + (Int.tmod (Int.tdiv (absI x) 1) 10))]) (wc := [((Q 0), .inr (12, [vR (Q 1), vR (Q 2), vR (Q 3), vR (Q 4), vR (Q 5), vI pn, vR (Q 6), vL f0, vL f1, vL f2, vL f3, vL px, vL py, vL pb, vI rg, vI wr, vR (Q 7), vI rn, vR (Q 8), vI (((((wn + 1) + 1) + 1) + 1) + 1)])), ((Q 8), cI E 120 (ua (ua (ua (ua (ua ww wn 45) (wn + 1) (48 + (Int.tmod (Int.tdiv (absI x) 10000) 10))) ((wn + 1) + 1) (48 + (Int.tmod (Int.tdiv (absI x) 1000) 10))) (((wn + 1) + 1) + 1) (48 + (Int.tmod (Int.tdiv (absI x) 100) 10))) ((((wn + 1) + 1) + 1) + 1) (48 + (Int.tmod (Int.tdiv (absI x) 10) 10))))]) (wr := []) (st := []) gX11_writeNumber_X11_write (q9 := 0) (ci := 12) rfl rfl rfl (K_m_write l E Q pn f0 f1 f2 f3 px py pb rg wr rn (((((wn + 1) + 1) + 1) + 1) + 1) (ua (ua (ua (ua (ua ww wn 45) (wn + 1) (48 + (Int.tmod (Int.tdiv (absI x) 10000) 10))) ((wn + 1) + 1) (48 + (Int.tmod (Int.tdiv (absI x) 1000) 10))) (((wn + 1) + 1) + 1) (48 + (Int.tmod (Int.tdiv (absI x) 100) 10))) ((((wn + 1) + 1) + 1) + 1) (48 + (Int.tmod (Int.tdiv (absI x) 10) 10))) ((((((L ++ [45]) ++ [(48 + (Int.tmod (Int.tdiv (absI x) 10000) 10))]) ++ [(48 + (Int.tmod (Int.tdiv (absI x) 1000) 10))]) ++ [(48 + (Int.tmod (Int.tdiv (absI x) 100) 10))]) ++ [(48 + (Int.tmod (Int.tdiv (absI x) 10) 10))])) (48 + (Int.tmod (Int.tdiv (absI x) 1) 10)) f_145 wl_146 (by omega)) hyd_X11_write rfl [0, 1] [] rfl rfl rfl rfl rfl (by decide) ⟨rfl, rfl⟩ ⟨Nat.le_of_ble_eq_true rfl, Nat.le_of_ble_eq_true rfl, Nat.le_of_ble_eq_true rfl, Nat.le_of_ble_eq_true rfl⟩ (Nat.le_of_ble_eq_true rfl) dX11_writeNumber_62 (rfl : _ = 0) (rfl : _ = 0) rfl ?_
      rintro _ _ ⟨rfl, rfl, f_148⟩
      refine g_is (ws' := [((Q 0), .inr (12, [vR (Q 1), vR (Q 2), vR (Q 3), vR (Q 4), vR (Q 5), vI pn, vR (Q 6), vL f0, vL f1, vL f2, vL f3, vL px, vL py, vL pb, vI rg, vI wr, vR (Q 7), vI rn, vR (Q 8), vI ((((((wn + 1) + 1) + 1) + 1) + 1) + 1)])), ((Q 8), cI E 120 (ua (ua (ua (ua (ua (ua ww wn 45) (wn + 1) (48 + (Int.tmod (Int.tdiv (absI x) 10000) 10))) ((wn + 1) + 1) (48 + (Int.tmod (Int.tdiv (absI x) 1000) 10))) (((wn + 1) + 1) + 1) (48 + (Int.tmod (Int.tdiv (absI x) 100) 10))) ((((wn + 1) + 1) + 1) + 1) (48 + (Int.tmod (Int.tdiv (absI x) 10) 10))) (((((wn + 1) + 1) + 1) + 1) + 1) (48 + (Int.tmod (Int.tdiv (absI x) 1) 10))))]) (st' := []) rfl rfl ?_
      have wl_149 : ((((((wn + 1) + 1) + 1) + 1) + 1) + 1) = (((((((L ++ [45]) ++ [(48 + (Int.tmod (Int.tdiv (absI x) 10000) 10))]) ++ [(48 + (Int.tmod (Int.tdiv (absI x) 1000) 10))]) ++ [(48 + (Int.tmod (Int.tdiv (absI x) 100) 10))]) ++ [(48 + (Int.tmod (Int.tdiv (absI x) 10) 10))]) ++ [(48 + (Int.tmod (Int.tdiv (absI x) 1) 10))]).length : Int) := len_1 wl_146
      refine g_lload C 3 rfl dX11_writeNumber_65 rfl ?_
      refine g_ldc2 C (x := 10) w_X11_writeNumber_k315 (by decide) dX11_writeNumber_67 rfl ?_
      refine g_ldiv C ⟨by decide, by decide⟩ ⟨by decide, by decide⟩ (by decide) (r := 0) (by decide) dX11_writeNumber_70 rfl ?_
      refine g_lstore C (lv' := [(0, vR (Q 0)), (1, vL x), (3, vL (absI x)), (5, vL 0)]) [1, 2, 3, 0] (by decide) rfl rfl dX11_writeNumber_71 rfl ?_
      refine g_goto C (pc' := 42) dX11_writeNumber_73 (by decide) ?_
      refine g_lload C 3 rfl dX11_writeNumber_42 rfl ?_
      refine g_lconst0 C dX11_writeNumber_44 rfl ?_
      refine g_lcmp_le C ⟨by decide, by decide⟩ ⟨by decide, by decide⟩ dX11_writeNumber_45 rfl (tgt := 76) dX11_writeNumber_46 (by decide) rfl (fun c_150 => ?_) (fun c_150 => ?_)
      · refine g_ws (ws' := [((Q 0), .inr (12, [vR (Q 1), vR (Q 2), vR (Q 3), vR (Q 4), vR (Q 5), vI pn, vR (Q 6), vL f0, vL f1, vL f2, vL f3, vL px, vL py, vL pb, vI rg, vI wr, vR (Q 7), vI rn, vR (Q 8), vI (wn + (dlen x))])), ((Q 8), cI E 120 (ua (ua (ua (ua (ua (ua ww wn 45) (wn + 1) (48 + (Int.tmod (Int.tdiv (absI x) 10000) 10))) ((wn + 1) + 1) (48 + (Int.tmod (Int.tdiv (absI x) 1000) 10))) (((wn + 1) + 1) + 1) (48 + (Int.tmod (Int.tdiv (absI x) 100) 10))) ((((wn + 1) + 1) + 1) + 1) (48 + (Int.tmod (Int.tdiv (absI x) 10) 10))) (((((wn + 1) + 1) + 1) + 1) + 1) (48 + (Int.tmod (Int.tdiv (absI x) 1) 10))))]) (congrArg (fun z_ : Int => ([((Q 0), .inr (12, [vR (Q 1), vR (Q 2), vR (Q 3), vR (Q 4), vR (Q 5), vI pn, vR (Q 6), vL f0, vL f1, vL f2, vL f3, vL px, vL py, vL pb, vI rg, vI wr, vR (Q 7), vI rn, vR (Q 8), vI z_])), ((Q 8), cI E 120 (ua (ua (ua (ua (ua (ua ww wn 45) (wn + 1) (48 + (Int.tmod (Int.tdiv (absI x) 10000) 10))) ((wn + 1) + 1) (48 + (Int.tmod (Int.tdiv (absI x) 1000) 10))) (((wn + 1) + 1) + 1) (48 + (Int.tmod (Int.tdiv (absI x) 100) 10))) ((((wn + 1) + 1) + 1) + 1) (48 + (Int.tmod (Int.tdiv (absI x) 10) 10))) (((((wn + 1) + 1) + 1) + 1) + 1) (48 + (Int.tmod (Int.tdiv (absI x) 1) 10))))] : va_W)) (show (wn + (dlen x)) = ((((((wn + 1) + 1) + 1) + 1) + 1) + 1) by omega)) ?_
        exact g_vret C hr (Nat.le_of_ble_eq_true rfl) (Nat.le_of_ble_eq_true rfl) dX11_writeNumber_76 ⟨(ua (ua (ua (ua (ua (ua ww wn 45) (wn + 1) (48 + (Int.tmod (Int.tdiv (absI x) 10000) 10))) ((wn + 1) + 1) (48 + (Int.tmod (Int.tdiv (absI x) 1000) 10))) (((wn + 1) + 1) + 1) (48 + (Int.tmod (Int.tdiv (absI x) 100) 10))) ((((wn + 1) + 1) + 1) + 1) (48 + (Int.tmod (Int.tdiv (absI x) 10) 10))) (((((wn + 1) + 1) + 1) + 1) + 1) (48 + (Int.tmod (Int.tdiv (absI x) 1) 10))), rfl, rfl, (by rw [dgs_n (by omega), dgs_p5 (v := (-x)) (by omega)]; have g9 := f_148; (try simp only [List.append_assoc, List.cons_append, List.nil_append] at g9); refine TX_eq g9 ?_; simp only [List.append_cancel_left_eq, List.cons.injEq, and_true, true_and]; (repeat' apply And.intro) <;> omega)⟩
      exact absurd c_150 (by decide)
    exfalso; omega

theorem in_X11_spell_X11 : ∀ w ∈ u_ws RX11 TX11 20, w ∈ wsX11_spell := by decide +kernel
theorem fd_X11_spell_309 : fdk wsX11_spell RX11 309 "ZoneRelayModel" RX11 TX11 20 19 := ⟨in_X11_spell_X11, by decide +kernel, by decide, rfl⟩
theorem fd_X11_spell_33 : fdk wsX11_spell RX11 33 "ZoneRelayModel" RX11 TX11 20 18 := ⟨in_X11_spell_X11, by decide +kernel, by decide, rfl⟩
theorem fd_X11_spell_7 : fdk wsX11_spell RX11 7 "ZoneRelayModel" RX11 TX11 20 0 := ⟨in_X11_spell_X11, by decide +kernel, by decide, rfl⟩
theorem hyd_X11_writeNumber : yX11_writeNumber.cls ≠ "java/lang/invoke/MethodHandle" ∧ yX11_writeNumber.cls ≠ "java/lang/invoke/VarHandle" ∧ (parseMethodDescriptor yX11_writeNumber.desc).map (fun d => d.parameters.length) = some 1 := by decide +kernel
abbrev rm_M_spell : Room := { frames := 2, cells := 0, slots := 0, locals := 47 }
set_option maxHeartbeats 1000000 in
set_option maxRecDepth 100000 in
theorem M_spell (l : Launch) (E : Ev) (Q : Nat → Nat) (pn f0 f1 f2 f3 px py pb rg wr rn wn : Int) (a s2 s3 s4 tx rr ww : Int → Int) (B p q : Int) (hI : Inv a B) (hB : B ≤ 2900000) (b_p : bi p) (b_q : bi q) : Mc l yX11_spell wsX11_spell rm_M_spell E [vR (Q 0), vI p, vI q] [((Q 0), .inr (12, [vR (Q 1), vR (Q 2), vR (Q 3), vR (Q 4), vR (Q 5), vI pn, vR (Q 6), vL f0, vL f1, vL f2, vL f3, vL px, vL py, vL pb, vI rg, vI wr, vR (Q 7), vI rn, vR (Q 8), vI wn])), ((Q 1), cL E 310 a), ((Q 2), cL E 310 s2), ((Q 3), cL E 620 s3), ((Q 4), cZ E 2 s4), ((Q 5), cI E 80 tx), ((Q 6), cI E 24 cosT), ((Q 7), cI E 16 rr), ((Q 8), cI E 120 ww)] 0 0 (fun v9 w9 => ∃ (k2 : Int) (u2 : Int → Int), v9 = some (vI (q_spell a p q)) ∧ w9 = [((Q 0), .inr (12, [vR (Q 1), vR (Q 2), vR (Q 3), vR (Q 4), vR (Q 5), vI pn, vR (Q 6), vL f0, vL f1, vL f2, vL f3, vL px, vL py, vL pb, vI rg, vI wr, vR (Q 7), vI rn, vR (Q 8), vI k2])), ((Q 1), cL E 310 a), ((Q 2), cL E 310 s2), ((Q 3), cL E 620 s3), ((Q 4), cZ E 2 s4), ((Q 5), cI E 80 tx), ((Q 6), cI E 24 cosT), ((Q 7), cI E 16 rr), ((Q 8), cI E 120 u2)]) := by
  refine Mc.intro (cc := cX11_spell) (maxL := 4) (ret := (some .int)) (lv0 := [(0, vR (Q 0)), (1, vI p), (2, vI q)]) (by decide +kernel) rfl rfl (Nat.le_of_ble_eq_true rfl) ?_
  intro p9 e9 s9 m9 args9 below9 meth9 c9 A9 C hr hmn
  have C : Cx p9 s9 m9 args9 meth9 c9 E A9 4 cX11_spell wsX11_spell RX11 := C
  have hI0 := hI
  obtain ⟨iP, i4, iR, iE, iN, ⟨i21, i22, i23, i24, i25, i26, i27, i28⟩, iD, iW, i35, iS, iM, i90, i91, i94, i95, i96, i97, iT, iK, i104, iPn, iPc⟩ := hI
  refine g_iload_n C 1 rfl dX11_spell_0 rfl ?_
  refine g_callS C (mc := 0) (ms := 0) (rm := rm_K_m_isPoly) (As := [vI p]) (wc := []) (wr := [((Q 0), .inr (12, [vR (Q 1), vR (Q 2), vR (Q 3), vR (Q 4), vR (Q 5), vI pn, vR (Q 6), vL f0, vL f1, vL f2, vL f3, vL px, vL py, vL pb, vI rg, vI wr, vR (Q 7), vI rn, vR (Q 8), vI wn])), ((Q 1), cL E 310 a), ((Q 2), cL E 310 s2), ((Q 3), cL E 620 s3), ((Q 4), cZ E 2 s4), ((Q 5), cI E 80 tx), ((Q 6), cI E 24 cosT), ((Q 7), cI E 16 rr), ((Q 8), cI E 120 ww)]) (st := []) gX11_spell_X11_isPolygon rfl (K_m_isPoly l E p b_p) hyd_X11_isPolygon rfl [] [0, 1, 2, 3, 4, 5, 6, 7, 8] rfl rfl rfl rfl rfl (by decide) ⟨rfl, rfl⟩ ⟨Nat.le_of_ble_eq_true rfl, Nat.le_of_ble_eq_true rfl, Nat.le_of_ble_eq_true rfl, Nat.le_of_ble_eq_true rfl⟩ (Nat.le_of_ble_eq_true rfl) dX11_spell_1 (rfl : _ = 0) (rfl : _ = 0) rfl ?_
  rintro _ _ ⟨rfl, rfl⟩
  refine g_is (ws' := [((Q 0), .inr (12, [vR (Q 1), vR (Q 2), vR (Q 3), vR (Q 4), vR (Q 5), vI pn, vR (Q 6), vL f0, vL f1, vL f2, vL f3, vL px, vL py, vL pb, vI rg, vI wr, vR (Q 7), vI rn, vR (Q 8), vI wn])), ((Q 1), cL E 310 a), ((Q 2), cL E 310 s2), ((Q 3), cL E 620 s3), ((Q 4), cZ E 2 s4), ((Q 5), cI E 80 tx), ((Q 6), cI E 24 cosT), ((Q 7), cI E 16 rr), ((Q 8), cI E 120 ww)]) (st' := [vI (bP (0 ≤ p ∧ p ≤ 4))]) rfl rfl ?_
  refine g_ifb_ne C (tgt := 9) dX11_spell_4 (by decide) rfl (fun c_1 => ?_) (fun c_1 => ?_)
  · have n8 := iPn p (by omega) (by omega)
    refine g_aload_n C 0 rfl dX11_spell_9 rfl ?_
    refine g_iconst C dX11_spell_10 rfl ?_
    refine g_put C tyX11 tyX11_ok nmX11 0 fd_X11_spell_309 rfl rfl rfl rfl rfl rfl (Nat.le_of_ble_eq_true rfl) (ws' := [((Q 0), .inr (12, [vR (Q 1), vR (Q 2), vR (Q 3), vR (Q 4), vR (Q 5), vI pn, vR (Q 6), vL f0, vL f1, vL f2, vL f3, vL px, vL py, vL pb, vI rg, vI wr, vR (Q 7), vI rn, vR (Q 8), vI 0])), ((Q 1), cL E 310 a), ((Q 2), cL E 310 s2), ((Q 3), cL E 620 s3), ((Q 4), cZ E 2 s4), ((Q 5), cI E 80 tx), ((Q 6), cI E 24 cosT), ((Q 7), cI E 16 rr), ((Q 8), cI E 120 ww)]) rfl dX11_spell_11 rfl ?_
    refine g_iconst C dX11_spell_14 rfl ?_
    refine g_istore_n C (lv' := [(0, vR (Q 0)), (1, vI p), (2, vI q), (3, vI 0)]) [1, 2, 3, 0] (by decide) rfl rfl dX11_spell_15 rfl ?_
    have hL_16 : ∀ (fuel : Nat) (i : Int) (k9 : Int) (u9 : Int → Int) (h0 : 0 ≤ i) (h1 : i ≤ a (225 + 17 * p)) (hTu : TX u9 (spT a p (Int.toNat i))) (hlu : k9 = ((spT a p (Int.toNat i)).length : Int)) (hfu : (a (225 + 17 * p) - i).toNat = fuel), G p9 l e9 rm_M_spell s9 m9 args9 below9 meth9 c9 (RQ E (fun v9 w9 => ∃ (k2 : Int) (u2 : Int → Int), v9 = some (vI (q_spell a p q)) ∧ w9 = [((Q 0), .inr (12, [vR (Q 1), vR (Q 2), vR (Q 3), vR (Q 4), vR (Q 5), vI pn, vR (Q 6), vL f0, vL f1, vL f2, vL f3, vL px, vL py, vL pb, vI rg, vI wr, vR (Q 7), vI rn, vR (Q 8), vI k2])), ((Q 1), cL E 310 a), ((Q 2), cL E 310 s2), ((Q 3), cL E 620 s3), ((Q 4), cZ E 2 s4), ((Q 5), cI E 80 tx), ((Q 6), cI E 24 cosT), ((Q 7), cI E 16 rr), ((Q 8), cI E 120 u2)]) A9 below9 args9 s9 0 0) E A9 4 0 0 [((Q 0), .inr (12, [vR (Q 1), vR (Q 2), vR (Q 3), vR (Q 4), vR (Q 5), vI pn, vR (Q 6), vL f0, vL f1, vL f2, vL f3, vL px, vL py, vL pb, vI rg, vI wr, vR (Q 7), vI rn, vR (Q 8), vI k9])), ((Q 1), cL E 310 a), ((Q 2), cL E 310 s2), ((Q 3), cL E 620 s3), ((Q 4), cZ E 2 s4), ((Q 5), cI E 80 tx), ((Q 6), cI E 24 cosT), ((Q 7), cI E 16 rr), ((Q 8), cI E 120 u9)] [(0, vR (Q 0)), (1, vI p), (2, vI q), (3, vI i)] 16 [] := by
      intro fuel
      induction fuel using Nat.strongRecOn with
      | ind fuel ih =>
        intro i k9 u9 h0 h1 hTu hlu hfu
        refine g_iload_n C 3 rfl dX11_spell_16 rfl ?_
        refine g_aload_n C 0 rfl dX11_spell_17 rfl ?_
        refine g_iload_n C 1 rfl dX11_spell_18 rfl ?_
        refine g_callV C (b := (Q 0)) (mc := 0) (ms := 0) (rm := rm_K_m_corners) (As := [vI p]) (wc := [((Q 0), .inr (12, [vR (Q 1), vR (Q 2), vR (Q 3), vR (Q 4), vR (Q 5), vI pn, vR (Q 6), vL f0, vL f1, vL f2, vL f3, vL px, vL py, vL pb, vI rg, vI wr, vR (Q 7), vI rn, vR (Q 8), vI k9])), ((Q 1), cL E 310 a)]) (wr := [((Q 2), cL E 310 s2), ((Q 3), cL E 620 s3), ((Q 4), cZ E 2 s4), ((Q 5), cI E 80 tx), ((Q 6), cI E 24 cosT), ((Q 7), cI E 16 rr), ((Q 8), cI E 120 u9)]) (st := [vI i]) gX11_spell_X11_corners (q9 := 0) (ci := 12) rfl rfl rfl (K_m_corners l E Q pn f0 f1 f2 f3 px py pb rg wr rn k9 a p c_1) hyd_X11_corners rfl [0, 1] [2, 3, 4, 5, 6, 7, 8] rfl rfl rfl rfl rfl (by decide) ⟨rfl, rfl⟩ ⟨Nat.le_of_ble_eq_true rfl, Nat.le_of_ble_eq_true rfl, Nat.le_of_ble_eq_true rfl, Nat.le_of_ble_eq_true rfl⟩ (Nat.le_of_ble_eq_true rfl) dX11_spell_19 (rfl : _ = 0) (rfl : _ = 0) rfl ?_
        rintro _ _ ⟨rfl, rfl⟩
        refine g_is (ws' := [((Q 2), cL E 310 s2), ((Q 3), cL E 620 s3), ((Q 4), cZ E 2 s4), ((Q 5), cI E 80 tx), ((Q 6), cI E 24 cosT), ((Q 7), cI E 16 rr), ((Q 8), cI E 120 u9), ((Q 0), .inr (12, [vR (Q 1), vR (Q 2), vR (Q 3), vR (Q 4), vR (Q 5), vI pn, vR (Q 6), vL f0, vL f1, vL f2, vL f3, vL px, vL py, vL pb, vI rg, vI wr, vR (Q 7), vI rn, vR (Q 8), vI k9])), ((Q 1), cL E 310 a)]) (st' := [vI (a (225 + (17 * p))), vI i]) rfl rfl ?_
        refine g_sub (ws' := [((Q 0), .inr (12, [vR (Q 1), vR (Q 2), vR (Q 3), vR (Q 4), vR (Q 5), vI pn, vR (Q 6), vL f0, vL f1, vL f2, vL f3, vL px, vL py, vL pb, vI rg, vI wr, vR (Q 7), vI rn, vR (Q 8), vI k9])), ((Q 1), cL E 310 a), ((Q 2), cL E 310 s2), ((Q 3), cL E 620 s3), ((Q 4), cZ E 2 s4), ((Q 5), cI E 80 tx), ((Q 6), cI E 24 cosT), ((Q 7), cI E 16 rr), ((Q 8), cI E 120 u9)]) [7, 8, 0, 1, 2, 3, 4, 5, 6] rfl rfl rfl ?_
        refine g_icmp_ge C (tgt := 77) ⟨by omega, by omega⟩ ⟨by omega, by omega⟩ dX11_spell_22 (by decide) rfl (fun c_2 => ?_) (fun c_2 => ?_)
        · have ei : a (225 + 17 * p) = i := by omega
          have eL : spL a p = spT a p (Int.toNat i) := by unfold spL; rw [ei]
          have sb9 := spX_b (sh2 a (226 + 17 * p)) (sh2 a (227 + 17 * p)) (Int.toNat i)
          have sb8 : 0 ≤ k9 ∧ k9 ≤ 14 * i := by rw [hlu]; show 0 ≤ ((spX (sh2 a (226 + 17 * p)) (sh2 a (227 + 17 * p)) (Int.toNat i)).length : Int) ∧ ((spX (sh2 a (226 + 17 * p)) (sh2 a (227 + 17 * p)) (Int.toNat i)).length : Int) ≤ _; omega
          have n9 := iPn p (by omega) (by omega)
          refine g_iload_n C 2 rfl dX11_spell_77 rfl ?_
          refine g_iconst C dX11_spell_78 rfl ?_
          refine g_icmp_ne C (tgt := 89) (b_q) ⟨by decide, by decide⟩ dX11_spell_79 (by decide) rfl (fun c_3 => ?_) (fun c_3 => ?_)
          · refine g_iload_n C 2 rfl dX11_spell_89 rfl ?_
            refine g_i2l C (b_q) rfl dX11_spell_90 rfl ?_
            refine g_lconst0 C dX11_spell_91 rfl ?_
            refine g_aload_n C 0 rfl dX11_spell_92 rfl ?_
            refine g_get C 0 fd_X11_spell_309 rfl rfl rfl dX11_spell_93 rfl ?_
            refine g_iconst C dX11_spell_96 rfl ?_
            refine g_isub C rfl dX11_spell_97 rfl ?_
            refine g_i2l C (⟨by omega, by omega⟩) rfl dX11_spell_98 rfl ?_
            refine g_callS C (mc := 0) (ms := 0) (rm := rm_K_m_in) (As := [vL q, vL 0, vL (k9 - 1)]) (wc := []) (wr := [((Q 0), .inr (12, [vR (Q 1), vR (Q 2), vR (Q 3), vR (Q 4), vR (Q 5), vI pn, vR (Q 6), vL f0, vL f1, vL f2, vL f3, vL px, vL py, vL pb, vI rg, vI wr, vR (Q 7), vI rn, vR (Q 8), vI k9])), ((Q 1), cL E 310 a), ((Q 2), cL E 310 s2), ((Q 3), cL E 620 s3), ((Q 4), cZ E 2 s4), ((Q 5), cI E 80 tx), ((Q 6), cI E 24 cosT), ((Q 7), cI E 16 rr), ((Q 8), cI E 120 u9)]) (st := []) gX11_spell_X11_in rfl (K_m_in l E q 0 (k9 - 1) ⟨by omega, by omega⟩ ⟨by omega, by omega⟩ ⟨by omega, by omega⟩) hyd_X11_in rfl [] [0, 1, 2, 3, 4, 5, 6, 7, 8] rfl rfl rfl rfl rfl (by decide) ⟨rfl, rfl⟩ ⟨Nat.le_of_ble_eq_true rfl, Nat.le_of_ble_eq_true rfl, Nat.le_of_ble_eq_true rfl, Nat.le_of_ble_eq_true rfl⟩ (Nat.le_of_ble_eq_true rfl) dX11_spell_99 (rfl : _ = 0) (rfl : _ = 0) rfl ?_
            rintro _ _ ⟨rfl, rfl⟩
            refine g_is (ws' := [((Q 0), .inr (12, [vR (Q 1), vR (Q 2), vR (Q 3), vR (Q 4), vR (Q 5), vI pn, vR (Q 6), vL f0, vL f1, vL f2, vL f3, vL px, vL py, vL pb, vI rg, vI wr, vR (Q 7), vI rn, vR (Q 8), vI k9])), ((Q 1), cL E 310 a), ((Q 2), cL E 310 s2), ((Q 3), cL E 620 s3), ((Q 4), cZ E 2 s4), ((Q 5), cI E 80 tx), ((Q 6), cI E 24 cosT), ((Q 7), cI E 16 rr), ((Q 8), cI E 120 u9)]) (st' := [vI (bP (0 ≤ q ∧ q ≤ (k9 - 1)))]) rfl rfl ?_
            refine g_ifb_eq C (tgt := 114) dX11_spell_102 (by decide) rfl (fun c_4 => ?_) (fun c_4 => ?_)
            · refine g_bipush C (by decide) dX11_spell_114 rfl ?_
              refine g_top (v' := vI (q_spell a p q)) (congrArg (fun z_ : Int => vI z_) (show (q_spell a p q) = (-6) by unfold q_spell; first | (rw [if_neg (by omega)]; done) | (rw [eL, ← hlu, if_pos (by omega), if_pos (by omega)]; done) | (rw [eL, ← hlu, if_pos (by omega), if_neg (by omega), if_neg (by omega)]; done) | (rw [eL, ← hlu, if_pos (by omega), if_neg (by omega), if_pos (by omega)]; exact (TX_d hTu ⟨by omega, by omega⟩).symm))) ?_
              exact g_iret C hr rfl (Nat.le_of_ble_eq_true rfl) (Nat.le_of_ble_eq_true rfl) dX11_spell_116 ⟨k9, u9, rfl, rfl⟩
            refine g_aload_n C 0 rfl dX11_spell_105 rfl ?_
            refine g_get C 0 fd_X11_spell_33 rfl rfl rfl dX11_spell_106 rfl ?_
            refine g_iload_n C 2 rfl dX11_spell_109 rfl ?_
            refine g_iald C 8 rfl (by omega) (by omega) (by decide) rfl dX11_spell_110 rfl ?_
            refine g_goto C (pc' := 116) dX11_spell_111 (by decide) ?_
            refine g_top (v' := vI (q_spell a p q)) (congrArg (fun z_ : Int => vI z_) (show (q_spell a p q) = (u9 q) by unfold q_spell; first | (rw [if_neg (by omega)]; done) | (rw [eL, ← hlu, if_pos (by omega), if_pos (by omega)]; done) | (rw [eL, ← hlu, if_pos (by omega), if_neg (by omega), if_neg (by omega)]; done) | (rw [eL, ← hlu, if_pos (by omega), if_neg (by omega), if_pos (by omega)]; exact (TX_d hTu ⟨by omega, by omega⟩).symm))) ?_
            exact g_iret C hr rfl (Nat.le_of_ble_eq_true rfl) (Nat.le_of_ble_eq_true rfl) dX11_spell_116 ⟨k9, u9, rfl, rfl⟩
          refine g_aload_n C 0 rfl dX11_spell_82 rfl ?_
          refine g_get C 0 fd_X11_spell_309 rfl rfl rfl dX11_spell_83 rfl ?_
          refine g_goto C (pc' := 116) dX11_spell_86 (by decide) ?_
          refine g_top (v' := vI (q_spell a p q)) (congrArg (fun z_ : Int => vI z_) (show (q_spell a p q) = k9 by unfold q_spell; first | (rw [if_neg (by omega)]; done) | (rw [eL, ← hlu, if_pos (by omega), if_pos (by omega)]; done) | (rw [eL, ← hlu, if_pos (by omega), if_neg (by omega), if_neg (by omega)]; done) | (rw [eL, ← hlu, if_pos (by omega), if_neg (by omega), if_pos (by omega)]; exact (TX_d hTu ⟨by omega, by omega⟩).symm))) ?_
          exact g_iret C hr rfl (Nat.le_of_ble_eq_true rfl) (Nat.le_of_ble_eq_true rfl) dX11_spell_116 ⟨k9, u9, rfl, rfl⟩
        have sb9 := spX_b (sh2 a (226 + 17 * p)) (sh2 a (227 + 17 * p)) (Int.toNat i)
        have sb8 : k9 ≤ 14 * i := by rw [hlu]; show ((spX (sh2 a (226 + 17 * p)) (sh2 a (227 + 17 * p)) (Int.toNat i)).length : Int) ≤ _; omega
        have dx9 := dlen_r (sh2 a (226 + 17 * p) i)
        have dy9 := dlen_r (sh2 a (227 + 17 * p) i)
        have pc9 := iPc p i (by omega) (by omega) (by omega) (by omega)
        refine g_iload_n C 3 rfl dX11_spell_25 rfl ?_
        refine g_if_le C (tgt := 35) ⟨by omega, by omega⟩ dX11_spell_26 (by decide) rfl (fun c_5 => ?_) (fun c_5 => ?_)
        · have sT0 : TX u9 (if i = 0 then spT a p (Int.toNat i) else spT a p (Int.toNat i) ++ [47]) := by rw [if_pos (by omega)]; exact hTu
          have sl0 : k9 = ((if i = 0 then spT a p (Int.toNat i) else spT a p (Int.toNat i) ++ [47]).length : Int) := by rw [if_pos (by omega)]; exact hlu
          refine g_aload_n C 0 rfl dX11_spell_35 rfl ?_
          refine g_aload_n C 0 rfl dX11_spell_36 rfl ?_
          refine g_get C 0 fd_X11_spell_7 rfl rfl rfl dX11_spell_37 rfl ?_
          refine g_iload_n C 1 rfl dX11_spell_40 rfl ?_
          refine g_iload_n C 3 rfl dX11_spell_41 rfl ?_
          refine g_iconst C dX11_spell_42 rfl ?_
          refine g_callS C (mc := 0) (ms := 0) (rm := rm_K_m_cornerAt) (As := [vI p, vI i, vI 0]) (wc := []) (wr := [((Q 0), .inr (12, [vR (Q 1), vR (Q 2), vR (Q 3), vR (Q 4), vR (Q 5), vI pn, vR (Q 6), vL f0, vL f1, vL f2, vL f3, vL px, vL py, vL pb, vI rg, vI wr, vR (Q 7), vI rn, vR (Q 8), vI k9])), ((Q 1), cL E 310 a), ((Q 2), cL E 310 s2), ((Q 3), cL E 620 s3), ((Q 4), cZ E 2 s4), ((Q 5), cI E 80 tx), ((Q 6), cI E 24 cosT), ((Q 7), cI E 16 rr), ((Q 8), cI E 120 u9)]) (st := [vR (Q 1), vR (Q 0)]) gX11_spell_X11_cornerAt rfl (K_m_cornerAt l E p i 0 ) hyd_X11_cornerAt rfl [] [0, 1, 2, 3, 4, 5, 6, 7, 8] rfl rfl rfl rfl rfl (by decide) ⟨rfl, rfl⟩ ⟨Nat.le_of_ble_eq_true rfl, Nat.le_of_ble_eq_true rfl, Nat.le_of_ble_eq_true rfl, Nat.le_of_ble_eq_true rfl⟩ (Nat.le_of_ble_eq_true rfl) dX11_spell_43 (rfl : _ = 0) (rfl : _ = 0) rfl ?_
          rintro _ _ ⟨rfl, rfl⟩
          refine g_is (ws' := [((Q 0), .inr (12, [vR (Q 1), vR (Q 2), vR (Q 3), vR (Q 4), vR (Q 5), vI pn, vR (Q 6), vL f0, vL f1, vL f2, vL f3, vL px, vL py, vL pb, vI rg, vI wr, vR (Q 7), vI rn, vR (Q 8), vI k9])), ((Q 1), cL E 310 a), ((Q 2), cL E 310 s2), ((Q 3), cL E 620 s3), ((Q 4), cZ E 2 s4), ((Q 5), cI E 80 tx), ((Q 6), cI E 24 cosT), ((Q 7), cI E 16 rr), ((Q 8), cI E 120 u9)]) (st' := [vI (((226 + (17 * p)) + (2 * i)) + 0), vR (Q 1), vR (Q 0)]) rfl rfl ?_
          refine g_lald C 1 rfl (by omega) (by omega) (by decide) rfl dX11_spell_46 rfl ?_
          refine g_top (v' := vL (sh2 a (226 + (17 * p)) i)) (congrArg (fun z_ : Int => vL z_) (show (sh2 a (226 + (17 * p)) i) = (a (((226 + (17 * p)) + (2 * i)) + 0)) by unfold sh2; congr 1; omega)) ?_
          refine g_callV C (b := (Q 0)) (mc := 0) (ms := 0) (rm := rm_K_m_wnum) (As := [vL (sh2 a (226 + (17 * p)) i)]) (wc := [((Q 0), .inr (12, [vR (Q 1), vR (Q 2), vR (Q 3), vR (Q 4), vR (Q 5), vI pn, vR (Q 6), vL f0, vL f1, vL f2, vL f3, vL px, vL py, vL pb, vI rg, vI wr, vR (Q 7), vI rn, vR (Q 8), vI k9])), ((Q 8), cI E 120 u9)]) (wr := [((Q 1), cL E 310 a), ((Q 2), cL E 310 s2), ((Q 3), cL E 620 s3), ((Q 4), cZ E 2 s4), ((Q 5), cI E 80 tx), ((Q 6), cI E 24 cosT), ((Q 7), cI E 16 rr)]) (st := []) gX11_spell_X11_writeNumber (q9 := 0) (ci := 12) rfl rfl rfl (K_m_wnum l E Q pn f0 f1 f2 f3 px py pb rg wr rn k9 u9 ((if i = 0 then spT a p (Int.toNat i) else spT a p (Int.toNat i) ++ [47])) (sh2 a (226 + (17 * p)) i) sT0 sl0 (by omega) pc9.1) hyd_X11_writeNumber rfl [0, 8] [1, 2, 3, 4, 5, 6, 7] rfl rfl rfl rfl rfl (by decide) ⟨rfl, rfl⟩ ⟨Nat.le_of_ble_eq_true rfl, Nat.le_of_ble_eq_true rfl, Nat.le_of_ble_eq_true rfl, Nat.le_of_ble_eq_true rfl⟩ (Nat.le_of_ble_eq_true rfl) dX11_spell_47 (rfl : _ = 0) (rfl : _ = 0) rfl ?_
          rintro _ _ ⟨u9_6, rfl, rfl, f_7⟩
          refine g_is (ws' := [((Q 1), cL E 310 a), ((Q 2), cL E 310 s2), ((Q 3), cL E 620 s3), ((Q 4), cZ E 2 s4), ((Q 5), cI E 80 tx), ((Q 6), cI E 24 cosT), ((Q 7), cI E 16 rr), ((Q 0), .inr (12, [vR (Q 1), vR (Q 2), vR (Q 3), vR (Q 4), vR (Q 5), vI pn, vR (Q 6), vL f0, vL f1, vL f2, vL f3, vL px, vL py, vL pb, vI rg, vI wr, vR (Q 7), vI rn, vR (Q 8), vI (k9 + (dlen (sh2 a (226 + (17 * p)) i)))])), ((Q 8), cI E 120 u9_6)]) (st' := []) rfl rfl ?_
          refine g_sub (ws' := [((Q 0), .inr (12, [vR (Q 1), vR (Q 2), vR (Q 3), vR (Q 4), vR (Q 5), vI pn, vR (Q 6), vL f0, vL f1, vL f2, vL f3, vL px, vL py, vL pb, vI rg, vI wr, vR (Q 7), vI rn, vR (Q 8), vI (k9 + (dlen (sh2 a (226 + (17 * p)) i)))])), ((Q 1), cL E 310 a), ((Q 2), cL E 310 s2), ((Q 3), cL E 620 s3), ((Q 4), cZ E 2 s4), ((Q 5), cI E 80 tx), ((Q 6), cI E 24 cosT), ((Q 7), cI E 16 rr), ((Q 8), cI E 120 u9_6)]) [7, 0, 1, 2, 3, 4, 5, 6, 8] rfl rfl rfl ?_
          have sl_8 : (k9 + (dlen (sh2 a (226 + (17 * p)) i))) = (((if i = 0 then spT a p (Int.toNat i) else spT a p (Int.toNat i) ++ [47]) ++ dgs (sh2 a (226 + 17 * p) i)).length : Int) := len_d sl0
          refine g_aload_n C 0 rfl dX11_spell_50 rfl ?_
          refine g_bipush C (by decide) dX11_spell_51 rfl ?_
          refine g_callV C (b := (Q 0)) (mc := 0) (ms := 0) (rm := rm_K_m_write) (As := [vI 44]) (wc := [((Q 0), .inr (12, [vR (Q 1), vR (Q 2), vR (Q 3), vR (Q 4), vR (Q 5), vI pn, vR (Q 6), vL f0, vL f1, vL f2, vL f3, vL px, vL py, vL pb, vI rg, vI wr, vR (Q 7), vI rn, vR (Q 8), vI (k9 + (dlen (sh2 a (226 + (17 * p)) i)))])), ((Q 8), cI E 120 u9_6)]) (wr := [((Q 1), cL E 310 a), ((Q 2), cL E 310 s2), ((Q 3), cL E 620 s3), ((Q 4), cZ E 2 s4), ((Q 5), cI E 80 tx), ((Q 6), cI E 24 cosT), ((Q 7), cI E 16 rr)]) (st := []) gX11_spell_X11_write (q9 := 0) (ci := 12) rfl rfl rfl (K_m_write l E Q pn f0 f1 f2 f3 px py pb rg wr rn (k9 + (dlen (sh2 a (226 + (17 * p)) i))) u9_6 (((if i = 0 then spT a p (Int.toNat i) else spT a p (Int.toNat i) ++ [47]) ++ dgs (sh2 a (226 + 17 * p) i))) 44 f_7 sl_8 (by omega)) hyd_X11_write rfl [0, 8] [1, 2, 3, 4, 5, 6, 7] rfl rfl rfl rfl rfl (by decide) ⟨rfl, rfl⟩ ⟨Nat.le_of_ble_eq_true rfl, Nat.le_of_ble_eq_true rfl, Nat.le_of_ble_eq_true rfl, Nat.le_of_ble_eq_true rfl⟩ (Nat.le_of_ble_eq_true rfl) dX11_spell_53 (rfl : _ = 0) (rfl : _ = 0) rfl ?_
          rintro _ _ ⟨rfl, rfl, f_9⟩
          refine g_is (ws' := [((Q 1), cL E 310 a), ((Q 2), cL E 310 s2), ((Q 3), cL E 620 s3), ((Q 4), cZ E 2 s4), ((Q 5), cI E 80 tx), ((Q 6), cI E 24 cosT), ((Q 7), cI E 16 rr), ((Q 0), .inr (12, [vR (Q 1), vR (Q 2), vR (Q 3), vR (Q 4), vR (Q 5), vI pn, vR (Q 6), vL f0, vL f1, vL f2, vL f3, vL px, vL py, vL pb, vI rg, vI wr, vR (Q 7), vI rn, vR (Q 8), vI ((k9 + (dlen (sh2 a (226 + (17 * p)) i))) + 1)])), ((Q 8), cI E 120 (ua u9_6 (k9 + (dlen (sh2 a (226 + (17 * p)) i))) 44))]) (st' := []) rfl rfl ?_
          refine g_sub (ws' := [((Q 0), .inr (12, [vR (Q 1), vR (Q 2), vR (Q 3), vR (Q 4), vR (Q 5), vI pn, vR (Q 6), vL f0, vL f1, vL f2, vL f3, vL px, vL py, vL pb, vI rg, vI wr, vR (Q 7), vI rn, vR (Q 8), vI ((k9 + (dlen (sh2 a (226 + (17 * p)) i))) + 1)])), ((Q 1), cL E 310 a), ((Q 2), cL E 310 s2), ((Q 3), cL E 620 s3), ((Q 4), cZ E 2 s4), ((Q 5), cI E 80 tx), ((Q 6), cI E 24 cosT), ((Q 7), cI E 16 rr), ((Q 8), cI E 120 (ua u9_6 (k9 + (dlen (sh2 a (226 + (17 * p)) i))) 44))]) [7, 0, 1, 2, 3, 4, 5, 6, 8] rfl rfl rfl ?_
          have sl_10 : ((k9 + (dlen (sh2 a (226 + (17 * p)) i))) + 1) = ((((if i = 0 then spT a p (Int.toNat i) else spT a p (Int.toNat i) ++ [47]) ++ dgs (sh2 a (226 + 17 * p) i)) ++ [44]).length : Int) := len_1 sl_8
          refine g_aload_n C 0 rfl dX11_spell_56 rfl ?_
          refine g_aload_n C 0 rfl dX11_spell_57 rfl ?_
          refine g_get C 0 fd_X11_spell_7 rfl rfl rfl dX11_spell_58 rfl ?_
          refine g_iload_n C 1 rfl dX11_spell_61 rfl ?_
          refine g_iload_n C 3 rfl dX11_spell_62 rfl ?_
          refine g_iconst C dX11_spell_63 rfl ?_
          refine g_callS C (mc := 0) (ms := 0) (rm := rm_K_m_cornerAt) (As := [vI p, vI i, vI 1]) (wc := []) (wr := [((Q 0), .inr (12, [vR (Q 1), vR (Q 2), vR (Q 3), vR (Q 4), vR (Q 5), vI pn, vR (Q 6), vL f0, vL f1, vL f2, vL f3, vL px, vL py, vL pb, vI rg, vI wr, vR (Q 7), vI rn, vR (Q 8), vI ((k9 + (dlen (sh2 a (226 + (17 * p)) i))) + 1)])), ((Q 1), cL E 310 a), ((Q 2), cL E 310 s2), ((Q 3), cL E 620 s3), ((Q 4), cZ E 2 s4), ((Q 5), cI E 80 tx), ((Q 6), cI E 24 cosT), ((Q 7), cI E 16 rr), ((Q 8), cI E 120 (ua u9_6 (k9 + (dlen (sh2 a (226 + (17 * p)) i))) 44))]) (st := [vR (Q 1), vR (Q 0)]) gX11_spell_X11_cornerAt rfl (K_m_cornerAt l E p i 1 ) hyd_X11_cornerAt rfl [] [0, 1, 2, 3, 4, 5, 6, 7, 8] rfl rfl rfl rfl rfl (by decide) ⟨rfl, rfl⟩ ⟨Nat.le_of_ble_eq_true rfl, Nat.le_of_ble_eq_true rfl, Nat.le_of_ble_eq_true rfl, Nat.le_of_ble_eq_true rfl⟩ (Nat.le_of_ble_eq_true rfl) dX11_spell_64 (rfl : _ = 0) (rfl : _ = 0) rfl ?_
          rintro _ _ ⟨rfl, rfl⟩
          refine g_is (ws' := [((Q 0), .inr (12, [vR (Q 1), vR (Q 2), vR (Q 3), vR (Q 4), vR (Q 5), vI pn, vR (Q 6), vL f0, vL f1, vL f2, vL f3, vL px, vL py, vL pb, vI rg, vI wr, vR (Q 7), vI rn, vR (Q 8), vI ((k9 + (dlen (sh2 a (226 + (17 * p)) i))) + 1)])), ((Q 1), cL E 310 a), ((Q 2), cL E 310 s2), ((Q 3), cL E 620 s3), ((Q 4), cZ E 2 s4), ((Q 5), cI E 80 tx), ((Q 6), cI E 24 cosT), ((Q 7), cI E 16 rr), ((Q 8), cI E 120 (ua u9_6 (k9 + (dlen (sh2 a (226 + (17 * p)) i))) 44))]) (st' := [vI (((226 + (17 * p)) + (2 * i)) + 1), vR (Q 1), vR (Q 0)]) rfl rfl ?_
          refine g_lald C 1 rfl (by omega) (by omega) (by decide) rfl dX11_spell_67 rfl ?_
          refine g_top (v' := vL (sh2 a (227 + (17 * p)) i)) (congrArg (fun z_ : Int => vL z_) (show (sh2 a (227 + (17 * p)) i) = (a (((226 + (17 * p)) + (2 * i)) + 1)) by unfold sh2; congr 1; omega)) ?_
          refine g_callV C (b := (Q 0)) (mc := 0) (ms := 0) (rm := rm_K_m_wnum) (As := [vL (sh2 a (227 + (17 * p)) i)]) (wc := [((Q 0), .inr (12, [vR (Q 1), vR (Q 2), vR (Q 3), vR (Q 4), vR (Q 5), vI pn, vR (Q 6), vL f0, vL f1, vL f2, vL f3, vL px, vL py, vL pb, vI rg, vI wr, vR (Q 7), vI rn, vR (Q 8), vI ((k9 + (dlen (sh2 a (226 + (17 * p)) i))) + 1)])), ((Q 8), cI E 120 (ua u9_6 (k9 + (dlen (sh2 a (226 + (17 * p)) i))) 44))]) (wr := [((Q 1), cL E 310 a), ((Q 2), cL E 310 s2), ((Q 3), cL E 620 s3), ((Q 4), cZ E 2 s4), ((Q 5), cI E 80 tx), ((Q 6), cI E 24 cosT), ((Q 7), cI E 16 rr)]) (st := []) gX11_spell_X11_writeNumber (q9 := 0) (ci := 12) rfl rfl rfl (K_m_wnum l E Q pn f0 f1 f2 f3 px py pb rg wr rn ((k9 + (dlen (sh2 a (226 + (17 * p)) i))) + 1) (ua u9_6 (k9 + (dlen (sh2 a (226 + (17 * p)) i))) 44) ((((if i = 0 then spT a p (Int.toNat i) else spT a p (Int.toNat i) ++ [47]) ++ dgs (sh2 a (226 + 17 * p) i)) ++ [44])) (sh2 a (227 + (17 * p)) i) f_9 sl_10 (by omega) pc9.2) hyd_X11_writeNumber rfl [0, 8] [1, 2, 3, 4, 5, 6, 7] rfl rfl rfl rfl rfl (by decide) ⟨rfl, rfl⟩ ⟨Nat.le_of_ble_eq_true rfl, Nat.le_of_ble_eq_true rfl, Nat.le_of_ble_eq_true rfl, Nat.le_of_ble_eq_true rfl⟩ (Nat.le_of_ble_eq_true rfl) dX11_spell_68 (rfl : _ = 0) (rfl : _ = 0) rfl ?_
          rintro _ _ ⟨u9_11, rfl, rfl, f_12⟩
          refine g_is (ws' := [((Q 1), cL E 310 a), ((Q 2), cL E 310 s2), ((Q 3), cL E 620 s3), ((Q 4), cZ E 2 s4), ((Q 5), cI E 80 tx), ((Q 6), cI E 24 cosT), ((Q 7), cI E 16 rr), ((Q 0), .inr (12, [vR (Q 1), vR (Q 2), vR (Q 3), vR (Q 4), vR (Q 5), vI pn, vR (Q 6), vL f0, vL f1, vL f2, vL f3, vL px, vL py, vL pb, vI rg, vI wr, vR (Q 7), vI rn, vR (Q 8), vI (((k9 + (dlen (sh2 a (226 + (17 * p)) i))) + 1) + (dlen (sh2 a (227 + (17 * p)) i)))])), ((Q 8), cI E 120 u9_11)]) (st' := []) rfl rfl ?_
          refine g_sub (ws' := [((Q 0), .inr (12, [vR (Q 1), vR (Q 2), vR (Q 3), vR (Q 4), vR (Q 5), vI pn, vR (Q 6), vL f0, vL f1, vL f2, vL f3, vL px, vL py, vL pb, vI rg, vI wr, vR (Q 7), vI rn, vR (Q 8), vI (((k9 + (dlen (sh2 a (226 + (17 * p)) i))) + 1) + (dlen (sh2 a (227 + (17 * p)) i)))])), ((Q 1), cL E 310 a), ((Q 2), cL E 310 s2), ((Q 3), cL E 620 s3), ((Q 4), cZ E 2 s4), ((Q 5), cI E 80 tx), ((Q 6), cI E 24 cosT), ((Q 7), cI E 16 rr), ((Q 8), cI E 120 u9_11)]) [7, 0, 1, 2, 3, 4, 5, 6, 8] rfl rfl rfl ?_
          have sl_13 : (((k9 + (dlen (sh2 a (226 + (17 * p)) i))) + 1) + (dlen (sh2 a (227 + (17 * p)) i))) = (((((if i = 0 then spT a p (Int.toNat i) else spT a p (Int.toNat i) ++ [47]) ++ dgs (sh2 a (226 + 17 * p) i)) ++ [44]) ++ dgs (sh2 a (227 + 17 * p) i)).length : Int) := len_d sl_10
          refine g_iinc C (r := (i + 1)) (lv' := [(0, vR (Q 0)), (1, vI p), (2, vI q), (3, vI (i + 1))]) 3 [1, 2, 3, 0] rfl rfl (by decide) rfl rfl dX11_spell_71 rfl ?_
          refine g_goto C (pc' := 16) dX11_spell_74 (by decide) ?_
          exact ih _ (by omega) (i + 1) (((k9 + (dlen (sh2 a (226 + (17 * p)) i))) + 1) + (dlen (sh2 a (227 + (17 * p)) i))) u9_11 (by omega) (by omega) (by rw [spT_s h0]; exact f_12) (by rw [spT_s h0]; exact sl_13) rfl
        refine g_aload_n C 0 rfl dX11_spell_29 rfl ?_
        refine g_bipush C (by decide) dX11_spell_30 rfl ?_
        refine g_callV C (b := (Q 0)) (mc := 0) (ms := 0) (rm := rm_K_m_write) (As := [vI 47]) (wc := [((Q 0), .inr (12, [vR (Q 1), vR (Q 2), vR (Q 3), vR (Q 4), vR (Q 5), vI pn, vR (Q 6), vL f0, vL f1, vL f2, vL f3, vL px, vL py, vL pb, vI rg, vI wr, vR (Q 7), vI rn, vR (Q 8), vI k9])), ((Q 8), cI E 120 u9)]) (wr := [((Q 1), cL E 310 a), ((Q 2), cL E 310 s2), ((Q 3), cL E 620 s3), ((Q 4), cZ E 2 s4), ((Q 5), cI E 80 tx), ((Q 6), cI E 24 cosT), ((Q 7), cI E 16 rr)]) (st := []) gX11_spell_X11_write (q9 := 0) (ci := 12) rfl rfl rfl (K_m_write l E Q pn f0 f1 f2 f3 px py pb rg wr rn k9 u9 ((spT a p (Int.toNat i))) 47 hTu hlu (by omega)) hyd_X11_write rfl [0, 8] [1, 2, 3, 4, 5, 6, 7] rfl rfl rfl rfl rfl (by decide) ⟨rfl, rfl⟩ ⟨Nat.le_of_ble_eq_true rfl, Nat.le_of_ble_eq_true rfl, Nat.le_of_ble_eq_true rfl, Nat.le_of_ble_eq_true rfl⟩ (Nat.le_of_ble_eq_true rfl) dX11_spell_32 (rfl : _ = 0) (rfl : _ = 0) rfl ?_
        rintro _ _ ⟨rfl, rfl, f_14⟩
        refine g_is (ws' := [((Q 1), cL E 310 a), ((Q 2), cL E 310 s2), ((Q 3), cL E 620 s3), ((Q 4), cZ E 2 s4), ((Q 5), cI E 80 tx), ((Q 6), cI E 24 cosT), ((Q 7), cI E 16 rr), ((Q 0), .inr (12, [vR (Q 1), vR (Q 2), vR (Q 3), vR (Q 4), vR (Q 5), vI pn, vR (Q 6), vL f0, vL f1, vL f2, vL f3, vL px, vL py, vL pb, vI rg, vI wr, vR (Q 7), vI rn, vR (Q 8), vI (k9 + 1)])), ((Q 8), cI E 120 (ua u9 k9 47))]) (st' := []) rfl rfl ?_
        refine g_sub (ws' := [((Q 0), .inr (12, [vR (Q 1), vR (Q 2), vR (Q 3), vR (Q 4), vR (Q 5), vI pn, vR (Q 6), vL f0, vL f1, vL f2, vL f3, vL px, vL py, vL pb, vI rg, vI wr, vR (Q 7), vI rn, vR (Q 8), vI (k9 + 1)])), ((Q 1), cL E 310 a), ((Q 2), cL E 310 s2), ((Q 3), cL E 620 s3), ((Q 4), cZ E 2 s4), ((Q 5), cI E 80 tx), ((Q 6), cI E 24 cosT), ((Q 7), cI E 16 rr), ((Q 8), cI E 120 (ua u9 k9 47))]) [7, 0, 1, 2, 3, 4, 5, 6, 8] rfl rfl rfl ?_
        have sl_15 : (k9 + 1) = (((spT a p (Int.toNat i)) ++ [47]).length : Int) := len_1 hlu
        have sT0 : TX (ua u9 k9 47) (if i = 0 then spT a p (Int.toNat i) else spT a p (Int.toNat i) ++ [47]) := by rw [if_neg (by omega)]; exact f_14
        have sl0 : (k9 + 1) = ((if i = 0 then spT a p (Int.toNat i) else spT a p (Int.toNat i) ++ [47]).length : Int) := by rw [if_neg (by omega)]; exact sl_15
        refine g_aload_n C 0 rfl dX11_spell_35 rfl ?_
        refine g_aload_n C 0 rfl dX11_spell_36 rfl ?_
        refine g_get C 0 fd_X11_spell_7 rfl rfl rfl dX11_spell_37 rfl ?_
        refine g_iload_n C 1 rfl dX11_spell_40 rfl ?_
        refine g_iload_n C 3 rfl dX11_spell_41 rfl ?_
        refine g_iconst C dX11_spell_42 rfl ?_
        refine g_callS C (mc := 0) (ms := 0) (rm := rm_K_m_cornerAt) (As := [vI p, vI i, vI 0]) (wc := []) (wr := [((Q 0), .inr (12, [vR (Q 1), vR (Q 2), vR (Q 3), vR (Q 4), vR (Q 5), vI pn, vR (Q 6), vL f0, vL f1, vL f2, vL f3, vL px, vL py, vL pb, vI rg, vI wr, vR (Q 7), vI rn, vR (Q 8), vI (k9 + 1)])), ((Q 1), cL E 310 a), ((Q 2), cL E 310 s2), ((Q 3), cL E 620 s3), ((Q 4), cZ E 2 s4), ((Q 5), cI E 80 tx), ((Q 6), cI E 24 cosT), ((Q 7), cI E 16 rr), ((Q 8), cI E 120 (ua u9 k9 47))]) (st := [vR (Q 1), vR (Q 0)]) gX11_spell_X11_cornerAt rfl (K_m_cornerAt l E p i 0 ) hyd_X11_cornerAt rfl [] [0, 1, 2, 3, 4, 5, 6, 7, 8] rfl rfl rfl rfl rfl (by decide) ⟨rfl, rfl⟩ ⟨Nat.le_of_ble_eq_true rfl, Nat.le_of_ble_eq_true rfl, Nat.le_of_ble_eq_true rfl, Nat.le_of_ble_eq_true rfl⟩ (Nat.le_of_ble_eq_true rfl) dX11_spell_43 (rfl : _ = 0) (rfl : _ = 0) rfl ?_
        rintro _ _ ⟨rfl, rfl⟩
        refine g_is (ws' := [((Q 0), .inr (12, [vR (Q 1), vR (Q 2), vR (Q 3), vR (Q 4), vR (Q 5), vI pn, vR (Q 6), vL f0, vL f1, vL f2, vL f3, vL px, vL py, vL pb, vI rg, vI wr, vR (Q 7), vI rn, vR (Q 8), vI (k9 + 1)])), ((Q 1), cL E 310 a), ((Q 2), cL E 310 s2), ((Q 3), cL E 620 s3), ((Q 4), cZ E 2 s4), ((Q 5), cI E 80 tx), ((Q 6), cI E 24 cosT), ((Q 7), cI E 16 rr), ((Q 8), cI E 120 (ua u9 k9 47))]) (st' := [vI (((226 + (17 * p)) + (2 * i)) + 0), vR (Q 1), vR (Q 0)]) rfl rfl ?_
        refine g_lald C 1 rfl (by omega) (by omega) (by decide) rfl dX11_spell_46 rfl ?_
        refine g_top (v' := vL (sh2 a (226 + (17 * p)) i)) (congrArg (fun z_ : Int => vL z_) (show (sh2 a (226 + (17 * p)) i) = (a (((226 + (17 * p)) + (2 * i)) + 0)) by unfold sh2; congr 1; omega)) ?_
        refine g_callV C (b := (Q 0)) (mc := 0) (ms := 0) (rm := rm_K_m_wnum) (As := [vL (sh2 a (226 + (17 * p)) i)]) (wc := [((Q 0), .inr (12, [vR (Q 1), vR (Q 2), vR (Q 3), vR (Q 4), vR (Q 5), vI pn, vR (Q 6), vL f0, vL f1, vL f2, vL f3, vL px, vL py, vL pb, vI rg, vI wr, vR (Q 7), vI rn, vR (Q 8), vI (k9 + 1)])), ((Q 8), cI E 120 (ua u9 k9 47))]) (wr := [((Q 1), cL E 310 a), ((Q 2), cL E 310 s2), ((Q 3), cL E 620 s3), ((Q 4), cZ E 2 s4), ((Q 5), cI E 80 tx), ((Q 6), cI E 24 cosT), ((Q 7), cI E 16 rr)]) (st := []) gX11_spell_X11_writeNumber (q9 := 0) (ci := 12) rfl rfl rfl (K_m_wnum l E Q pn f0 f1 f2 f3 px py pb rg wr rn (k9 + 1) (ua u9 k9 47) ((if i = 0 then spT a p (Int.toNat i) else spT a p (Int.toNat i) ++ [47])) (sh2 a (226 + (17 * p)) i) sT0 sl0 (by omega) pc9.1) hyd_X11_writeNumber rfl [0, 8] [1, 2, 3, 4, 5, 6, 7] rfl rfl rfl rfl rfl (by decide) ⟨rfl, rfl⟩ ⟨Nat.le_of_ble_eq_true rfl, Nat.le_of_ble_eq_true rfl, Nat.le_of_ble_eq_true rfl, Nat.le_of_ble_eq_true rfl⟩ (Nat.le_of_ble_eq_true rfl) dX11_spell_47 (rfl : _ = 0) (rfl : _ = 0) rfl ?_
        rintro _ _ ⟨u9_16, rfl, rfl, f_17⟩
        refine g_is (ws' := [((Q 1), cL E 310 a), ((Q 2), cL E 310 s2), ((Q 3), cL E 620 s3), ((Q 4), cZ E 2 s4), ((Q 5), cI E 80 tx), ((Q 6), cI E 24 cosT), ((Q 7), cI E 16 rr), ((Q 0), .inr (12, [vR (Q 1), vR (Q 2), vR (Q 3), vR (Q 4), vR (Q 5), vI pn, vR (Q 6), vL f0, vL f1, vL f2, vL f3, vL px, vL py, vL pb, vI rg, vI wr, vR (Q 7), vI rn, vR (Q 8), vI ((k9 + 1) + (dlen (sh2 a (226 + (17 * p)) i)))])), ((Q 8), cI E 120 u9_16)]) (st' := []) rfl rfl ?_
        refine g_sub (ws' := [((Q 0), .inr (12, [vR (Q 1), vR (Q 2), vR (Q 3), vR (Q 4), vR (Q 5), vI pn, vR (Q 6), vL f0, vL f1, vL f2, vL f3, vL px, vL py, vL pb, vI rg, vI wr, vR (Q 7), vI rn, vR (Q 8), vI ((k9 + 1) + (dlen (sh2 a (226 + (17 * p)) i)))])), ((Q 1), cL E 310 a), ((Q 2), cL E 310 s2), ((Q 3), cL E 620 s3), ((Q 4), cZ E 2 s4), ((Q 5), cI E 80 tx), ((Q 6), cI E 24 cosT), ((Q 7), cI E 16 rr), ((Q 8), cI E 120 u9_16)]) [7, 0, 1, 2, 3, 4, 5, 6, 8] rfl rfl rfl ?_
        have sl_18 : ((k9 + 1) + (dlen (sh2 a (226 + (17 * p)) i))) = (((if i = 0 then spT a p (Int.toNat i) else spT a p (Int.toNat i) ++ [47]) ++ dgs (sh2 a (226 + 17 * p) i)).length : Int) := len_d sl0
        refine g_aload_n C 0 rfl dX11_spell_50 rfl ?_
        refine g_bipush C (by decide) dX11_spell_51 rfl ?_
        refine g_callV C (b := (Q 0)) (mc := 0) (ms := 0) (rm := rm_K_m_write) (As := [vI 44]) (wc := [((Q 0), .inr (12, [vR (Q 1), vR (Q 2), vR (Q 3), vR (Q 4), vR (Q 5), vI pn, vR (Q 6), vL f0, vL f1, vL f2, vL f3, vL px, vL py, vL pb, vI rg, vI wr, vR (Q 7), vI rn, vR (Q 8), vI ((k9 + 1) + (dlen (sh2 a (226 + (17 * p)) i)))])), ((Q 8), cI E 120 u9_16)]) (wr := [((Q 1), cL E 310 a), ((Q 2), cL E 310 s2), ((Q 3), cL E 620 s3), ((Q 4), cZ E 2 s4), ((Q 5), cI E 80 tx), ((Q 6), cI E 24 cosT), ((Q 7), cI E 16 rr)]) (st := []) gX11_spell_X11_write (q9 := 0) (ci := 12) rfl rfl rfl (K_m_write l E Q pn f0 f1 f2 f3 px py pb rg wr rn ((k9 + 1) + (dlen (sh2 a (226 + (17 * p)) i))) u9_16 (((if i = 0 then spT a p (Int.toNat i) else spT a p (Int.toNat i) ++ [47]) ++ dgs (sh2 a (226 + 17 * p) i))) 44 f_17 sl_18 (by omega)) hyd_X11_write rfl [0, 8] [1, 2, 3, 4, 5, 6, 7] rfl rfl rfl rfl rfl (by decide) ⟨rfl, rfl⟩ ⟨Nat.le_of_ble_eq_true rfl, Nat.le_of_ble_eq_true rfl, Nat.le_of_ble_eq_true rfl, Nat.le_of_ble_eq_true rfl⟩ (Nat.le_of_ble_eq_true rfl) dX11_spell_53 (rfl : _ = 0) (rfl : _ = 0) rfl ?_
        rintro _ _ ⟨rfl, rfl, f_19⟩
        refine g_is (ws' := [((Q 1), cL E 310 a), ((Q 2), cL E 310 s2), ((Q 3), cL E 620 s3), ((Q 4), cZ E 2 s4), ((Q 5), cI E 80 tx), ((Q 6), cI E 24 cosT), ((Q 7), cI E 16 rr), ((Q 0), .inr (12, [vR (Q 1), vR (Q 2), vR (Q 3), vR (Q 4), vR (Q 5), vI pn, vR (Q 6), vL f0, vL f1, vL f2, vL f3, vL px, vL py, vL pb, vI rg, vI wr, vR (Q 7), vI rn, vR (Q 8), vI (((k9 + 1) + (dlen (sh2 a (226 + (17 * p)) i))) + 1)])), ((Q 8), cI E 120 (ua u9_16 ((k9 + 1) + (dlen (sh2 a (226 + (17 * p)) i))) 44))]) (st' := []) rfl rfl ?_
        refine g_sub (ws' := [((Q 0), .inr (12, [vR (Q 1), vR (Q 2), vR (Q 3), vR (Q 4), vR (Q 5), vI pn, vR (Q 6), vL f0, vL f1, vL f2, vL f3, vL px, vL py, vL pb, vI rg, vI wr, vR (Q 7), vI rn, vR (Q 8), vI (((k9 + 1) + (dlen (sh2 a (226 + (17 * p)) i))) + 1)])), ((Q 1), cL E 310 a), ((Q 2), cL E 310 s2), ((Q 3), cL E 620 s3), ((Q 4), cZ E 2 s4), ((Q 5), cI E 80 tx), ((Q 6), cI E 24 cosT), ((Q 7), cI E 16 rr), ((Q 8), cI E 120 (ua u9_16 ((k9 + 1) + (dlen (sh2 a (226 + (17 * p)) i))) 44))]) [7, 0, 1, 2, 3, 4, 5, 6, 8] rfl rfl rfl ?_
        have sl_20 : (((k9 + 1) + (dlen (sh2 a (226 + (17 * p)) i))) + 1) = ((((if i = 0 then spT a p (Int.toNat i) else spT a p (Int.toNat i) ++ [47]) ++ dgs (sh2 a (226 + 17 * p) i)) ++ [44]).length : Int) := len_1 sl_18
        refine g_aload_n C 0 rfl dX11_spell_56 rfl ?_
        refine g_aload_n C 0 rfl dX11_spell_57 rfl ?_
        refine g_get C 0 fd_X11_spell_7 rfl rfl rfl dX11_spell_58 rfl ?_
        refine g_iload_n C 1 rfl dX11_spell_61 rfl ?_
        refine g_iload_n C 3 rfl dX11_spell_62 rfl ?_
        refine g_iconst C dX11_spell_63 rfl ?_
        refine g_callS C (mc := 0) (ms := 0) (rm := rm_K_m_cornerAt) (As := [vI p, vI i, vI 1]) (wc := []) (wr := [((Q 0), .inr (12, [vR (Q 1), vR (Q 2), vR (Q 3), vR (Q 4), vR (Q 5), vI pn, vR (Q 6), vL f0, vL f1, vL f2, vL f3, vL px, vL py, vL pb, vI rg, vI wr, vR (Q 7), vI rn, vR (Q 8), vI (((k9 + 1) + (dlen (sh2 a (226 + (17 * p)) i))) + 1)])), ((Q 1), cL E 310 a), ((Q 2), cL E 310 s2), ((Q 3), cL E 620 s3), ((Q 4), cZ E 2 s4), ((Q 5), cI E 80 tx), ((Q 6), cI E 24 cosT), ((Q 7), cI E 16 rr), ((Q 8), cI E 120 (ua u9_16 ((k9 + 1) + (dlen (sh2 a (226 + (17 * p)) i))) 44))]) (st := [vR (Q 1), vR (Q 0)]) gX11_spell_X11_cornerAt rfl (K_m_cornerAt l E p i 1 ) hyd_X11_cornerAt rfl [] [0, 1, 2, 3, 4, 5, 6, 7, 8] rfl rfl rfl rfl rfl (by decide) ⟨rfl, rfl⟩ ⟨Nat.le_of_ble_eq_true rfl, Nat.le_of_ble_eq_true rfl, Nat.le_of_ble_eq_true rfl, Nat.le_of_ble_eq_true rfl⟩ (Nat.le_of_ble_eq_true rfl) dX11_spell_64 (rfl : _ = 0) (rfl : _ = 0) rfl ?_
        rintro _ _ ⟨rfl, rfl⟩
        refine g_is (ws' := [((Q 0), .inr (12, [vR (Q 1), vR (Q 2), vR (Q 3), vR (Q 4), vR (Q 5), vI pn, vR (Q 6), vL f0, vL f1, vL f2, vL f3, vL px, vL py, vL pb, vI rg, vI wr, vR (Q 7), vI rn, vR (Q 8), vI (((k9 + 1) + (dlen (sh2 a (226 + (17 * p)) i))) + 1)])), ((Q 1), cL E 310 a), ((Q 2), cL E 310 s2), ((Q 3), cL E 620 s3), ((Q 4), cZ E 2 s4), ((Q 5), cI E 80 tx), ((Q 6), cI E 24 cosT), ((Q 7), cI E 16 rr), ((Q 8), cI E 120 (ua u9_16 ((k9 + 1) + (dlen (sh2 a (226 + (17 * p)) i))) 44))]) (st' := [vI (((226 + (17 * p)) + (2 * i)) + 1), vR (Q 1), vR (Q 0)]) rfl rfl ?_
        refine g_lald C 1 rfl (by omega) (by omega) (by decide) rfl dX11_spell_67 rfl ?_
        refine g_top (v' := vL (sh2 a (227 + (17 * p)) i)) (congrArg (fun z_ : Int => vL z_) (show (sh2 a (227 + (17 * p)) i) = (a (((226 + (17 * p)) + (2 * i)) + 1)) by unfold sh2; congr 1; omega)) ?_
        refine g_callV C (b := (Q 0)) (mc := 0) (ms := 0) (rm := rm_K_m_wnum) (As := [vL (sh2 a (227 + (17 * p)) i)]) (wc := [((Q 0), .inr (12, [vR (Q 1), vR (Q 2), vR (Q 3), vR (Q 4), vR (Q 5), vI pn, vR (Q 6), vL f0, vL f1, vL f2, vL f3, vL px, vL py, vL pb, vI rg, vI wr, vR (Q 7), vI rn, vR (Q 8), vI (((k9 + 1) + (dlen (sh2 a (226 + (17 * p)) i))) + 1)])), ((Q 8), cI E 120 (ua u9_16 ((k9 + 1) + (dlen (sh2 a (226 + (17 * p)) i))) 44))]) (wr := [((Q 1), cL E 310 a), ((Q 2), cL E 310 s2), ((Q 3), cL E 620 s3), ((Q 4), cZ E 2 s4), ((Q 5), cI E 80 tx), ((Q 6), cI E 24 cosT), ((Q 7), cI E 16 rr)]) (st := []) gX11_spell_X11_writeNumber (q9 := 0) (ci := 12) rfl rfl rfl (K_m_wnum l E Q pn f0 f1 f2 f3 px py pb rg wr rn (((k9 + 1) + (dlen (sh2 a (226 + (17 * p)) i))) + 1) (ua u9_16 ((k9 + 1) + (dlen (sh2 a (226 + (17 * p)) i))) 44) ((((if i = 0 then spT a p (Int.toNat i) else spT a p (Int.toNat i) ++ [47]) ++ dgs (sh2 a (226 + 17 * p) i)) ++ [44])) (sh2 a (227 + (17 * p)) i) f_19 sl_20 (by omega) pc9.2) hyd_X11_writeNumber rfl [0, 8] [1, 2, 3, 4, 5, 6, 7] rfl rfl rfl rfl rfl (by decide) ⟨rfl, rfl⟩ ⟨Nat.le_of_ble_eq_true rfl, Nat.le_of_ble_eq_true rfl, Nat.le_of_ble_eq_true rfl, Nat.le_of_ble_eq_true rfl⟩ (Nat.le_of_ble_eq_true rfl) dX11_spell_68 (rfl : _ = 0) (rfl : _ = 0) rfl ?_
        rintro _ _ ⟨u9_21, rfl, rfl, f_22⟩
        refine g_is (ws' := [((Q 1), cL E 310 a), ((Q 2), cL E 310 s2), ((Q 3), cL E 620 s3), ((Q 4), cZ E 2 s4), ((Q 5), cI E 80 tx), ((Q 6), cI E 24 cosT), ((Q 7), cI E 16 rr), ((Q 0), .inr (12, [vR (Q 1), vR (Q 2), vR (Q 3), vR (Q 4), vR (Q 5), vI pn, vR (Q 6), vL f0, vL f1, vL f2, vL f3, vL px, vL py, vL pb, vI rg, vI wr, vR (Q 7), vI rn, vR (Q 8), vI ((((k9 + 1) + (dlen (sh2 a (226 + (17 * p)) i))) + 1) + (dlen (sh2 a (227 + (17 * p)) i)))])), ((Q 8), cI E 120 u9_21)]) (st' := []) rfl rfl ?_
        refine g_sub (ws' := [((Q 0), .inr (12, [vR (Q 1), vR (Q 2), vR (Q 3), vR (Q 4), vR (Q 5), vI pn, vR (Q 6), vL f0, vL f1, vL f2, vL f3, vL px, vL py, vL pb, vI rg, vI wr, vR (Q 7), vI rn, vR (Q 8), vI ((((k9 + 1) + (dlen (sh2 a (226 + (17 * p)) i))) + 1) + (dlen (sh2 a (227 + (17 * p)) i)))])), ((Q 1), cL E 310 a), ((Q 2), cL E 310 s2), ((Q 3), cL E 620 s3), ((Q 4), cZ E 2 s4), ((Q 5), cI E 80 tx), ((Q 6), cI E 24 cosT), ((Q 7), cI E 16 rr), ((Q 8), cI E 120 u9_21)]) [7, 0, 1, 2, 3, 4, 5, 6, 8] rfl rfl rfl ?_
        have sl_23 : ((((k9 + 1) + (dlen (sh2 a (226 + (17 * p)) i))) + 1) + (dlen (sh2 a (227 + (17 * p)) i))) = (((((if i = 0 then spT a p (Int.toNat i) else spT a p (Int.toNat i) ++ [47]) ++ dgs (sh2 a (226 + 17 * p) i)) ++ [44]) ++ dgs (sh2 a (227 + 17 * p) i)).length : Int) := len_d sl_20
        refine g_iinc C (r := (i + 1)) (lv' := [(0, vR (Q 0)), (1, vI p), (2, vI q), (3, vI (i + 1))]) 3 [1, 2, 3, 0] rfl rfl (by decide) rfl rfl dX11_spell_71 rfl ?_
        refine g_goto C (pc' := 16) dX11_spell_74 (by decide) ?_
        exact ih _ (by omega) (i + 1) ((((k9 + 1) + (dlen (sh2 a (226 + (17 * p)) i))) + 1) + (dlen (sh2 a (227 + (17 * p)) i))) u9_21 (by omega) (by omega) (by rw [spT_s h0]; exact f_22) (by rw [spT_s h0]; exact sl_23) rfl
    exact hL_16 _ 0 0 ww (by omega) (by omega) (TX_0 ww) rfl rfl
  refine g_iconst C dX11_spell_7 rfl ?_
  refine g_top (v' := vI (q_spell a p q)) (congrArg (fun z_ : Int => vI z_) (show (q_spell a p q) = (-1) by unfold q_spell; first | (rw [if_neg (by omega)]; done) | (rw [eL, ← hlu, if_pos (by omega), if_pos (by omega)]; done) | (rw [eL, ← hlu, if_pos (by omega), if_neg (by omega), if_neg (by omega)]; done) | (rw [eL, ← hlu, if_pos (by omega), if_neg (by omega), if_pos (by omega)]; exact (TX_d hTu ⟨by omega, by omega⟩).symm))) ?_
  exact g_iret C hr rfl (Nat.le_of_ble_eq_true rfl) (Nat.le_of_ble_eq_true rfl) dX11_spell_8 ⟨wn, ww, rfl, rfl⟩

theorem w_X11_init_oi : Cond.methodLink RX11 1 Lib.objectInit ∈ wsX11_init ∧ Cond.instanceMethod Lib.objectInit ∈ wsX11_init ∧ Cond.code Lib.objectInit ⟨#[0xb1]⟩ 1 none ∈ wsX11_init := ⟨by decide +kernel, by decide +kernel, by decide +kernel⟩
theorem w_X11_init_acl : Cond.arrayClass .long ∈ wsX11_init := by decide +kernel
theorem in_X11_init_X11 : ∀ w ∈ u_ws RX11 TX11 20, w ∈ wsX11_init := by decide +kernel
theorem fd_X11_init_7 : fdk wsX11_init RX11 7 "ZoneRelayModel" RX11 TX11 20 0 := ⟨in_X11_init_X11, by decide +kernel, by decide, rfl⟩
theorem fd_X11_init_13 : fdk wsX11_init RX11 13 "ZoneRelayModel" RX11 TX11 20 1 := ⟨in_X11_init_X11, by decide +kernel, by decide, rfl⟩
theorem fd_X11_init_16 : fdk wsX11_init RX11 16 "ZoneRelayModel" RX11 TX11 20 2 := ⟨in_X11_init_X11, by decide +kernel, by decide, rfl⟩
theorem w_X11_init_acz : Cond.arrayClass .boolean ∈ wsX11_init := by decide +kernel
theorem fd_X11_init_19 : fdk wsX11_init RX11 19 "ZoneRelayModel" RX11 TX11 20 3 := ⟨in_X11_init_X11, by decide +kernel, by decide, rfl⟩
theorem w_X11_init_aci : Cond.arrayClass .int ∈ wsX11_init := by decide +kernel
theorem fd_X11_init_23 : fdk wsX11_init RX11 23 "ZoneRelayModel" RX11 TX11 20 4 := ⟨in_X11_init_X11, by decide +kernel, by decide, rfl⟩
theorem fd_X11_init_27 : fdk wsX11_init RX11 27 "ZoneRelayModel" RX11 TX11 20 6 := ⟨in_X11_init_X11, by decide +kernel, by decide, rfl⟩
theorem fd_X11_init_30 : fdk wsX11_init RX11 30 "ZoneRelayModel" RX11 TX11 20 16 := ⟨in_X11_init_X11, by decide +kernel, by decide, rfl⟩
theorem fd_X11_init_33 : fdk wsX11_init RX11 33 "ZoneRelayModel" RX11 TX11 20 18 := ⟨in_X11_init_X11, by decide +kernel, by decide, rfl⟩
theorem w_X11_init_k36 : Cond.constantLong RX11 36 (10000) ∈ wsX11_init := by decide +kernel
theorem w_X11_init_k38 : Cond.constantLong RX11 38 (100) ∈ wsX11_init := by decide +kernel
theorem w_X11_init_k40 : Cond.constantLong RX11 40 (1000) ∈ wsX11_init := by decide +kernel
theorem w_X11_init_k42 : Cond.constantLong RX11 42 (500) ∈ wsX11_init := by decide +kernel
theorem w_X11_init_k44 : Cond.constantLong RX11 44 (3000) ∈ wsX11_init := by decide +kernel
theorem w_X11_init_k46 : Cond.constantLong RX11 46 (20000) ∈ wsX11_init := by decide +kernel
theorem w_X11_init_k48 : Cond.constantLong RX11 48 (5000) ∈ wsX11_init := by decide +kernel
theorem w_X11_init_k50 : Cond.constantLong RX11 50 (48) ∈ wsX11_init := by decide +kernel
theorem w_X11_init_k52 : Cond.constantLong RX11 52 (24) ∈ wsX11_init := by decide +kernel
theorem w_X11_init_k54 : Cond.constantLong RX11 54 (4) ∈ wsX11_init := by decide +kernel
theorem w_X11_init_k56 : Cond.constantLong RX11 56 (480) ∈ wsX11_init := by decide +kernel
theorem w_X11_init_k58 : Cond.constantLong RX11 58 (1200) ∈ wsX11_init := by decide +kernel
theorem w_X11_init_k60 : Cond.constantLong RX11 60 (-6) ∈ wsX11_init := by decide +kernel
theorem hyd_X11_quarter : yX11_quarter.cls ≠ "java/lang/invoke/MethodHandle" ∧ yX11_quarter.cls ≠ "java/lang/invoke/VarHandle" ∧ (parseMethodDescriptor yX11_quarter.desc).map (fun d => d.parameters.length) = some 1 := by decide +kernel
abbrev rm_M_init : Room := { frames := 1, cells := 8, slots := 1482, locals := 20 }
set_option maxHeartbeats 1000000 in
set_option maxRecDepth 100000 in
theorem M_init (l : Launch) (E : Ev) (h : Nat)  : Mc l yX11_init wsX11_init rm_M_init E [vR h] [(h, .inr (12, [.null, .null, .null, .null, .null, vI 0, .null, vL 0, vL 0, vL 0, vL 0, vL 0, vL 0, vL 0, vI 0, vI 0, .null, vI 0, .null, vI 0]))] 8 1482 (fun v9 w9 => ∃ (Q : Nat → Nat), v9 = none ∧ w9 = [((Q 0), .inr (12, [vR (Q 1), vR (Q 2), vR (Q 3), vR (Q 4), vR (Q 5), vI 0, vR (Q 6), vL 0, vL 0, vL 0, vL 0, vL 0, vL 0, vL 0, vI 0, vI 0, vR (Q 7), vI 0, vR (Q 8), vI 0])), ((Q 1), cL E 310 ini), ((Q 2), cL E 310 (fun _ => 0)), ((Q 3), cL E 620 (fun _ => 0)), ((Q 4), cZ E 2 (fun _ => 0)), ((Q 5), cI E 80 (fun _ => 0)), ((Q 6), cI E 24 cosT), ((Q 7), cI E 16 (fun _ => 0)), ((Q 8), cI E 120 (fun _ => 0))] ∧ Q 0 = h) := by
  refine Mc.intro (cc := cX11_init) (maxL := 3) (ret := none) (lv0 := [(0, vR h)]) (by decide +kernel) rfl rfl (Nat.le_of_ble_eq_true rfl) ?_
  intro p9 e9 s9 m9 args9 below9 meth9 c9 A9 C hr hmn
  have C : Cx p9 s9 m9 args9 meth9 c9 E A9 3 cX11_init wsX11_init RX11 := C
  refine g_aload_n C 0 rfl dX11_init_0 rfl ?_
  refine g_objInit C w_X11_init_oi ⟨Nat.le_of_ble_eq_true rfl, Nat.le_of_ble_eq_true rfl⟩ dX11_init_1 rfl ?_
  refine g_aload_n C 0 rfl dX11_init_4 rfl ?_
  refine g_sipush C (by decide) dX11_init_5 rfl ?_
  refine g_newal C (N := 310) (by decide) rfl (by decide) (rfl : _ = 1) (rfl : _ = 310) ⟨by decide, Nat.le_of_ble_eq_true rfl⟩ w_X11_init_acl dX11_init_8 rfl (fun q_1 => ?_)
  refine g_is (ws' := [(h, .inr (12, [.null, .null, .null, .null, .null, vI 0, .null, vL 0, vL 0, vL 0, vL 0, vL 0, vL 0, vL 0, vI 0, vI 0, .null, vI 0, .null, vI 0])), (q_1, cL E 310 (fun _ => 0))]) (st' := [vR q_1, vR h]) rfl rfl ?_
  refine g_putF C hmn tyX11 tyX11_ok nmX11 0 fd_X11_init_7 rfl rfl rfl rfl rfl rfl rfl (Nat.le_of_ble_eq_true rfl) (ws' := [(h, .inr (12, [vR q_1, .null, .null, .null, .null, vI 0, .null, vL 0, vL 0, vL 0, vL 0, vL 0, vL 0, vL 0, vI 0, vI 0, .null, vI 0, .null, vI 0])), (q_1, cL E 310 (fun _ => 0))]) rfl dX11_init_10 rfl ?_
  refine g_aload_n C 0 rfl dX11_init_13 rfl ?_
  refine g_sipush C (by decide) dX11_init_14 rfl ?_
  refine g_newal C (N := 310) (by decide) rfl (by decide) (rfl : _ = 2) (rfl : _ = 620) ⟨by decide, Nat.le_of_ble_eq_true rfl⟩ w_X11_init_acl dX11_init_17 rfl (fun q_2 => ?_)
  refine g_is (ws' := [(h, .inr (12, [vR q_1, .null, .null, .null, .null, vI 0, .null, vL 0, vL 0, vL 0, vL 0, vL 0, vL 0, vL 0, vI 0, vI 0, .null, vI 0, .null, vI 0])), (q_1, cL E 310 (fun _ => 0)), (q_2, cL E 310 (fun _ => 0))]) (st' := [vR q_2, vR h]) rfl rfl ?_
  refine g_putF C hmn tyX11 tyX11_ok nmX11 0 fd_X11_init_13 rfl rfl rfl rfl rfl rfl rfl (Nat.le_of_ble_eq_true rfl) (ws' := [(h, .inr (12, [vR q_1, vR q_2, .null, .null, .null, vI 0, .null, vL 0, vL 0, vL 0, vL 0, vL 0, vL 0, vL 0, vI 0, vI 0, .null, vI 0, .null, vI 0])), (q_1, cL E 310 (fun _ => 0)), (q_2, cL E 310 (fun _ => 0))]) rfl dX11_init_19 rfl ?_
  refine g_aload_n C 0 rfl dX11_init_22 rfl ?_
  refine g_sipush C (by decide) dX11_init_23 rfl ?_
  refine g_newal C (N := 620) (by decide) rfl (by decide) (rfl : _ = 3) (rfl : _ = 1240) ⟨by decide, Nat.le_of_ble_eq_true rfl⟩ w_X11_init_acl dX11_init_26 rfl (fun q_3 => ?_)
  refine g_is (ws' := [(h, .inr (12, [vR q_1, vR q_2, .null, .null, .null, vI 0, .null, vL 0, vL 0, vL 0, vL 0, vL 0, vL 0, vL 0, vI 0, vI 0, .null, vI 0, .null, vI 0])), (q_1, cL E 310 (fun _ => 0)), (q_2, cL E 310 (fun _ => 0)), (q_3, cL E 620 (fun _ => 0))]) (st' := [vR q_3, vR h]) rfl rfl ?_
  refine g_putF C hmn tyX11 tyX11_ok nmX11 0 fd_X11_init_16 rfl rfl rfl rfl rfl rfl rfl (Nat.le_of_ble_eq_true rfl) (ws' := [(h, .inr (12, [vR q_1, vR q_2, vR q_3, .null, .null, vI 0, .null, vL 0, vL 0, vL 0, vL 0, vL 0, vL 0, vL 0, vI 0, vI 0, .null, vI 0, .null, vI 0])), (q_1, cL E 310 (fun _ => 0)), (q_2, cL E 310 (fun _ => 0)), (q_3, cL E 620 (fun _ => 0))]) rfl dX11_init_28 rfl ?_
  refine g_aload_n C 0 rfl dX11_init_31 rfl ?_
  refine g_iconst C dX11_init_32 rfl ?_
  refine g_newaz C (N := 2) (by decide) rfl (by decide) (rfl : _ = 4) (rfl : _ = 1242) ⟨by decide, Nat.le_of_ble_eq_true rfl⟩ w_X11_init_acz dX11_init_33 rfl (fun q_4 => ?_)
  refine g_is (ws' := [(h, .inr (12, [vR q_1, vR q_2, vR q_3, .null, .null, vI 0, .null, vL 0, vL 0, vL 0, vL 0, vL 0, vL 0, vL 0, vI 0, vI 0, .null, vI 0, .null, vI 0])), (q_1, cL E 310 (fun _ => 0)), (q_2, cL E 310 (fun _ => 0)), (q_3, cL E 620 (fun _ => 0)), (q_4, cZ E 2 (fun _ => 0))]) (st' := [vR q_4, vR h]) rfl rfl ?_
  refine g_putF C hmn tyX11 tyX11_ok nmX11 0 fd_X11_init_19 rfl rfl rfl rfl rfl rfl rfl (Nat.le_of_ble_eq_true rfl) (ws' := [(h, .inr (12, [vR q_1, vR q_2, vR q_3, vR q_4, .null, vI 0, .null, vL 0, vL 0, vL 0, vL 0, vL 0, vL 0, vL 0, vI 0, vI 0, .null, vI 0, .null, vI 0])), (q_1, cL E 310 (fun _ => 0)), (q_2, cL E 310 (fun _ => 0)), (q_3, cL E 620 (fun _ => 0)), (q_4, cZ E 2 (fun _ => 0))]) rfl dX11_init_35 rfl ?_
  refine g_aload_n C 0 rfl dX11_init_38 rfl ?_
  refine g_bipush C (by decide) dX11_init_39 rfl ?_
  refine g_newai C (N := 80) (by decide) rfl (by decide) (rfl : _ = 5) (rfl : _ = 1322) ⟨by decide, Nat.le_of_ble_eq_true rfl⟩ w_X11_init_aci dX11_init_41 rfl (fun q_5 => ?_)
  refine g_is (ws' := [(h, .inr (12, [vR q_1, vR q_2, vR q_3, vR q_4, .null, vI 0, .null, vL 0, vL 0, vL 0, vL 0, vL 0, vL 0, vL 0, vI 0, vI 0, .null, vI 0, .null, vI 0])), (q_1, cL E 310 (fun _ => 0)), (q_2, cL E 310 (fun _ => 0)), (q_3, cL E 620 (fun _ => 0)), (q_4, cZ E 2 (fun _ => 0)), (q_5, cI E 80 (fun _ => 0))]) (st' := [vR q_5, vR h]) rfl rfl ?_
  refine g_putF C hmn tyX11 tyX11_ok nmX11 0 fd_X11_init_23 rfl rfl rfl rfl rfl rfl rfl (Nat.le_of_ble_eq_true rfl) (ws' := [(h, .inr (12, [vR q_1, vR q_2, vR q_3, vR q_4, vR q_5, vI 0, .null, vL 0, vL 0, vL 0, vL 0, vL 0, vL 0, vL 0, vI 0, vI 0, .null, vI 0, .null, vI 0])), (q_1, cL E 310 (fun _ => 0)), (q_2, cL E 310 (fun _ => 0)), (q_3, cL E 620 (fun _ => 0)), (q_4, cZ E 2 (fun _ => 0)), (q_5, cI E 80 (fun _ => 0))]) rfl dX11_init_43 rfl ?_
  refine g_aload_n C 0 rfl dX11_init_46 rfl ?_
  refine g_bipush C (by decide) dX11_init_47 rfl ?_
  refine g_newai C (N := 24) (by decide) rfl (by decide) (rfl : _ = 6) (rfl : _ = 1346) ⟨by decide, Nat.le_of_ble_eq_true rfl⟩ w_X11_init_aci dX11_init_49 rfl (fun q_6 => ?_)
  refine g_is (ws' := [(h, .inr (12, [vR q_1, vR q_2, vR q_3, vR q_4, vR q_5, vI 0, .null, vL 0, vL 0, vL 0, vL 0, vL 0, vL 0, vL 0, vI 0, vI 0, .null, vI 0, .null, vI 0])), (q_1, cL E 310 (fun _ => 0)), (q_2, cL E 310 (fun _ => 0)), (q_3, cL E 620 (fun _ => 0)), (q_4, cZ E 2 (fun _ => 0)), (q_5, cI E 80 (fun _ => 0)), (q_6, cI E 24 (fun _ => 0))]) (st' := [vR q_6, vR h]) rfl rfl ?_
  refine g_putF C hmn tyX11 tyX11_ok nmX11 0 fd_X11_init_27 rfl rfl rfl rfl rfl rfl rfl (Nat.le_of_ble_eq_true rfl) (ws' := [(h, .inr (12, [vR q_1, vR q_2, vR q_3, vR q_4, vR q_5, vI 0, vR q_6, vL 0, vL 0, vL 0, vL 0, vL 0, vL 0, vL 0, vI 0, vI 0, .null, vI 0, .null, vI 0])), (q_1, cL E 310 (fun _ => 0)), (q_2, cL E 310 (fun _ => 0)), (q_3, cL E 620 (fun _ => 0)), (q_4, cZ E 2 (fun _ => 0)), (q_5, cI E 80 (fun _ => 0)), (q_6, cI E 24 (fun _ => 0))]) rfl dX11_init_51 rfl ?_
  refine g_aload_n C 0 rfl dX11_init_54 rfl ?_
  refine g_bipush C (by decide) dX11_init_55 rfl ?_
  refine g_newai C (N := 16) (by decide) rfl (by decide) (rfl : _ = 7) (rfl : _ = 1362) ⟨by decide, Nat.le_of_ble_eq_true rfl⟩ w_X11_init_aci dX11_init_57 rfl (fun q_7 => ?_)
  refine g_is (ws' := [(h, .inr (12, [vR q_1, vR q_2, vR q_3, vR q_4, vR q_5, vI 0, vR q_6, vL 0, vL 0, vL 0, vL 0, vL 0, vL 0, vL 0, vI 0, vI 0, .null, vI 0, .null, vI 0])), (q_1, cL E 310 (fun _ => 0)), (q_2, cL E 310 (fun _ => 0)), (q_3, cL E 620 (fun _ => 0)), (q_4, cZ E 2 (fun _ => 0)), (q_5, cI E 80 (fun _ => 0)), (q_6, cI E 24 (fun _ => 0)), (q_7, cI E 16 (fun _ => 0))]) (st' := [vR q_7, vR h]) rfl rfl ?_
  refine g_putF C hmn tyX11 tyX11_ok nmX11 0 fd_X11_init_30 rfl rfl rfl rfl rfl rfl rfl (Nat.le_of_ble_eq_true rfl) (ws' := [(h, .inr (12, [vR q_1, vR q_2, vR q_3, vR q_4, vR q_5, vI 0, vR q_6, vL 0, vL 0, vL 0, vL 0, vL 0, vL 0, vL 0, vI 0, vI 0, vR q_7, vI 0, .null, vI 0])), (q_1, cL E 310 (fun _ => 0)), (q_2, cL E 310 (fun _ => 0)), (q_3, cL E 620 (fun _ => 0)), (q_4, cZ E 2 (fun _ => 0)), (q_5, cI E 80 (fun _ => 0)), (q_6, cI E 24 (fun _ => 0)), (q_7, cI E 16 (fun _ => 0))]) rfl dX11_init_59 rfl ?_
  refine g_aload_n C 0 rfl dX11_init_62 rfl ?_
  refine g_bipush C (by decide) dX11_init_63 rfl ?_
  refine g_newai C (N := 120) (by decide) rfl (by decide) (rfl : _ = 8) (rfl : _ = 1482) ⟨by decide, Nat.le_of_ble_eq_true rfl⟩ w_X11_init_aci dX11_init_65 rfl (fun q_8 => ?_)
  refine g_is (ws' := [(h, .inr (12, [vR q_1, vR q_2, vR q_3, vR q_4, vR q_5, vI 0, vR q_6, vL 0, vL 0, vL 0, vL 0, vL 0, vL 0, vL 0, vI 0, vI 0, vR q_7, vI 0, .null, vI 0])), (q_1, cL E 310 (fun _ => 0)), (q_2, cL E 310 (fun _ => 0)), (q_3, cL E 620 (fun _ => 0)), (q_4, cZ E 2 (fun _ => 0)), (q_5, cI E 80 (fun _ => 0)), (q_6, cI E 24 (fun _ => 0)), (q_7, cI E 16 (fun _ => 0)), (q_8, cI E 120 (fun _ => 0))]) (st' := [vR q_8, vR h]) rfl rfl ?_
  refine g_putF C hmn tyX11 tyX11_ok nmX11 0 fd_X11_init_33 rfl rfl rfl rfl rfl rfl rfl (Nat.le_of_ble_eq_true rfl) (ws' := [(h, .inr (12, [vR q_1, vR q_2, vR q_3, vR q_4, vR q_5, vI 0, vR q_6, vL 0, vL 0, vL 0, vL 0, vL 0, vL 0, vL 0, vI 0, vI 0, vR q_7, vI 0, vR q_8, vI 0])), (q_1, cL E 310 (fun _ => 0)), (q_2, cL E 310 (fun _ => 0)), (q_3, cL E 620 (fun _ => 0)), (q_4, cZ E 2 (fun _ => 0)), (q_5, cI E 80 (fun _ => 0)), (q_6, cI E 24 (fun _ => 0)), (q_7, cI E 16 (fun _ => 0)), (q_8, cI E 120 (fun _ => 0))]) rfl dX11_init_67 rfl ?_
  refine g_aload_n C 0 rfl dX11_init_70 rfl ?_
  refine g_get C 0 fd_X11_init_7 rfl rfl rfl dX11_init_71 rfl ?_
  refine g_bipush C (by decide) dX11_init_74 rfl ?_
  refine g_ldc2 C (x := 10000) w_X11_init_k36 (by decide) dX11_init_76 rfl ?_
  refine g_last C 1 rfl (by decide) (by decide) (by decide) (ws' := [(h, .inr (12, [vR q_1, vR q_2, vR q_3, vR q_4, vR q_5, vI 0, vR q_6, vL 0, vL 0, vL 0, vL 0, vL 0, vL 0, vL 0, vI 0, vI 0, vR q_7, vI 0, vR q_8, vI 0])), (q_1, cL E 310 (ua (fun _ => 0) 14 10000)), (q_2, cL E 310 (fun _ => 0)), (q_3, cL E 620 (fun _ => 0)), (q_4, cZ E 2 (fun _ => 0)), (q_5, cI E 80 (fun _ => 0)), (q_6, cI E 24 (fun _ => 0)), (q_7, cI E 16 (fun _ => 0)), (q_8, cI E 120 (fun _ => 0))]) rfl dX11_init_79 rfl ?_
  refine g_aload_n C 0 rfl dX11_init_80 rfl ?_
  refine g_get C 0 fd_X11_init_7 rfl rfl rfl dX11_init_81 rfl ?_
  refine g_bipush C (by decide) dX11_init_84 rfl ?_
  refine g_ldc2 C (x := 100) w_X11_init_k38 (by decide) dX11_init_86 rfl ?_
  refine g_last C 1 rfl (by decide) (by decide) (by decide) (ws' := [(h, .inr (12, [vR q_1, vR q_2, vR q_3, vR q_4, vR q_5, vI 0, vR q_6, vL 0, vL 0, vL 0, vL 0, vL 0, vL 0, vL 0, vI 0, vI 0, vR q_7, vI 0, vR q_8, vI 0])), (q_1, cL E 310 (ua (ua (fun _ => 0) 14 10000) 15 100)), (q_2, cL E 310 (fun _ => 0)), (q_3, cL E 620 (fun _ => 0)), (q_4, cZ E 2 (fun _ => 0)), (q_5, cI E 80 (fun _ => 0)), (q_6, cI E 24 (fun _ => 0)), (q_7, cI E 16 (fun _ => 0)), (q_8, cI E 120 (fun _ => 0))]) rfl dX11_init_89 rfl ?_
  refine g_aload_n C 0 rfl dX11_init_90 rfl ?_
  refine g_get C 0 fd_X11_init_7 rfl rfl rfl dX11_init_91 rfl ?_
  refine g_bipush C (by decide) dX11_init_94 rfl ?_
  refine g_ldc2 C (x := 1000) w_X11_init_k40 (by decide) dX11_init_96 rfl ?_
  refine g_last C 1 rfl (by decide) (by decide) (by decide) (ws' := [(h, .inr (12, [vR q_1, vR q_2, vR q_3, vR q_4, vR q_5, vI 0, vR q_6, vL 0, vL 0, vL 0, vL 0, vL 0, vL 0, vL 0, vI 0, vI 0, vR q_7, vI 0, vR q_8, vI 0])), (q_1, cL E 310 (ua (ua (ua (fun _ => 0) 14 10000) 15 100) 16 1000)), (q_2, cL E 310 (fun _ => 0)), (q_3, cL E 620 (fun _ => 0)), (q_4, cZ E 2 (fun _ => 0)), (q_5, cI E 80 (fun _ => 0)), (q_6, cI E 24 (fun _ => 0)), (q_7, cI E 16 (fun _ => 0)), (q_8, cI E 120 (fun _ => 0))]) rfl dX11_init_99 rfl ?_
  refine g_aload_n C 0 rfl dX11_init_100 rfl ?_
  refine g_get C 0 fd_X11_init_7 rfl rfl rfl dX11_init_101 rfl ?_
  refine g_bipush C (by decide) dX11_init_104 rfl ?_
  refine g_ldc2 C (x := 500) w_X11_init_k42 (by decide) dX11_init_106 rfl ?_
  refine g_last C 1 rfl (by decide) (by decide) (by decide) (ws' := [(h, .inr (12, [vR q_1, vR q_2, vR q_3, vR q_4, vR q_5, vI 0, vR q_6, vL 0, vL 0, vL 0, vL 0, vL 0, vL 0, vL 0, vI 0, vI 0, vR q_7, vI 0, vR q_8, vI 0])), (q_1, cL E 310 (ua (ua (ua (ua (fun _ => 0) 14 10000) 15 100) 16 1000) 17 500)), (q_2, cL E 310 (fun _ => 0)), (q_3, cL E 620 (fun _ => 0)), (q_4, cZ E 2 (fun _ => 0)), (q_5, cI E 80 (fun _ => 0)), (q_6, cI E 24 (fun _ => 0)), (q_7, cI E 16 (fun _ => 0)), (q_8, cI E 120 (fun _ => 0))]) rfl dX11_init_109 rfl ?_
  refine g_aload_n C 0 rfl dX11_init_110 rfl ?_
  refine g_get C 0 fd_X11_init_7 rfl rfl rfl dX11_init_111 rfl ?_
  refine g_bipush C (by decide) dX11_init_114 rfl ?_
  refine g_ldc2 C (x := 3000) w_X11_init_k44 (by decide) dX11_init_116 rfl ?_
  refine g_last C 1 rfl (by decide) (by decide) (by decide) (ws' := [(h, .inr (12, [vR q_1, vR q_2, vR q_3, vR q_4, vR q_5, vI 0, vR q_6, vL 0, vL 0, vL 0, vL 0, vL 0, vL 0, vL 0, vI 0, vI 0, vR q_7, vI 0, vR q_8, vI 0])), (q_1, cL E 310 (ua (ua (ua (ua (ua (fun _ => 0) 14 10000) 15 100) 16 1000) 17 500) 18 3000)), (q_2, cL E 310 (fun _ => 0)), (q_3, cL E 620 (fun _ => 0)), (q_4, cZ E 2 (fun _ => 0)), (q_5, cI E 80 (fun _ => 0)), (q_6, cI E 24 (fun _ => 0)), (q_7, cI E 16 (fun _ => 0)), (q_8, cI E 120 (fun _ => 0))]) rfl dX11_init_119 rfl ?_
  refine g_aload_n C 0 rfl dX11_init_120 rfl ?_
  refine g_get C 0 fd_X11_init_7 rfl rfl rfl dX11_init_121 rfl ?_
  refine g_bipush C (by decide) dX11_init_124 rfl ?_
  refine g_ldc2 C (x := 20000) w_X11_init_k46 (by decide) dX11_init_126 rfl ?_
  refine g_last C 1 rfl (by decide) (by decide) (by decide) (ws' := [(h, .inr (12, [vR q_1, vR q_2, vR q_3, vR q_4, vR q_5, vI 0, vR q_6, vL 0, vL 0, vL 0, vL 0, vL 0, vL 0, vL 0, vI 0, vI 0, vR q_7, vI 0, vR q_8, vI 0])), (q_1, cL E 310 (ua (ua (ua (ua (ua (ua (fun _ => 0) 14 10000) 15 100) 16 1000) 17 500) 18 3000) 19 20000)), (q_2, cL E 310 (fun _ => 0)), (q_3, cL E 620 (fun _ => 0)), (q_4, cZ E 2 (fun _ => 0)), (q_5, cI E 80 (fun _ => 0)), (q_6, cI E 24 (fun _ => 0)), (q_7, cI E 16 (fun _ => 0)), (q_8, cI E 120 (fun _ => 0))]) rfl dX11_init_129 rfl ?_
  refine g_aload_n C 0 rfl dX11_init_130 rfl ?_
  refine g_get C 0 fd_X11_init_7 rfl rfl rfl dX11_init_131 rfl ?_
  refine g_bipush C (by decide) dX11_init_134 rfl ?_
  refine g_ldc2 C (x := 5000) w_X11_init_k48 (by decide) dX11_init_136 rfl ?_
  refine g_last C 1 rfl (by decide) (by decide) (by decide) (ws' := [(h, .inr (12, [vR q_1, vR q_2, vR q_3, vR q_4, vR q_5, vI 0, vR q_6, vL 0, vL 0, vL 0, vL 0, vL 0, vL 0, vL 0, vI 0, vI 0, vR q_7, vI 0, vR q_8, vI 0])), (q_1, cL E 310 (ua (ua (ua (ua (ua (ua (ua (fun _ => 0) 14 10000) 15 100) 16 1000) 17 500) 18 3000) 19 20000) 20 5000)), (q_2, cL E 310 (fun _ => 0)), (q_3, cL E 620 (fun _ => 0)), (q_4, cZ E 2 (fun _ => 0)), (q_5, cI E 80 (fun _ => 0)), (q_6, cI E 24 (fun _ => 0)), (q_7, cI E 16 (fun _ => 0)), (q_8, cI E 120 (fun _ => 0))]) rfl dX11_init_139 rfl ?_
  refine g_aload_n C 0 rfl dX11_init_140 rfl ?_
  refine g_get C 0 fd_X11_init_7 rfl rfl rfl dX11_init_141 rfl ?_
  refine g_bipush C (by decide) dX11_init_144 rfl ?_
  refine g_ldc2 C (x := 100) w_X11_init_k38 (by decide) dX11_init_146 rfl ?_
  refine g_last C 1 rfl (by decide) (by decide) (by decide) (ws' := [(h, .inr (12, [vR q_1, vR q_2, vR q_3, vR q_4, vR q_5, vI 0, vR q_6, vL 0, vL 0, vL 0, vL 0, vL 0, vL 0, vL 0, vI 0, vI 0, vR q_7, vI 0, vR q_8, vI 0])), (q_1, cL E 310 (ua (ua (ua (ua (ua (ua (ua (ua (fun _ => 0) 14 10000) 15 100) 16 1000) 17 500) 18 3000) 19 20000) 20 5000) 21 100)), (q_2, cL E 310 (fun _ => 0)), (q_3, cL E 620 (fun _ => 0)), (q_4, cZ E 2 (fun _ => 0)), (q_5, cI E 80 (fun _ => 0)), (q_6, cI E 24 (fun _ => 0)), (q_7, cI E 16 (fun _ => 0)), (q_8, cI E 120 (fun _ => 0))]) rfl dX11_init_149 rfl ?_
  refine g_aload_n C 0 rfl dX11_init_150 rfl ?_
  refine g_get C 0 fd_X11_init_7 rfl rfl rfl dX11_init_151 rfl ?_
  refine g_bipush C (by decide) dX11_init_154 rfl ?_
  refine g_ldc2 C (x := 1000) w_X11_init_k40 (by decide) dX11_init_156 rfl ?_
  refine g_last C 1 rfl (by decide) (by decide) (by decide) (ws' := [(h, .inr (12, [vR q_1, vR q_2, vR q_3, vR q_4, vR q_5, vI 0, vR q_6, vL 0, vL 0, vL 0, vL 0, vL 0, vL 0, vL 0, vI 0, vI 0, vR q_7, vI 0, vR q_8, vI 0])), (q_1, cL E 310 (ua (ua (ua (ua (ua (ua (ua (ua (ua (fun _ => 0) 14 10000) 15 100) 16 1000) 17 500) 18 3000) 19 20000) 20 5000) 21 100) 22 1000)), (q_2, cL E 310 (fun _ => 0)), (q_3, cL E 620 (fun _ => 0)), (q_4, cZ E 2 (fun _ => 0)), (q_5, cI E 80 (fun _ => 0)), (q_6, cI E 24 (fun _ => 0)), (q_7, cI E 16 (fun _ => 0)), (q_8, cI E 120 (fun _ => 0))]) rfl dX11_init_159 rfl ?_
  refine g_aload_n C 0 rfl dX11_init_160 rfl ?_
  refine g_get C 0 fd_X11_init_7 rfl rfl rfl dX11_init_161 rfl ?_
  refine g_bipush C (by decide) dX11_init_164 rfl ?_
  refine g_ldc2 C (x := 48) w_X11_init_k50 (by decide) dX11_init_166 rfl ?_
  refine g_last C 1 rfl (by decide) (by decide) (by decide) (ws' := [(h, .inr (12, [vR q_1, vR q_2, vR q_3, vR q_4, vR q_5, vI 0, vR q_6, vL 0, vL 0, vL 0, vL 0, vL 0, vL 0, vL 0, vI 0, vI 0, vR q_7, vI 0, vR q_8, vI 0])), (q_1, cL E 310 (ua (ua (ua (ua (ua (ua (ua (ua (ua (ua (fun _ => 0) 14 10000) 15 100) 16 1000) 17 500) 18 3000) 19 20000) 20 5000) 21 100) 22 1000) 23 48)), (q_2, cL E 310 (fun _ => 0)), (q_3, cL E 620 (fun _ => 0)), (q_4, cZ E 2 (fun _ => 0)), (q_5, cI E 80 (fun _ => 0)), (q_6, cI E 24 (fun _ => 0)), (q_7, cI E 16 (fun _ => 0)), (q_8, cI E 120 (fun _ => 0))]) rfl dX11_init_169 rfl ?_
  refine g_aload_n C 0 rfl dX11_init_170 rfl ?_
  refine g_get C 0 fd_X11_init_7 rfl rfl rfl dX11_init_171 rfl ?_
  refine g_bipush C (by decide) dX11_init_174 rfl ?_
  refine g_ldc2 C (x := 20000) w_X11_init_k46 (by decide) dX11_init_176 rfl ?_
  refine g_last C 1 rfl (by decide) (by decide) (by decide) (ws' := [(h, .inr (12, [vR q_1, vR q_2, vR q_3, vR q_4, vR q_5, vI 0, vR q_6, vL 0, vL 0, vL 0, vL 0, vL 0, vL 0, vL 0, vI 0, vI 0, vR q_7, vI 0, vR q_8, vI 0])), (q_1, cL E 310 (ua (ua (ua (ua (ua (ua (ua (ua (ua (ua (ua (fun _ => 0) 14 10000) 15 100) 16 1000) 17 500) 18 3000) 19 20000) 20 5000) 21 100) 22 1000) 23 48) 24 20000)), (q_2, cL E 310 (fun _ => 0)), (q_3, cL E 620 (fun _ => 0)), (q_4, cZ E 2 (fun _ => 0)), (q_5, cI E 80 (fun _ => 0)), (q_6, cI E 24 (fun _ => 0)), (q_7, cI E 16 (fun _ => 0)), (q_8, cI E 120 (fun _ => 0))]) rfl dX11_init_179 rfl ?_
  refine g_aload_n C 0 rfl dX11_init_180 rfl ?_
  refine g_get C 0 fd_X11_init_7 rfl rfl rfl dX11_init_181 rfl ?_
  refine g_bipush C (by decide) dX11_init_184 rfl ?_
  refine g_ldc2 C (x := 500) w_X11_init_k42 (by decide) dX11_init_186 rfl ?_
  refine g_last C 1 rfl (by decide) (by decide) (by decide) (ws' := [(h, .inr (12, [vR q_1, vR q_2, vR q_3, vR q_4, vR q_5, vI 0, vR q_6, vL 0, vL 0, vL 0, vL 0, vL 0, vL 0, vL 0, vI 0, vI 0, vR q_7, vI 0, vR q_8, vI 0])), (q_1, cL E 310 (ua (ua (ua (ua (ua (ua (ua (ua (ua (ua (ua (ua (fun _ => 0) 14 10000) 15 100) 16 1000) 17 500) 18 3000) 19 20000) 20 5000) 21 100) 22 1000) 23 48) 24 20000) 25 500)), (q_2, cL E 310 (fun _ => 0)), (q_3, cL E 620 (fun _ => 0)), (q_4, cZ E 2 (fun _ => 0)), (q_5, cI E 80 (fun _ => 0)), (q_6, cI E 24 (fun _ => 0)), (q_7, cI E 16 (fun _ => 0)), (q_8, cI E 120 (fun _ => 0))]) rfl dX11_init_189 rfl ?_
  refine g_aload_n C 0 rfl dX11_init_190 rfl ?_
  refine g_get C 0 fd_X11_init_7 rfl rfl rfl dX11_init_191 rfl ?_
  refine g_bipush C (by decide) dX11_init_194 rfl ?_
  refine g_ldc2 C (x := 24) w_X11_init_k52 (by decide) dX11_init_196 rfl ?_
  refine g_last C 1 rfl (by decide) (by decide) (by decide) (ws' := [(h, .inr (12, [vR q_1, vR q_2, vR q_3, vR q_4, vR q_5, vI 0, vR q_6, vL 0, vL 0, vL 0, vL 0, vL 0, vL 0, vL 0, vI 0, vI 0, vR q_7, vI 0, vR q_8, vI 0])), (q_1, cL E 310 (ua (ua (ua (ua (ua (ua (ua (ua (ua (ua (ua (ua (ua (fun _ => 0) 14 10000) 15 100) 16 1000) 17 500) 18 3000) 19 20000) 20 5000) 21 100) 22 1000) 23 48) 24 20000) 25 500) 27 24)), (q_2, cL E 310 (fun _ => 0)), (q_3, cL E 620 (fun _ => 0)), (q_4, cZ E 2 (fun _ => 0)), (q_5, cI E 80 (fun _ => 0)), (q_6, cI E 24 (fun _ => 0)), (q_7, cI E 16 (fun _ => 0)), (q_8, cI E 120 (fun _ => 0))]) rfl dX11_init_199 rfl ?_
  refine g_aload_n C 0 rfl dX11_init_200 rfl ?_
  refine g_get C 0 fd_X11_init_7 rfl rfl rfl dX11_init_201 rfl ?_
  refine g_bipush C (by decide) dX11_init_204 rfl ?_
  refine g_ldc2 C (x := 4) w_X11_init_k54 (by decide) dX11_init_206 rfl ?_
  refine g_last C 1 rfl (by decide) (by decide) (by decide) (ws' := [(h, .inr (12, [vR q_1, vR q_2, vR q_3, vR q_4, vR q_5, vI 0, vR q_6, vL 0, vL 0, vL 0, vL 0, vL 0, vL 0, vL 0, vI 0, vI 0, vR q_7, vI 0, vR q_8, vI 0])), (q_1, cL E 310 (ua (ua (ua (ua (ua (ua (ua (ua (ua (ua (ua (ua (ua (ua (fun _ => 0) 14 10000) 15 100) 16 1000) 17 500) 18 3000) 19 20000) 20 5000) 21 100) 22 1000) 23 48) 24 20000) 25 500) 27 24) 29 4)), (q_2, cL E 310 (fun _ => 0)), (q_3, cL E 620 (fun _ => 0)), (q_4, cZ E 2 (fun _ => 0)), (q_5, cI E 80 (fun _ => 0)), (q_6, cI E 24 (fun _ => 0)), (q_7, cI E 16 (fun _ => 0)), (q_8, cI E 120 (fun _ => 0))]) rfl dX11_init_209 rfl ?_
  refine g_aload_n C 0 rfl dX11_init_210 rfl ?_
  refine g_get C 0 fd_X11_init_7 rfl rfl rfl dX11_init_211 rfl ?_
  refine g_bipush C (by decide) dX11_init_214 rfl ?_
  refine g_ldc2 C (x := 480) w_X11_init_k56 (by decide) dX11_init_216 rfl ?_
  refine g_last C 1 rfl (by decide) (by decide) (by decide) (ws' := [(h, .inr (12, [vR q_1, vR q_2, vR q_3, vR q_4, vR q_5, vI 0, vR q_6, vL 0, vL 0, vL 0, vL 0, vL 0, vL 0, vL 0, vI 0, vI 0, vR q_7, vI 0, vR q_8, vI 0])), (q_1, cL E 310 (ua (ua (ua (ua (ua (ua (ua (ua (ua (ua (ua (ua (ua (ua (ua (fun _ => 0) 14 10000) 15 100) 16 1000) 17 500) 18 3000) 19 20000) 20 5000) 21 100) 22 1000) 23 48) 24 20000) 25 500) 27 24) 29 4) 30 480)), (q_2, cL E 310 (fun _ => 0)), (q_3, cL E 620 (fun _ => 0)), (q_4, cZ E 2 (fun _ => 0)), (q_5, cI E 80 (fun _ => 0)), (q_6, cI E 24 (fun _ => 0)), (q_7, cI E 16 (fun _ => 0)), (q_8, cI E 120 (fun _ => 0))]) rfl dX11_init_219 rfl ?_
  refine g_aload_n C 0 rfl dX11_init_220 rfl ?_
  refine g_get C 0 fd_X11_init_7 rfl rfl rfl dX11_init_221 rfl ?_
  refine g_bipush C (by decide) dX11_init_224 rfl ?_
  refine g_ldc2 C (x := 1200) w_X11_init_k58 (by decide) dX11_init_226 rfl ?_
  refine g_last C 1 rfl (by decide) (by decide) (by decide) (ws' := [(h, .inr (12, [vR q_1, vR q_2, vR q_3, vR q_4, vR q_5, vI 0, vR q_6, vL 0, vL 0, vL 0, vL 0, vL 0, vL 0, vL 0, vI 0, vI 0, vR q_7, vI 0, vR q_8, vI 0])), (q_1, cL E 310 (ua (ua (ua (ua (ua (ua (ua (ua (ua (ua (ua (ua (ua (ua (ua (ua (fun _ => 0) 14 10000) 15 100) 16 1000) 17 500) 18 3000) 19 20000) 20 5000) 21 100) 22 1000) 23 48) 24 20000) 25 500) 27 24) 29 4) 30 480) 31 1200)), (q_2, cL E 310 (fun _ => 0)), (q_3, cL E 620 (fun _ => 0)), (q_4, cZ E 2 (fun _ => 0)), (q_5, cI E 80 (fun _ => 0)), (q_6, cI E 24 (fun _ => 0)), (q_7, cI E 16 (fun _ => 0)), (q_8, cI E 120 (fun _ => 0))]) rfl dX11_init_229 rfl ?_
  refine g_aload_n C 0 rfl dX11_init_230 rfl ?_
  refine g_get C 0 fd_X11_init_7 rfl rfl rfl dX11_init_231 rfl ?_
  refine g_bipush C (by decide) dX11_init_234 rfl ?_
  refine g_ldc2 C (x := (-6)) w_X11_init_k60 (by decide) dX11_init_236 rfl ?_
  refine g_last C 1 rfl (by decide) (by decide) (by decide) (ws' := [(h, .inr (12, [vR q_1, vR q_2, vR q_3, vR q_4, vR q_5, vI 0, vR q_6, vL 0, vL 0, vL 0, vL 0, vL 0, vL 0, vL 0, vI 0, vI 0, vR q_7, vI 0, vR q_8, vI 0])), (q_1, cL E 310 (ua (ua (ua (ua (ua (ua (ua (ua (ua (ua (ua (ua (ua (ua (ua (ua (ua (fun _ => 0) 14 10000) 15 100) 16 1000) 17 500) 18 3000) 19 20000) 20 5000) 21 100) 22 1000) 23 48) 24 20000) 25 500) 27 24) 29 4) 30 480) 31 1200) 97 (-6))), (q_2, cL E 310 (fun _ => 0)), (q_3, cL E 620 (fun _ => 0)), (q_4, cZ E 2 (fun _ => 0)), (q_5, cI E 80 (fun _ => 0)), (q_6, cI E 24 (fun _ => 0)), (q_7, cI E 16 (fun _ => 0)), (q_8, cI E 120 (fun _ => 0))]) rfl dX11_init_239 rfl ?_
  refine g_iconst C dX11_init_240 rfl ?_
  refine g_istore_n C (lv' := [(0, vR h), (1, vI 0)]) [1, 0] (by decide) rfl rfl dX11_init_241 rfl ?_
  refine g_iload_n C 1 rfl dX11_init_242 rfl ?_
  refine g_bipush C (by decide) dX11_init_243 rfl ?_
  refine g_icmp_ge C (tgt := 296) ⟨by decide, by decide⟩ ⟨by decide, by decide⟩ dX11_init_245 (by decide) rfl (fun c_9 => ?_) (fun c_9 => ?_)
  · exact absurd c_9 (by decide)
  refine g_iload_n C 1 rfl dX11_init_248 rfl ?_
  refine g_bipush C (by decide) dX11_init_249 rfl ?_
  refine g_icmp_gt C (tgt := 258) ⟨by decide, by decide⟩ ⟨by decide, by decide⟩ dX11_init_251 (by decide) rfl (fun c_10 => ?_) (fun c_10 => ?_)
  · exact absurd c_10 (by decide)
  refine g_iload_n C 1 rfl dX11_init_254 rfl ?_
  refine g_goto C (pc' := 262) dX11_init_255 (by decide) ?_
  refine g_istore_n C (lv' := [(0, vR h), (1, vI 0), (2, vI 0)]) [1, 2, 0] (by decide) rfl rfl dX11_init_262 rfl ?_
  refine g_aload_n C 0 rfl dX11_init_263 rfl ?_
  refine g_get C 0 fd_X11_init_27 rfl rfl rfl dX11_init_264 rfl ?_
  refine g_iload_n C 1 rfl dX11_init_267 rfl ?_
  refine g_iload_n C 2 rfl dX11_init_268 rfl ?_
  refine g_bipush C (by decide) dX11_init_269 rfl ?_
  refine g_icmp_gt C (tgt := 281) ⟨by decide, by decide⟩ ⟨by decide, by decide⟩ dX11_init_271 (by decide) rfl (fun c_11 => ?_) (fun c_11 => ?_)
  · exact absurd c_11 (by decide)
  refine g_iload_n C 2 rfl dX11_init_274 rfl ?_
  refine g_callS C (mc := 0) (ms := 0) (rm := rm_K_m_quarter) (As := [vI 0]) (wc := []) (wr := [(h, .inr (12, [vR q_1, vR q_2, vR q_3, vR q_4, vR q_5, vI 0, vR q_6, vL 0, vL 0, vL 0, vL 0, vL 0, vL 0, vL 0, vI 0, vI 0, vR q_7, vI 0, vR q_8, vI 0])), (q_1, cL E 310 (ua (ua (ua (ua (ua (ua (ua (ua (ua (ua (ua (ua (ua (ua (ua (ua (ua (fun _ => 0) 14 10000) 15 100) 16 1000) 17 500) 18 3000) 19 20000) 20 5000) 21 100) 22 1000) 23 48) 24 20000) 25 500) 27 24) 29 4) 30 480) 31 1200) 97 (-6))), (q_2, cL E 310 (fun _ => 0)), (q_3, cL E 620 (fun _ => 0)), (q_4, cZ E 2 (fun _ => 0)), (q_5, cI E 80 (fun _ => 0)), (q_6, cI E 24 (fun _ => 0)), (q_7, cI E 16 (fun _ => 0)), (q_8, cI E 120 (fun _ => 0))]) (st := [vI 0, vR q_6]) gX11_init_X11_quarter rfl (K_m_quarter l E 0 (by first | assumption | omega)) hyd_X11_quarter rfl [] [0, 1, 2, 3, 4, 5, 6, 7, 8] rfl rfl rfl rfl rfl (by decide) ⟨rfl, rfl⟩ ⟨Nat.le_of_ble_eq_true rfl, Nat.le_of_ble_eq_true rfl, Nat.le_of_ble_eq_true rfl, Nat.le_of_ble_eq_true rfl⟩ (Nat.le_of_ble_eq_true rfl) dX11_init_275 (rfl : _ = 8) (rfl : _ = 1482) rfl ?_
  rintro _ _ ⟨rfl, rfl⟩
  refine g_is (ws' := [(h, .inr (12, [vR q_1, vR q_2, vR q_3, vR q_4, vR q_5, vI 0, vR q_6, vL 0, vL 0, vL 0, vL 0, vL 0, vL 0, vL 0, vI 0, vI 0, vR q_7, vI 0, vR q_8, vI 0])), (q_1, cL E 310 (ua (ua (ua (ua (ua (ua (ua (ua (ua (ua (ua (ua (ua (ua (ua (ua (ua (fun _ => 0) 14 10000) 15 100) 16 1000) 17 500) 18 3000) 19 20000) 20 5000) 21 100) 22 1000) 23 48) 24 20000) 25 500) 27 24) 29 4) 30 480) 31 1200) 97 (-6))), (q_2, cL E 310 (fun _ => 0)), (q_3, cL E 620 (fun _ => 0)), (q_4, cZ E 2 (fun _ => 0)), (q_5, cI E 80 (fun _ => 0)), (q_6, cI E 24 (fun _ => 0)), (q_7, cI E 16 (fun _ => 0)), (q_8, cI E 120 (fun _ => 0))]) (st' := [vI (cosT 0), vI 0, vR q_6]) rfl rfl ?_
  refine g_goto C (pc' := 289) dX11_init_278 (by decide) ?_
  refine g_iast C 6 rfl (by decide) (by decide) (by decide) (ws' := [(h, .inr (12, [vR q_1, vR q_2, vR q_3, vR q_4, vR q_5, vI 0, vR q_6, vL 0, vL 0, vL 0, vL 0, vL 0, vL 0, vL 0, vI 0, vI 0, vR q_7, vI 0, vR q_8, vI 0])), (q_1, cL E 310 (ua (ua (ua (ua (ua (ua (ua (ua (ua (ua (ua (ua (ua (ua (ua (ua (ua (fun _ => 0) 14 10000) 15 100) 16 1000) 17 500) 18 3000) 19 20000) 20 5000) 21 100) 22 1000) 23 48) 24 20000) 25 500) 27 24) 29 4) 30 480) 31 1200) 97 (-6))), (q_2, cL E 310 (fun _ => 0)), (q_3, cL E 620 (fun _ => 0)), (q_4, cZ E 2 (fun _ => 0)), (q_5, cI E 80 (fun _ => 0)), (q_6, cI E 24 (ua (fun _ => 0) 0 (cosT 0))), (q_7, cI E 16 (fun _ => 0)), (q_8, cI E 120 (fun _ => 0))]) rfl dX11_init_289 rfl ?_
  refine g_iinc C (r := 1) (lv' := [(0, vR h), (1, vI 1), (2, vI 0)]) 1 [1, 0, 2] rfl (by decide) (by decide) rfl rfl dX11_init_290 rfl ?_
  refine g_goto C (pc' := 242) dX11_init_293 (by decide) ?_
  refine g_iload_n C 1 rfl dX11_init_242 rfl ?_
  refine g_bipush C (by decide) dX11_init_243 rfl ?_
  refine g_icmp_ge C (tgt := 296) ⟨by decide, by decide⟩ ⟨by decide, by decide⟩ dX11_init_245 (by decide) rfl (fun c_12 => ?_) (fun c_12 => ?_)
  · exact absurd c_12 (by decide)
  refine g_iload_n C 1 rfl dX11_init_248 rfl ?_
  refine g_bipush C (by decide) dX11_init_249 rfl ?_
  refine g_icmp_gt C (tgt := 258) ⟨by decide, by decide⟩ ⟨by decide, by decide⟩ dX11_init_251 (by decide) rfl (fun c_13 => ?_) (fun c_13 => ?_)
  · exact absurd c_13 (by decide)
  refine g_iload_n C 1 rfl dX11_init_254 rfl ?_
  refine g_goto C (pc' := 262) dX11_init_255 (by decide) ?_
  refine g_istore_n C (lv' := [(0, vR h), (1, vI 1), (2, vI 1)]) [1, 2, 0] (by decide) rfl rfl dX11_init_262 rfl ?_
  refine g_aload_n C 0 rfl dX11_init_263 rfl ?_
  refine g_get C 0 fd_X11_init_27 rfl rfl rfl dX11_init_264 rfl ?_
  refine g_iload_n C 1 rfl dX11_init_267 rfl ?_
  refine g_iload_n C 2 rfl dX11_init_268 rfl ?_
  refine g_bipush C (by decide) dX11_init_269 rfl ?_
  refine g_icmp_gt C (tgt := 281) ⟨by decide, by decide⟩ ⟨by decide, by decide⟩ dX11_init_271 (by decide) rfl (fun c_14 => ?_) (fun c_14 => ?_)
  · exact absurd c_14 (by decide)
  refine g_iload_n C 2 rfl dX11_init_274 rfl ?_
  refine g_callS C (mc := 0) (ms := 0) (rm := rm_K_m_quarter) (As := [vI 1]) (wc := []) (wr := [(h, .inr (12, [vR q_1, vR q_2, vR q_3, vR q_4, vR q_5, vI 0, vR q_6, vL 0, vL 0, vL 0, vL 0, vL 0, vL 0, vL 0, vI 0, vI 0, vR q_7, vI 0, vR q_8, vI 0])), (q_1, cL E 310 (ua (ua (ua (ua (ua (ua (ua (ua (ua (ua (ua (ua (ua (ua (ua (ua (ua (fun _ => 0) 14 10000) 15 100) 16 1000) 17 500) 18 3000) 19 20000) 20 5000) 21 100) 22 1000) 23 48) 24 20000) 25 500) 27 24) 29 4) 30 480) 31 1200) 97 (-6))), (q_2, cL E 310 (fun _ => 0)), (q_3, cL E 620 (fun _ => 0)), (q_4, cZ E 2 (fun _ => 0)), (q_5, cI E 80 (fun _ => 0)), (q_6, cI E 24 (ua (fun _ => 0) 0 (cosT 0))), (q_7, cI E 16 (fun _ => 0)), (q_8, cI E 120 (fun _ => 0))]) (st := [vI 1, vR q_6]) gX11_init_X11_quarter rfl (K_m_quarter l E 1 (by first | assumption | omega)) hyd_X11_quarter rfl [] [0, 1, 2, 3, 4, 5, 6, 7, 8] rfl rfl rfl rfl rfl (by decide) ⟨rfl, rfl⟩ ⟨Nat.le_of_ble_eq_true rfl, Nat.le_of_ble_eq_true rfl, Nat.le_of_ble_eq_true rfl, Nat.le_of_ble_eq_true rfl⟩ (Nat.le_of_ble_eq_true rfl) dX11_init_275 (rfl : _ = 8) (rfl : _ = 1482) rfl ?_
  rintro _ _ ⟨rfl, rfl⟩
  refine g_is (ws' := [(h, .inr (12, [vR q_1, vR q_2, vR q_3, vR q_4, vR q_5, vI 0, vR q_6, vL 0, vL 0, vL 0, vL 0, vL 0, vL 0, vL 0, vI 0, vI 0, vR q_7, vI 0, vR q_8, vI 0])), (q_1, cL E 310 (ua (ua (ua (ua (ua (ua (ua (ua (ua (ua (ua (ua (ua (ua (ua (ua (ua (fun _ => 0) 14 10000) 15 100) 16 1000) 17 500) 18 3000) 19 20000) 20 5000) 21 100) 22 1000) 23 48) 24 20000) 25 500) 27 24) 29 4) 30 480) 31 1200) 97 (-6))), (q_2, cL E 310 (fun _ => 0)), (q_3, cL E 620 (fun _ => 0)), (q_4, cZ E 2 (fun _ => 0)), (q_5, cI E 80 (fun _ => 0)), (q_6, cI E 24 (ua (fun _ => 0) 0 (cosT 0))), (q_7, cI E 16 (fun _ => 0)), (q_8, cI E 120 (fun _ => 0))]) (st' := [vI (cosT 1), vI 1, vR q_6]) rfl rfl ?_
  refine g_goto C (pc' := 289) dX11_init_278 (by decide) ?_
  refine g_iast C 6 rfl (by decide) (by decide) (by decide) (ws' := [(h, .inr (12, [vR q_1, vR q_2, vR q_3, vR q_4, vR q_5, vI 0, vR q_6, vL 0, vL 0, vL 0, vL 0, vL 0, vL 0, vL 0, vI 0, vI 0, vR q_7, vI 0, vR q_8, vI 0])), (q_1, cL E 310 (ua (ua (ua (ua (ua (ua (ua (ua (ua (ua (ua (ua (ua (ua (ua (ua (ua (fun _ => 0) 14 10000) 15 100) 16 1000) 17 500) 18 3000) 19 20000) 20 5000) 21 100) 22 1000) 23 48) 24 20000) 25 500) 27 24) 29 4) 30 480) 31 1200) 97 (-6))), (q_2, cL E 310 (fun _ => 0)), (q_3, cL E 620 (fun _ => 0)), (q_4, cZ E 2 (fun _ => 0)), (q_5, cI E 80 (fun _ => 0)), (q_6, cI E 24 (ua (ua (fun _ => 0) 0 (cosT 0)) 1 (cosT 1))), (q_7, cI E 16 (fun _ => 0)), (q_8, cI E 120 (fun _ => 0))]) rfl dX11_init_289 rfl ?_
  refine g_iinc C (r := 2) (lv' := [(0, vR h), (1, vI 2), (2, vI 1)]) 1 [1, 0, 2] rfl (by decide) (by decide) rfl rfl dX11_init_290 rfl ?_
  refine g_goto C (pc' := 242) dX11_init_293 (by decide) ?_
  refine g_iload_n C 1 rfl dX11_init_242 rfl ?_
  refine g_bipush C (by decide) dX11_init_243 rfl ?_
  refine g_icmp_ge C (tgt := 296) ⟨by decide, by decide⟩ ⟨by decide, by decide⟩ dX11_init_245 (by decide) rfl (fun c_15 => ?_) (fun c_15 => ?_)
  · exact absurd c_15 (by decide)
  refine g_iload_n C 1 rfl dX11_init_248 rfl ?_
  refine g_bipush C (by decide) dX11_init_249 rfl ?_
  refine g_icmp_gt C (tgt := 258) ⟨by decide, by decide⟩ ⟨by decide, by decide⟩ dX11_init_251 (by decide) rfl (fun c_16 => ?_) (fun c_16 => ?_)
  · exact absurd c_16 (by decide)
  refine g_iload_n C 1 rfl dX11_init_254 rfl ?_
  refine g_goto C (pc' := 262) dX11_init_255 (by decide) ?_
  refine g_istore_n C (lv' := [(0, vR h), (1, vI 2), (2, vI 2)]) [1, 2, 0] (by decide) rfl rfl dX11_init_262 rfl ?_
  refine g_aload_n C 0 rfl dX11_init_263 rfl ?_
  refine g_get C 0 fd_X11_init_27 rfl rfl rfl dX11_init_264 rfl ?_
  refine g_iload_n C 1 rfl dX11_init_267 rfl ?_
  refine g_iload_n C 2 rfl dX11_init_268 rfl ?_
  refine g_bipush C (by decide) dX11_init_269 rfl ?_
  refine g_icmp_gt C (tgt := 281) ⟨by decide, by decide⟩ ⟨by decide, by decide⟩ dX11_init_271 (by decide) rfl (fun c_17 => ?_) (fun c_17 => ?_)
  · exact absurd c_17 (by decide)
  refine g_iload_n C 2 rfl dX11_init_274 rfl ?_
  refine g_callS C (mc := 0) (ms := 0) (rm := rm_K_m_quarter) (As := [vI 2]) (wc := []) (wr := [(h, .inr (12, [vR q_1, vR q_2, vR q_3, vR q_4, vR q_5, vI 0, vR q_6, vL 0, vL 0, vL 0, vL 0, vL 0, vL 0, vL 0, vI 0, vI 0, vR q_7, vI 0, vR q_8, vI 0])), (q_1, cL E 310 (ua (ua (ua (ua (ua (ua (ua (ua (ua (ua (ua (ua (ua (ua (ua (ua (ua (fun _ => 0) 14 10000) 15 100) 16 1000) 17 500) 18 3000) 19 20000) 20 5000) 21 100) 22 1000) 23 48) 24 20000) 25 500) 27 24) 29 4) 30 480) 31 1200) 97 (-6))), (q_2, cL E 310 (fun _ => 0)), (q_3, cL E 620 (fun _ => 0)), (q_4, cZ E 2 (fun _ => 0)), (q_5, cI E 80 (fun _ => 0)), (q_6, cI E 24 (ua (ua (fun _ => 0) 0 (cosT 0)) 1 (cosT 1))), (q_7, cI E 16 (fun _ => 0)), (q_8, cI E 120 (fun _ => 0))]) (st := [vI 2, vR q_6]) gX11_init_X11_quarter rfl (K_m_quarter l E 2 (by first | assumption | omega)) hyd_X11_quarter rfl [] [0, 1, 2, 3, 4, 5, 6, 7, 8] rfl rfl rfl rfl rfl (by decide) ⟨rfl, rfl⟩ ⟨Nat.le_of_ble_eq_true rfl, Nat.le_of_ble_eq_true rfl, Nat.le_of_ble_eq_true rfl, Nat.le_of_ble_eq_true rfl⟩ (Nat.le_of_ble_eq_true rfl) dX11_init_275 (rfl : _ = 8) (rfl : _ = 1482) rfl ?_
  rintro _ _ ⟨rfl, rfl⟩
  refine g_is (ws' := [(h, .inr (12, [vR q_1, vR q_2, vR q_3, vR q_4, vR q_5, vI 0, vR q_6, vL 0, vL 0, vL 0, vL 0, vL 0, vL 0, vL 0, vI 0, vI 0, vR q_7, vI 0, vR q_8, vI 0])), (q_1, cL E 310 (ua (ua (ua (ua (ua (ua (ua (ua (ua (ua (ua (ua (ua (ua (ua (ua (ua (fun _ => 0) 14 10000) 15 100) 16 1000) 17 500) 18 3000) 19 20000) 20 5000) 21 100) 22 1000) 23 48) 24 20000) 25 500) 27 24) 29 4) 30 480) 31 1200) 97 (-6))), (q_2, cL E 310 (fun _ => 0)), (q_3, cL E 620 (fun _ => 0)), (q_4, cZ E 2 (fun _ => 0)), (q_5, cI E 80 (fun _ => 0)), (q_6, cI E 24 (ua (ua (fun _ => 0) 0 (cosT 0)) 1 (cosT 1))), (q_7, cI E 16 (fun _ => 0)), (q_8, cI E 120 (fun _ => 0))]) (st' := [vI (cosT 2), vI 2, vR q_6]) rfl rfl ?_
  refine g_goto C (pc' := 289) dX11_init_278 (by decide) ?_
  refine g_iast C 6 rfl (by decide) (by decide) (by decide) (ws' := [(h, .inr (12, [vR q_1, vR q_2, vR q_3, vR q_4, vR q_5, vI 0, vR q_6, vL 0, vL 0, vL 0, vL 0, vL 0, vL 0, vL 0, vI 0, vI 0, vR q_7, vI 0, vR q_8, vI 0])), (q_1, cL E 310 (ua (ua (ua (ua (ua (ua (ua (ua (ua (ua (ua (ua (ua (ua (ua (ua (ua (fun _ => 0) 14 10000) 15 100) 16 1000) 17 500) 18 3000) 19 20000) 20 5000) 21 100) 22 1000) 23 48) 24 20000) 25 500) 27 24) 29 4) 30 480) 31 1200) 97 (-6))), (q_2, cL E 310 (fun _ => 0)), (q_3, cL E 620 (fun _ => 0)), (q_4, cZ E 2 (fun _ => 0)), (q_5, cI E 80 (fun _ => 0)), (q_6, cI E 24 (ua (ua (ua (fun _ => 0) 0 (cosT 0)) 1 (cosT 1)) 2 (cosT 2))), (q_7, cI E 16 (fun _ => 0)), (q_8, cI E 120 (fun _ => 0))]) rfl dX11_init_289 rfl ?_
  refine g_iinc C (r := 3) (lv' := [(0, vR h), (1, vI 3), (2, vI 2)]) 1 [1, 0, 2] rfl (by decide) (by decide) rfl rfl dX11_init_290 rfl ?_
  refine g_goto C (pc' := 242) dX11_init_293 (by decide) ?_
  refine g_iload_n C 1 rfl dX11_init_242 rfl ?_
  refine g_bipush C (by decide) dX11_init_243 rfl ?_
  refine g_icmp_ge C (tgt := 296) ⟨by decide, by decide⟩ ⟨by decide, by decide⟩ dX11_init_245 (by decide) rfl (fun c_18 => ?_) (fun c_18 => ?_)
  · exact absurd c_18 (by decide)
  refine g_iload_n C 1 rfl dX11_init_248 rfl ?_
  refine g_bipush C (by decide) dX11_init_249 rfl ?_
  refine g_icmp_gt C (tgt := 258) ⟨by decide, by decide⟩ ⟨by decide, by decide⟩ dX11_init_251 (by decide) rfl (fun c_19 => ?_) (fun c_19 => ?_)
  · exact absurd c_19 (by decide)
  refine g_iload_n C 1 rfl dX11_init_254 rfl ?_
  refine g_goto C (pc' := 262) dX11_init_255 (by decide) ?_
  refine g_istore_n C (lv' := [(0, vR h), (1, vI 3), (2, vI 3)]) [1, 2, 0] (by decide) rfl rfl dX11_init_262 rfl ?_
  refine g_aload_n C 0 rfl dX11_init_263 rfl ?_
  refine g_get C 0 fd_X11_init_27 rfl rfl rfl dX11_init_264 rfl ?_
  refine g_iload_n C 1 rfl dX11_init_267 rfl ?_
  refine g_iload_n C 2 rfl dX11_init_268 rfl ?_
  refine g_bipush C (by decide) dX11_init_269 rfl ?_
  refine g_icmp_gt C (tgt := 281) ⟨by decide, by decide⟩ ⟨by decide, by decide⟩ dX11_init_271 (by decide) rfl (fun c_20 => ?_) (fun c_20 => ?_)
  · exact absurd c_20 (by decide)
  refine g_iload_n C 2 rfl dX11_init_274 rfl ?_
  refine g_callS C (mc := 0) (ms := 0) (rm := rm_K_m_quarter) (As := [vI 3]) (wc := []) (wr := [(h, .inr (12, [vR q_1, vR q_2, vR q_3, vR q_4, vR q_5, vI 0, vR q_6, vL 0, vL 0, vL 0, vL 0, vL 0, vL 0, vL 0, vI 0, vI 0, vR q_7, vI 0, vR q_8, vI 0])), (q_1, cL E 310 (ua (ua (ua (ua (ua (ua (ua (ua (ua (ua (ua (ua (ua (ua (ua (ua (ua (fun _ => 0) 14 10000) 15 100) 16 1000) 17 500) 18 3000) 19 20000) 20 5000) 21 100) 22 1000) 23 48) 24 20000) 25 500) 27 24) 29 4) 30 480) 31 1200) 97 (-6))), (q_2, cL E 310 (fun _ => 0)), (q_3, cL E 620 (fun _ => 0)), (q_4, cZ E 2 (fun _ => 0)), (q_5, cI E 80 (fun _ => 0)), (q_6, cI E 24 (ua (ua (ua (fun _ => 0) 0 (cosT 0)) 1 (cosT 1)) 2 (cosT 2))), (q_7, cI E 16 (fun _ => 0)), (q_8, cI E 120 (fun _ => 0))]) (st := [vI 3, vR q_6]) gX11_init_X11_quarter rfl (K_m_quarter l E 3 (by first | assumption | omega)) hyd_X11_quarter rfl [] [0, 1, 2, 3, 4, 5, 6, 7, 8] rfl rfl rfl rfl rfl (by decide) ⟨rfl, rfl⟩ ⟨Nat.le_of_ble_eq_true rfl, Nat.le_of_ble_eq_true rfl, Nat.le_of_ble_eq_true rfl, Nat.le_of_ble_eq_true rfl⟩ (Nat.le_of_ble_eq_true rfl) dX11_init_275 (rfl : _ = 8) (rfl : _ = 1482) rfl ?_
  rintro _ _ ⟨rfl, rfl⟩
  refine g_is (ws' := [(h, .inr (12, [vR q_1, vR q_2, vR q_3, vR q_4, vR q_5, vI 0, vR q_6, vL 0, vL 0, vL 0, vL 0, vL 0, vL 0, vL 0, vI 0, vI 0, vR q_7, vI 0, vR q_8, vI 0])), (q_1, cL E 310 (ua (ua (ua (ua (ua (ua (ua (ua (ua (ua (ua (ua (ua (ua (ua (ua (ua (fun _ => 0) 14 10000) 15 100) 16 1000) 17 500) 18 3000) 19 20000) 20 5000) 21 100) 22 1000) 23 48) 24 20000) 25 500) 27 24) 29 4) 30 480) 31 1200) 97 (-6))), (q_2, cL E 310 (fun _ => 0)), (q_3, cL E 620 (fun _ => 0)), (q_4, cZ E 2 (fun _ => 0)), (q_5, cI E 80 (fun _ => 0)), (q_6, cI E 24 (ua (ua (ua (fun _ => 0) 0 (cosT 0)) 1 (cosT 1)) 2 (cosT 2))), (q_7, cI E 16 (fun _ => 0)), (q_8, cI E 120 (fun _ => 0))]) (st' := [vI (cosT 3), vI 3, vR q_6]) rfl rfl ?_
  refine g_goto C (pc' := 289) dX11_init_278 (by decide) ?_
  refine g_iast C 6 rfl (by decide) (by decide) (by decide) (ws' := [(h, .inr (12, [vR q_1, vR q_2, vR q_3, vR q_4, vR q_5, vI 0, vR q_6, vL 0, vL 0, vL 0, vL 0, vL 0, vL 0, vL 0, vI 0, vI 0, vR q_7, vI 0, vR q_8, vI 0])), (q_1, cL E 310 (ua (ua (ua (ua (ua (ua (ua (ua (ua (ua (ua (ua (ua (ua (ua (ua (ua (fun _ => 0) 14 10000) 15 100) 16 1000) 17 500) 18 3000) 19 20000) 20 5000) 21 100) 22 1000) 23 48) 24 20000) 25 500) 27 24) 29 4) 30 480) 31 1200) 97 (-6))), (q_2, cL E 310 (fun _ => 0)), (q_3, cL E 620 (fun _ => 0)), (q_4, cZ E 2 (fun _ => 0)), (q_5, cI E 80 (fun _ => 0)), (q_6, cI E 24 (ua (ua (ua (ua (fun _ => 0) 0 (cosT 0)) 1 (cosT 1)) 2 (cosT 2)) 3 (cosT 3))), (q_7, cI E 16 (fun _ => 0)), (q_8, cI E 120 (fun _ => 0))]) rfl dX11_init_289 rfl ?_
  refine g_iinc C (r := 4) (lv' := [(0, vR h), (1, vI 4), (2, vI 3)]) 1 [1, 0, 2] rfl (by decide) (by decide) rfl rfl dX11_init_290 rfl ?_
  refine g_goto C (pc' := 242) dX11_init_293 (by decide) ?_
  refine g_iload_n C 1 rfl dX11_init_242 rfl ?_
  refine g_bipush C (by decide) dX11_init_243 rfl ?_
  refine g_icmp_ge C (tgt := 296) ⟨by decide, by decide⟩ ⟨by decide, by decide⟩ dX11_init_245 (by decide) rfl (fun c_21 => ?_) (fun c_21 => ?_)
  · exact absurd c_21 (by decide)
  refine g_iload_n C 1 rfl dX11_init_248 rfl ?_
  refine g_bipush C (by decide) dX11_init_249 rfl ?_
  refine g_icmp_gt C (tgt := 258) ⟨by decide, by decide⟩ ⟨by decide, by decide⟩ dX11_init_251 (by decide) rfl (fun c_22 => ?_) (fun c_22 => ?_)
  · exact absurd c_22 (by decide)
  refine g_iload_n C 1 rfl dX11_init_254 rfl ?_
  refine g_goto C (pc' := 262) dX11_init_255 (by decide) ?_
  refine g_istore_n C (lv' := [(0, vR h), (1, vI 4), (2, vI 4)]) [1, 2, 0] (by decide) rfl rfl dX11_init_262 rfl ?_
  refine g_aload_n C 0 rfl dX11_init_263 rfl ?_
  refine g_get C 0 fd_X11_init_27 rfl rfl rfl dX11_init_264 rfl ?_
  refine g_iload_n C 1 rfl dX11_init_267 rfl ?_
  refine g_iload_n C 2 rfl dX11_init_268 rfl ?_
  refine g_bipush C (by decide) dX11_init_269 rfl ?_
  refine g_icmp_gt C (tgt := 281) ⟨by decide, by decide⟩ ⟨by decide, by decide⟩ dX11_init_271 (by decide) rfl (fun c_23 => ?_) (fun c_23 => ?_)
  · exact absurd c_23 (by decide)
  refine g_iload_n C 2 rfl dX11_init_274 rfl ?_
  refine g_callS C (mc := 0) (ms := 0) (rm := rm_K_m_quarter) (As := [vI 4]) (wc := []) (wr := [(h, .inr (12, [vR q_1, vR q_2, vR q_3, vR q_4, vR q_5, vI 0, vR q_6, vL 0, vL 0, vL 0, vL 0, vL 0, vL 0, vL 0, vI 0, vI 0, vR q_7, vI 0, vR q_8, vI 0])), (q_1, cL E 310 (ua (ua (ua (ua (ua (ua (ua (ua (ua (ua (ua (ua (ua (ua (ua (ua (ua (fun _ => 0) 14 10000) 15 100) 16 1000) 17 500) 18 3000) 19 20000) 20 5000) 21 100) 22 1000) 23 48) 24 20000) 25 500) 27 24) 29 4) 30 480) 31 1200) 97 (-6))), (q_2, cL E 310 (fun _ => 0)), (q_3, cL E 620 (fun _ => 0)), (q_4, cZ E 2 (fun _ => 0)), (q_5, cI E 80 (fun _ => 0)), (q_6, cI E 24 (ua (ua (ua (ua (fun _ => 0) 0 (cosT 0)) 1 (cosT 1)) 2 (cosT 2)) 3 (cosT 3))), (q_7, cI E 16 (fun _ => 0)), (q_8, cI E 120 (fun _ => 0))]) (st := [vI 4, vR q_6]) gX11_init_X11_quarter rfl (K_m_quarter l E 4 (by first | assumption | omega)) hyd_X11_quarter rfl [] [0, 1, 2, 3, 4, 5, 6, 7, 8] rfl rfl rfl rfl rfl (by decide) ⟨rfl, rfl⟩ ⟨Nat.le_of_ble_eq_true rfl, Nat.le_of_ble_eq_true rfl, Nat.le_of_ble_eq_true rfl, Nat.le_of_ble_eq_true rfl⟩ (Nat.le_of_ble_eq_true rfl) dX11_init_275 (rfl : _ = 8) (rfl : _ = 1482) rfl ?_
  rintro _ _ ⟨rfl, rfl⟩
  refine g_is (ws' := [(h, .inr (12, [vR q_1, vR q_2, vR q_3, vR q_4, vR q_5, vI 0, vR q_6, vL 0, vL 0, vL 0, vL 0, vL 0, vL 0, vL 0, vI 0, vI 0, vR q_7, vI 0, vR q_8, vI 0])), (q_1, cL E 310 (ua (ua (ua (ua (ua (ua (ua (ua (ua (ua (ua (ua (ua (ua (ua (ua (ua (fun _ => 0) 14 10000) 15 100) 16 1000) 17 500) 18 3000) 19 20000) 20 5000) 21 100) 22 1000) 23 48) 24 20000) 25 500) 27 24) 29 4) 30 480) 31 1200) 97 (-6))), (q_2, cL E 310 (fun _ => 0)), (q_3, cL E 620 (fun _ => 0)), (q_4, cZ E 2 (fun _ => 0)), (q_5, cI E 80 (fun _ => 0)), (q_6, cI E 24 (ua (ua (ua (ua (fun _ => 0) 0 (cosT 0)) 1 (cosT 1)) 2 (cosT 2)) 3 (cosT 3))), (q_7, cI E 16 (fun _ => 0)), (q_8, cI E 120 (fun _ => 0))]) (st' := [vI (cosT 4), vI 4, vR q_6]) rfl rfl ?_
  refine g_goto C (pc' := 289) dX11_init_278 (by decide) ?_
  refine g_iast C 6 rfl (by decide) (by decide) (by decide) (ws' := [(h, .inr (12, [vR q_1, vR q_2, vR q_3, vR q_4, vR q_5, vI 0, vR q_6, vL 0, vL 0, vL 0, vL 0, vL 0, vL 0, vL 0, vI 0, vI 0, vR q_7, vI 0, vR q_8, vI 0])), (q_1, cL E 310 (ua (ua (ua (ua (ua (ua (ua (ua (ua (ua (ua (ua (ua (ua (ua (ua (ua (fun _ => 0) 14 10000) 15 100) 16 1000) 17 500) 18 3000) 19 20000) 20 5000) 21 100) 22 1000) 23 48) 24 20000) 25 500) 27 24) 29 4) 30 480) 31 1200) 97 (-6))), (q_2, cL E 310 (fun _ => 0)), (q_3, cL E 620 (fun _ => 0)), (q_4, cZ E 2 (fun _ => 0)), (q_5, cI E 80 (fun _ => 0)), (q_6, cI E 24 (ua (ua (ua (ua (ua (fun _ => 0) 0 (cosT 0)) 1 (cosT 1)) 2 (cosT 2)) 3 (cosT 3)) 4 (cosT 4))), (q_7, cI E 16 (fun _ => 0)), (q_8, cI E 120 (fun _ => 0))]) rfl dX11_init_289 rfl ?_
  refine g_iinc C (r := 5) (lv' := [(0, vR h), (1, vI 5), (2, vI 4)]) 1 [1, 0, 2] rfl (by decide) (by decide) rfl rfl dX11_init_290 rfl ?_
  refine g_goto C (pc' := 242) dX11_init_293 (by decide) ?_
  refine g_iload_n C 1 rfl dX11_init_242 rfl ?_
  refine g_bipush C (by decide) dX11_init_243 rfl ?_
  refine g_icmp_ge C (tgt := 296) ⟨by decide, by decide⟩ ⟨by decide, by decide⟩ dX11_init_245 (by decide) rfl (fun c_24 => ?_) (fun c_24 => ?_)
  · exact absurd c_24 (by decide)
  refine g_iload_n C 1 rfl dX11_init_248 rfl ?_
  refine g_bipush C (by decide) dX11_init_249 rfl ?_
  refine g_icmp_gt C (tgt := 258) ⟨by decide, by decide⟩ ⟨by decide, by decide⟩ dX11_init_251 (by decide) rfl (fun c_25 => ?_) (fun c_25 => ?_)
  · exact absurd c_25 (by decide)
  refine g_iload_n C 1 rfl dX11_init_254 rfl ?_
  refine g_goto C (pc' := 262) dX11_init_255 (by decide) ?_
  refine g_istore_n C (lv' := [(0, vR h), (1, vI 5), (2, vI 5)]) [1, 2, 0] (by decide) rfl rfl dX11_init_262 rfl ?_
  refine g_aload_n C 0 rfl dX11_init_263 rfl ?_
  refine g_get C 0 fd_X11_init_27 rfl rfl rfl dX11_init_264 rfl ?_
  refine g_iload_n C 1 rfl dX11_init_267 rfl ?_
  refine g_iload_n C 2 rfl dX11_init_268 rfl ?_
  refine g_bipush C (by decide) dX11_init_269 rfl ?_
  refine g_icmp_gt C (tgt := 281) ⟨by decide, by decide⟩ ⟨by decide, by decide⟩ dX11_init_271 (by decide) rfl (fun c_26 => ?_) (fun c_26 => ?_)
  · exact absurd c_26 (by decide)
  refine g_iload_n C 2 rfl dX11_init_274 rfl ?_
  refine g_callS C (mc := 0) (ms := 0) (rm := rm_K_m_quarter) (As := [vI 5]) (wc := []) (wr := [(h, .inr (12, [vR q_1, vR q_2, vR q_3, vR q_4, vR q_5, vI 0, vR q_6, vL 0, vL 0, vL 0, vL 0, vL 0, vL 0, vL 0, vI 0, vI 0, vR q_7, vI 0, vR q_8, vI 0])), (q_1, cL E 310 (ua (ua (ua (ua (ua (ua (ua (ua (ua (ua (ua (ua (ua (ua (ua (ua (ua (fun _ => 0) 14 10000) 15 100) 16 1000) 17 500) 18 3000) 19 20000) 20 5000) 21 100) 22 1000) 23 48) 24 20000) 25 500) 27 24) 29 4) 30 480) 31 1200) 97 (-6))), (q_2, cL E 310 (fun _ => 0)), (q_3, cL E 620 (fun _ => 0)), (q_4, cZ E 2 (fun _ => 0)), (q_5, cI E 80 (fun _ => 0)), (q_6, cI E 24 (ua (ua (ua (ua (ua (fun _ => 0) 0 (cosT 0)) 1 (cosT 1)) 2 (cosT 2)) 3 (cosT 3)) 4 (cosT 4))), (q_7, cI E 16 (fun _ => 0)), (q_8, cI E 120 (fun _ => 0))]) (st := [vI 5, vR q_6]) gX11_init_X11_quarter rfl (K_m_quarter l E 5 (by first | assumption | omega)) hyd_X11_quarter rfl [] [0, 1, 2, 3, 4, 5, 6, 7, 8] rfl rfl rfl rfl rfl (by decide) ⟨rfl, rfl⟩ ⟨Nat.le_of_ble_eq_true rfl, Nat.le_of_ble_eq_true rfl, Nat.le_of_ble_eq_true rfl, Nat.le_of_ble_eq_true rfl⟩ (Nat.le_of_ble_eq_true rfl) dX11_init_275 (rfl : _ = 8) (rfl : _ = 1482) rfl ?_
  rintro _ _ ⟨rfl, rfl⟩
  refine g_is (ws' := [(h, .inr (12, [vR q_1, vR q_2, vR q_3, vR q_4, vR q_5, vI 0, vR q_6, vL 0, vL 0, vL 0, vL 0, vL 0, vL 0, vL 0, vI 0, vI 0, vR q_7, vI 0, vR q_8, vI 0])), (q_1, cL E 310 (ua (ua (ua (ua (ua (ua (ua (ua (ua (ua (ua (ua (ua (ua (ua (ua (ua (fun _ => 0) 14 10000) 15 100) 16 1000) 17 500) 18 3000) 19 20000) 20 5000) 21 100) 22 1000) 23 48) 24 20000) 25 500) 27 24) 29 4) 30 480) 31 1200) 97 (-6))), (q_2, cL E 310 (fun _ => 0)), (q_3, cL E 620 (fun _ => 0)), (q_4, cZ E 2 (fun _ => 0)), (q_5, cI E 80 (fun _ => 0)), (q_6, cI E 24 (ua (ua (ua (ua (ua (fun _ => 0) 0 (cosT 0)) 1 (cosT 1)) 2 (cosT 2)) 3 (cosT 3)) 4 (cosT 4))), (q_7, cI E 16 (fun _ => 0)), (q_8, cI E 120 (fun _ => 0))]) (st' := [vI (cosT 5), vI 5, vR q_6]) rfl rfl ?_
  refine g_goto C (pc' := 289) dX11_init_278 (by decide) ?_
  refine g_iast C 6 rfl (by decide) (by decide) (by decide) (ws' := [(h, .inr (12, [vR q_1, vR q_2, vR q_3, vR q_4, vR q_5, vI 0, vR q_6, vL 0, vL 0, vL 0, vL 0, vL 0, vL 0, vL 0, vI 0, vI 0, vR q_7, vI 0, vR q_8, vI 0])), (q_1, cL E 310 (ua (ua (ua (ua (ua (ua (ua (ua (ua (ua (ua (ua (ua (ua (ua (ua (ua (fun _ => 0) 14 10000) 15 100) 16 1000) 17 500) 18 3000) 19 20000) 20 5000) 21 100) 22 1000) 23 48) 24 20000) 25 500) 27 24) 29 4) 30 480) 31 1200) 97 (-6))), (q_2, cL E 310 (fun _ => 0)), (q_3, cL E 620 (fun _ => 0)), (q_4, cZ E 2 (fun _ => 0)), (q_5, cI E 80 (fun _ => 0)), (q_6, cI E 24 (ua (ua (ua (ua (ua (ua (fun _ => 0) 0 (cosT 0)) 1 (cosT 1)) 2 (cosT 2)) 3 (cosT 3)) 4 (cosT 4)) 5 (cosT 5))), (q_7, cI E 16 (fun _ => 0)), (q_8, cI E 120 (fun _ => 0))]) rfl dX11_init_289 rfl ?_
  refine g_iinc C (r := 6) (lv' := [(0, vR h), (1, vI 6), (2, vI 5)]) 1 [1, 0, 2] rfl (by decide) (by decide) rfl rfl dX11_init_290 rfl ?_
  refine g_goto C (pc' := 242) dX11_init_293 (by decide) ?_
  refine g_iload_n C 1 rfl dX11_init_242 rfl ?_
  refine g_bipush C (by decide) dX11_init_243 rfl ?_
  refine g_icmp_ge C (tgt := 296) ⟨by decide, by decide⟩ ⟨by decide, by decide⟩ dX11_init_245 (by decide) rfl (fun c_27 => ?_) (fun c_27 => ?_)
  · exact absurd c_27 (by decide)
  refine g_iload_n C 1 rfl dX11_init_248 rfl ?_
  refine g_bipush C (by decide) dX11_init_249 rfl ?_
  refine g_icmp_gt C (tgt := 258) ⟨by decide, by decide⟩ ⟨by decide, by decide⟩ dX11_init_251 (by decide) rfl (fun c_28 => ?_) (fun c_28 => ?_)
  · exact absurd c_28 (by decide)
  refine g_iload_n C 1 rfl dX11_init_254 rfl ?_
  refine g_goto C (pc' := 262) dX11_init_255 (by decide) ?_
  refine g_istore_n C (lv' := [(0, vR h), (1, vI 6), (2, vI 6)]) [1, 2, 0] (by decide) rfl rfl dX11_init_262 rfl ?_
  refine g_aload_n C 0 rfl dX11_init_263 rfl ?_
  refine g_get C 0 fd_X11_init_27 rfl rfl rfl dX11_init_264 rfl ?_
  refine g_iload_n C 1 rfl dX11_init_267 rfl ?_
  refine g_iload_n C 2 rfl dX11_init_268 rfl ?_
  refine g_bipush C (by decide) dX11_init_269 rfl ?_
  refine g_icmp_gt C (tgt := 281) ⟨by decide, by decide⟩ ⟨by decide, by decide⟩ dX11_init_271 (by decide) rfl (fun c_29 => ?_) (fun c_29 => ?_)
  · exact absurd c_29 (by decide)
  refine g_iload_n C 2 rfl dX11_init_274 rfl ?_
  refine g_callS C (mc := 0) (ms := 0) (rm := rm_K_m_quarter) (As := [vI 6]) (wc := []) (wr := [(h, .inr (12, [vR q_1, vR q_2, vR q_3, vR q_4, vR q_5, vI 0, vR q_6, vL 0, vL 0, vL 0, vL 0, vL 0, vL 0, vL 0, vI 0, vI 0, vR q_7, vI 0, vR q_8, vI 0])), (q_1, cL E 310 (ua (ua (ua (ua (ua (ua (ua (ua (ua (ua (ua (ua (ua (ua (ua (ua (ua (fun _ => 0) 14 10000) 15 100) 16 1000) 17 500) 18 3000) 19 20000) 20 5000) 21 100) 22 1000) 23 48) 24 20000) 25 500) 27 24) 29 4) 30 480) 31 1200) 97 (-6))), (q_2, cL E 310 (fun _ => 0)), (q_3, cL E 620 (fun _ => 0)), (q_4, cZ E 2 (fun _ => 0)), (q_5, cI E 80 (fun _ => 0)), (q_6, cI E 24 (ua (ua (ua (ua (ua (ua (fun _ => 0) 0 (cosT 0)) 1 (cosT 1)) 2 (cosT 2)) 3 (cosT 3)) 4 (cosT 4)) 5 (cosT 5))), (q_7, cI E 16 (fun _ => 0)), (q_8, cI E 120 (fun _ => 0))]) (st := [vI 6, vR q_6]) gX11_init_X11_quarter rfl (K_m_quarter l E 6 (by first | assumption | omega)) hyd_X11_quarter rfl [] [0, 1, 2, 3, 4, 5, 6, 7, 8] rfl rfl rfl rfl rfl (by decide) ⟨rfl, rfl⟩ ⟨Nat.le_of_ble_eq_true rfl, Nat.le_of_ble_eq_true rfl, Nat.le_of_ble_eq_true rfl, Nat.le_of_ble_eq_true rfl⟩ (Nat.le_of_ble_eq_true rfl) dX11_init_275 (rfl : _ = 8) (rfl : _ = 1482) rfl ?_
  rintro _ _ ⟨rfl, rfl⟩
  refine g_is (ws' := [(h, .inr (12, [vR q_1, vR q_2, vR q_3, vR q_4, vR q_5, vI 0, vR q_6, vL 0, vL 0, vL 0, vL 0, vL 0, vL 0, vL 0, vI 0, vI 0, vR q_7, vI 0, vR q_8, vI 0])), (q_1, cL E 310 (ua (ua (ua (ua (ua (ua (ua (ua (ua (ua (ua (ua (ua (ua (ua (ua (ua (fun _ => 0) 14 10000) 15 100) 16 1000) 17 500) 18 3000) 19 20000) 20 5000) 21 100) 22 1000) 23 48) 24 20000) 25 500) 27 24) 29 4) 30 480) 31 1200) 97 (-6))), (q_2, cL E 310 (fun _ => 0)), (q_3, cL E 620 (fun _ => 0)), (q_4, cZ E 2 (fun _ => 0)), (q_5, cI E 80 (fun _ => 0)), (q_6, cI E 24 (ua (ua (ua (ua (ua (ua (fun _ => 0) 0 (cosT 0)) 1 (cosT 1)) 2 (cosT 2)) 3 (cosT 3)) 4 (cosT 4)) 5 (cosT 5))), (q_7, cI E 16 (fun _ => 0)), (q_8, cI E 120 (fun _ => 0))]) (st' := [vI (cosT 6), vI 6, vR q_6]) rfl rfl ?_
  refine g_goto C (pc' := 289) dX11_init_278 (by decide) ?_
  refine g_iast C 6 rfl (by decide) (by decide) (by decide) (ws' := [(h, .inr (12, [vR q_1, vR q_2, vR q_3, vR q_4, vR q_5, vI 0, vR q_6, vL 0, vL 0, vL 0, vL 0, vL 0, vL 0, vL 0, vI 0, vI 0, vR q_7, vI 0, vR q_8, vI 0])), (q_1, cL E 310 (ua (ua (ua (ua (ua (ua (ua (ua (ua (ua (ua (ua (ua (ua (ua (ua (ua (fun _ => 0) 14 10000) 15 100) 16 1000) 17 500) 18 3000) 19 20000) 20 5000) 21 100) 22 1000) 23 48) 24 20000) 25 500) 27 24) 29 4) 30 480) 31 1200) 97 (-6))), (q_2, cL E 310 (fun _ => 0)), (q_3, cL E 620 (fun _ => 0)), (q_4, cZ E 2 (fun _ => 0)), (q_5, cI E 80 (fun _ => 0)), (q_6, cI E 24 (ua (ua (ua (ua (ua (ua (ua (fun _ => 0) 0 (cosT 0)) 1 (cosT 1)) 2 (cosT 2)) 3 (cosT 3)) 4 (cosT 4)) 5 (cosT 5)) 6 (cosT 6))), (q_7, cI E 16 (fun _ => 0)), (q_8, cI E 120 (fun _ => 0))]) rfl dX11_init_289 rfl ?_
  refine g_iinc C (r := 7) (lv' := [(0, vR h), (1, vI 7), (2, vI 6)]) 1 [1, 0, 2] rfl (by decide) (by decide) rfl rfl dX11_init_290 rfl ?_
  refine g_goto C (pc' := 242) dX11_init_293 (by decide) ?_
  refine g_iload_n C 1 rfl dX11_init_242 rfl ?_
  refine g_bipush C (by decide) dX11_init_243 rfl ?_
  refine g_icmp_ge C (tgt := 296) ⟨by decide, by decide⟩ ⟨by decide, by decide⟩ dX11_init_245 (by decide) rfl (fun c_30 => ?_) (fun c_30 => ?_)
  · exact absurd c_30 (by decide)
  refine g_iload_n C 1 rfl dX11_init_248 rfl ?_
  refine g_bipush C (by decide) dX11_init_249 rfl ?_
  refine g_icmp_gt C (tgt := 258) ⟨by decide, by decide⟩ ⟨by decide, by decide⟩ dX11_init_251 (by decide) rfl (fun c_31 => ?_) (fun c_31 => ?_)
  · exact absurd c_31 (by decide)
  refine g_iload_n C 1 rfl dX11_init_254 rfl ?_
  refine g_goto C (pc' := 262) dX11_init_255 (by decide) ?_
  refine g_istore_n C (lv' := [(0, vR h), (1, vI 7), (2, vI 7)]) [1, 2, 0] (by decide) rfl rfl dX11_init_262 rfl ?_
  refine g_aload_n C 0 rfl dX11_init_263 rfl ?_
  refine g_get C 0 fd_X11_init_27 rfl rfl rfl dX11_init_264 rfl ?_
  refine g_iload_n C 1 rfl dX11_init_267 rfl ?_
  refine g_iload_n C 2 rfl dX11_init_268 rfl ?_
  refine g_bipush C (by decide) dX11_init_269 rfl ?_
  refine g_icmp_gt C (tgt := 281) ⟨by decide, by decide⟩ ⟨by decide, by decide⟩ dX11_init_271 (by decide) rfl (fun c_32 => ?_) (fun c_32 => ?_)
  · refine g_bipush C (by decide) dX11_init_281 rfl ?_
    refine g_iload_n C 2 rfl dX11_init_283 rfl ?_
    refine g_isub C (r := 5) (by decide) dX11_init_284 rfl ?_
    refine g_callS C (mc := 0) (ms := 0) (rm := rm_K_m_quarter) (As := [vI 5]) (wc := []) (wr := [(h, .inr (12, [vR q_1, vR q_2, vR q_3, vR q_4, vR q_5, vI 0, vR q_6, vL 0, vL 0, vL 0, vL 0, vL 0, vL 0, vL 0, vI 0, vI 0, vR q_7, vI 0, vR q_8, vI 0])), (q_1, cL E 310 (ua (ua (ua (ua (ua (ua (ua (ua (ua (ua (ua (ua (ua (ua (ua (ua (ua (fun _ => 0) 14 10000) 15 100) 16 1000) 17 500) 18 3000) 19 20000) 20 5000) 21 100) 22 1000) 23 48) 24 20000) 25 500) 27 24) 29 4) 30 480) 31 1200) 97 (-6))), (q_2, cL E 310 (fun _ => 0)), (q_3, cL E 620 (fun _ => 0)), (q_4, cZ E 2 (fun _ => 0)), (q_5, cI E 80 (fun _ => 0)), (q_6, cI E 24 (ua (ua (ua (ua (ua (ua (ua (fun _ => 0) 0 (cosT 0)) 1 (cosT 1)) 2 (cosT 2)) 3 (cosT 3)) 4 (cosT 4)) 5 (cosT 5)) 6 (cosT 6))), (q_7, cI E 16 (fun _ => 0)), (q_8, cI E 120 (fun _ => 0))]) (st := [vI 7, vR q_6]) gX11_init_X11_quarter rfl (K_m_quarter l E 5 (by first | assumption | omega)) hyd_X11_quarter rfl [] [0, 1, 2, 3, 4, 5, 6, 7, 8] rfl rfl rfl rfl rfl (by decide) ⟨rfl, rfl⟩ ⟨Nat.le_of_ble_eq_true rfl, Nat.le_of_ble_eq_true rfl, Nat.le_of_ble_eq_true rfl, Nat.le_of_ble_eq_true rfl⟩ (Nat.le_of_ble_eq_true rfl) dX11_init_285 (rfl : _ = 8) (rfl : _ = 1482) rfl ?_
    rintro _ _ ⟨rfl, rfl⟩
    refine g_is (ws' := [(h, .inr (12, [vR q_1, vR q_2, vR q_3, vR q_4, vR q_5, vI 0, vR q_6, vL 0, vL 0, vL 0, vL 0, vL 0, vL 0, vL 0, vI 0, vI 0, vR q_7, vI 0, vR q_8, vI 0])), (q_1, cL E 310 (ua (ua (ua (ua (ua (ua (ua (ua (ua (ua (ua (ua (ua (ua (ua (ua (ua (fun _ => 0) 14 10000) 15 100) 16 1000) 17 500) 18 3000) 19 20000) 20 5000) 21 100) 22 1000) 23 48) 24 20000) 25 500) 27 24) 29 4) 30 480) 31 1200) 97 (-6))), (q_2, cL E 310 (fun _ => 0)), (q_3, cL E 620 (fun _ => 0)), (q_4, cZ E 2 (fun _ => 0)), (q_5, cI E 80 (fun _ => 0)), (q_6, cI E 24 (ua (ua (ua (ua (ua (ua (ua (fun _ => 0) 0 (cosT 0)) 1 (cosT 1)) 2 (cosT 2)) 3 (cosT 3)) 4 (cosT 4)) 5 (cosT 5)) 6 (cosT 6))), (q_7, cI E 16 (fun _ => 0)), (q_8, cI E 120 (fun _ => 0))]) (st' := [vI (cosT 5), vI 7, vR q_6]) rfl rfl ?_
    refine g_ineg C rfl dX11_init_288 rfl ?_
    refine g_iast C 6 rfl (by decide) (by decide) (by decide) (ws' := [(h, .inr (12, [vR q_1, vR q_2, vR q_3, vR q_4, vR q_5, vI 0, vR q_6, vL 0, vL 0, vL 0, vL 0, vL 0, vL 0, vL 0, vI 0, vI 0, vR q_7, vI 0, vR q_8, vI 0])), (q_1, cL E 310 (ua (ua (ua (ua (ua (ua (ua (ua (ua (ua (ua (ua (ua (ua (ua (ua (ua (fun _ => 0) 14 10000) 15 100) 16 1000) 17 500) 18 3000) 19 20000) 20 5000) 21 100) 22 1000) 23 48) 24 20000) 25 500) 27 24) 29 4) 30 480) 31 1200) 97 (-6))), (q_2, cL E 310 (fun _ => 0)), (q_3, cL E 620 (fun _ => 0)), (q_4, cZ E 2 (fun _ => 0)), (q_5, cI E 80 (fun _ => 0)), (q_6, cI E 24 (ua (ua (ua (ua (ua (ua (ua (ua (fun _ => 0) 0 (cosT 0)) 1 (cosT 1)) 2 (cosT 2)) 3 (cosT 3)) 4 (cosT 4)) 5 (cosT 5)) 6 (cosT 6)) 7 (-(cosT 5)))), (q_7, cI E 16 (fun _ => 0)), (q_8, cI E 120 (fun _ => 0))]) rfl dX11_init_289 rfl ?_
    refine g_iinc C (r := 8) (lv' := [(0, vR h), (1, vI 8), (2, vI 7)]) 1 [1, 0, 2] rfl (by decide) (by decide) rfl rfl dX11_init_290 rfl ?_
    refine g_goto C (pc' := 242) dX11_init_293 (by decide) ?_
    refine g_iload_n C 1 rfl dX11_init_242 rfl ?_
    refine g_bipush C (by decide) dX11_init_243 rfl ?_
    refine g_icmp_ge C (tgt := 296) ⟨by decide, by decide⟩ ⟨by decide, by decide⟩ dX11_init_245 (by decide) rfl (fun c_33 => ?_) (fun c_33 => ?_)
    · exact absurd c_33 (by decide)
    refine g_iload_n C 1 rfl dX11_init_248 rfl ?_
    refine g_bipush C (by decide) dX11_init_249 rfl ?_
    refine g_icmp_gt C (tgt := 258) ⟨by decide, by decide⟩ ⟨by decide, by decide⟩ dX11_init_251 (by decide) rfl (fun c_34 => ?_) (fun c_34 => ?_)
    · exact absurd c_34 (by decide)
    refine g_iload_n C 1 rfl dX11_init_254 rfl ?_
    refine g_goto C (pc' := 262) dX11_init_255 (by decide) ?_
    refine g_istore_n C (lv' := [(0, vR h), (1, vI 8), (2, vI 8)]) [1, 2, 0] (by decide) rfl rfl dX11_init_262 rfl ?_
    refine g_aload_n C 0 rfl dX11_init_263 rfl ?_
    refine g_get C 0 fd_X11_init_27 rfl rfl rfl dX11_init_264 rfl ?_
    refine g_iload_n C 1 rfl dX11_init_267 rfl ?_
    refine g_iload_n C 2 rfl dX11_init_268 rfl ?_
    refine g_bipush C (by decide) dX11_init_269 rfl ?_
    refine g_icmp_gt C (tgt := 281) ⟨by decide, by decide⟩ ⟨by decide, by decide⟩ dX11_init_271 (by decide) rfl (fun c_35 => ?_) (fun c_35 => ?_)
    · refine g_bipush C (by decide) dX11_init_281 rfl ?_
      refine g_iload_n C 2 rfl dX11_init_283 rfl ?_
      refine g_isub C (r := 4) (by decide) dX11_init_284 rfl ?_
      refine g_callS C (mc := 0) (ms := 0) (rm := rm_K_m_quarter) (As := [vI 4]) (wc := []) (wr := [(h, .inr (12, [vR q_1, vR q_2, vR q_3, vR q_4, vR q_5, vI 0, vR q_6, vL 0, vL 0, vL 0, vL 0, vL 0, vL 0, vL 0, vI 0, vI 0, vR q_7, vI 0, vR q_8, vI 0])), (q_1, cL E 310 (ua (ua (ua (ua (ua (ua (ua (ua (ua (ua (ua (ua (ua (ua (ua (ua (ua (fun _ => 0) 14 10000) 15 100) 16 1000) 17 500) 18 3000) 19 20000) 20 5000) 21 100) 22 1000) 23 48) 24 20000) 25 500) 27 24) 29 4) 30 480) 31 1200) 97 (-6))), (q_2, cL E 310 (fun _ => 0)), (q_3, cL E 620 (fun _ => 0)), (q_4, cZ E 2 (fun _ => 0)), (q_5, cI E 80 (fun _ => 0)), (q_6, cI E 24 (ua (ua (ua (ua (ua (ua (ua (ua (fun _ => 0) 0 (cosT 0)) 1 (cosT 1)) 2 (cosT 2)) 3 (cosT 3)) 4 (cosT 4)) 5 (cosT 5)) 6 (cosT 6)) 7 (-(cosT 5)))), (q_7, cI E 16 (fun _ => 0)), (q_8, cI E 120 (fun _ => 0))]) (st := [vI 8, vR q_6]) gX11_init_X11_quarter rfl (K_m_quarter l E 4 (by first | assumption | omega)) hyd_X11_quarter rfl [] [0, 1, 2, 3, 4, 5, 6, 7, 8] rfl rfl rfl rfl rfl (by decide) ⟨rfl, rfl⟩ ⟨Nat.le_of_ble_eq_true rfl, Nat.le_of_ble_eq_true rfl, Nat.le_of_ble_eq_true rfl, Nat.le_of_ble_eq_true rfl⟩ (Nat.le_of_ble_eq_true rfl) dX11_init_285 (rfl : _ = 8) (rfl : _ = 1482) rfl ?_
      rintro _ _ ⟨rfl, rfl⟩
      refine g_is (ws' := [(h, .inr (12, [vR q_1, vR q_2, vR q_3, vR q_4, vR q_5, vI 0, vR q_6, vL 0, vL 0, vL 0, vL 0, vL 0, vL 0, vL 0, vI 0, vI 0, vR q_7, vI 0, vR q_8, vI 0])), (q_1, cL E 310 (ua (ua (ua (ua (ua (ua (ua (ua (ua (ua (ua (ua (ua (ua (ua (ua (ua (fun _ => 0) 14 10000) 15 100) 16 1000) 17 500) 18 3000) 19 20000) 20 5000) 21 100) 22 1000) 23 48) 24 20000) 25 500) 27 24) 29 4) 30 480) 31 1200) 97 (-6))), (q_2, cL E 310 (fun _ => 0)), (q_3, cL E 620 (fun _ => 0)), (q_4, cZ E 2 (fun _ => 0)), (q_5, cI E 80 (fun _ => 0)), (q_6, cI E 24 (ua (ua (ua (ua (ua (ua (ua (ua (fun _ => 0) 0 (cosT 0)) 1 (cosT 1)) 2 (cosT 2)) 3 (cosT 3)) 4 (cosT 4)) 5 (cosT 5)) 6 (cosT 6)) 7 (-(cosT 5)))), (q_7, cI E 16 (fun _ => 0)), (q_8, cI E 120 (fun _ => 0))]) (st' := [vI (cosT 4), vI 8, vR q_6]) rfl rfl ?_
      refine g_ineg C rfl dX11_init_288 rfl ?_
      refine g_iast C 6 rfl (by decide) (by decide) (by decide) (ws' := [(h, .inr (12, [vR q_1, vR q_2, vR q_3, vR q_4, vR q_5, vI 0, vR q_6, vL 0, vL 0, vL 0, vL 0, vL 0, vL 0, vL 0, vI 0, vI 0, vR q_7, vI 0, vR q_8, vI 0])), (q_1, cL E 310 (ua (ua (ua (ua (ua (ua (ua (ua (ua (ua (ua (ua (ua (ua (ua (ua (ua (fun _ => 0) 14 10000) 15 100) 16 1000) 17 500) 18 3000) 19 20000) 20 5000) 21 100) 22 1000) 23 48) 24 20000) 25 500) 27 24) 29 4) 30 480) 31 1200) 97 (-6))), (q_2, cL E 310 (fun _ => 0)), (q_3, cL E 620 (fun _ => 0)), (q_4, cZ E 2 (fun _ => 0)), (q_5, cI E 80 (fun _ => 0)), (q_6, cI E 24 (ua (ua (ua (ua (ua (ua (ua (ua (ua (fun _ => 0) 0 (cosT 0)) 1 (cosT 1)) 2 (cosT 2)) 3 (cosT 3)) 4 (cosT 4)) 5 (cosT 5)) 6 (cosT 6)) 7 (-(cosT 5))) 8 (-(cosT 4)))), (q_7, cI E 16 (fun _ => 0)), (q_8, cI E 120 (fun _ => 0))]) rfl dX11_init_289 rfl ?_
      refine g_iinc C (r := 9) (lv' := [(0, vR h), (1, vI 9), (2, vI 8)]) 1 [1, 0, 2] rfl (by decide) (by decide) rfl rfl dX11_init_290 rfl ?_
      refine g_goto C (pc' := 242) dX11_init_293 (by decide) ?_
      refine g_iload_n C 1 rfl dX11_init_242 rfl ?_
      refine g_bipush C (by decide) dX11_init_243 rfl ?_
      refine g_icmp_ge C (tgt := 296) ⟨by decide, by decide⟩ ⟨by decide, by decide⟩ dX11_init_245 (by decide) rfl (fun c_36 => ?_) (fun c_36 => ?_)
      · exact absurd c_36 (by decide)
      refine g_iload_n C 1 rfl dX11_init_248 rfl ?_
      refine g_bipush C (by decide) dX11_init_249 rfl ?_
      refine g_icmp_gt C (tgt := 258) ⟨by decide, by decide⟩ ⟨by decide, by decide⟩ dX11_init_251 (by decide) rfl (fun c_37 => ?_) (fun c_37 => ?_)
      · exact absurd c_37 (by decide)
      refine g_iload_n C 1 rfl dX11_init_254 rfl ?_
      refine g_goto C (pc' := 262) dX11_init_255 (by decide) ?_
      refine g_istore_n C (lv' := [(0, vR h), (1, vI 9), (2, vI 9)]) [1, 2, 0] (by decide) rfl rfl dX11_init_262 rfl ?_
      refine g_aload_n C 0 rfl dX11_init_263 rfl ?_
      refine g_get C 0 fd_X11_init_27 rfl rfl rfl dX11_init_264 rfl ?_
      refine g_iload_n C 1 rfl dX11_init_267 rfl ?_
      refine g_iload_n C 2 rfl dX11_init_268 rfl ?_
      refine g_bipush C (by decide) dX11_init_269 rfl ?_
      refine g_icmp_gt C (tgt := 281) ⟨by decide, by decide⟩ ⟨by decide, by decide⟩ dX11_init_271 (by decide) rfl (fun c_38 => ?_) (fun c_38 => ?_)
      · refine g_bipush C (by decide) dX11_init_281 rfl ?_
        refine g_iload_n C 2 rfl dX11_init_283 rfl ?_
        refine g_isub C (r := 3) (by decide) dX11_init_284 rfl ?_
        refine g_callS C (mc := 0) (ms := 0) (rm := rm_K_m_quarter) (As := [vI 3]) (wc := []) (wr := [(h, .inr (12, [vR q_1, vR q_2, vR q_3, vR q_4, vR q_5, vI 0, vR q_6, vL 0, vL 0, vL 0, vL 0, vL 0, vL 0, vL 0, vI 0, vI 0, vR q_7, vI 0, vR q_8, vI 0])), (q_1, cL E 310 (ua (ua (ua (ua (ua (ua (ua (ua (ua (ua (ua (ua (ua (ua (ua (ua (ua (fun _ => 0) 14 10000) 15 100) 16 1000) 17 500) 18 3000) 19 20000) 20 5000) 21 100) 22 1000) 23 48) 24 20000) 25 500) 27 24) 29 4) 30 480) 31 1200) 97 (-6))), (q_2, cL E 310 (fun _ => 0)), (q_3, cL E 620 (fun _ => 0)), (q_4, cZ E 2 (fun _ => 0)), (q_5, cI E 80 (fun _ => 0)), (q_6, cI E 24 (ua (ua (ua (ua (ua (ua (ua (ua (ua (fun _ => 0) 0 (cosT 0)) 1 (cosT 1)) 2 (cosT 2)) 3 (cosT 3)) 4 (cosT 4)) 5 (cosT 5)) 6 (cosT 6)) 7 (-(cosT 5))) 8 (-(cosT 4)))), (q_7, cI E 16 (fun _ => 0)), (q_8, cI E 120 (fun _ => 0))]) (st := [vI 9, vR q_6]) gX11_init_X11_quarter rfl (K_m_quarter l E 3 (by first | assumption | omega)) hyd_X11_quarter rfl [] [0, 1, 2, 3, 4, 5, 6, 7, 8] rfl rfl rfl rfl rfl (by decide) ⟨rfl, rfl⟩ ⟨Nat.le_of_ble_eq_true rfl, Nat.le_of_ble_eq_true rfl, Nat.le_of_ble_eq_true rfl, Nat.le_of_ble_eq_true rfl⟩ (Nat.le_of_ble_eq_true rfl) dX11_init_285 (rfl : _ = 8) (rfl : _ = 1482) rfl ?_
        rintro _ _ ⟨rfl, rfl⟩
        refine g_is (ws' := [(h, .inr (12, [vR q_1, vR q_2, vR q_3, vR q_4, vR q_5, vI 0, vR q_6, vL 0, vL 0, vL 0, vL 0, vL 0, vL 0, vL 0, vI 0, vI 0, vR q_7, vI 0, vR q_8, vI 0])), (q_1, cL E 310 (ua (ua (ua (ua (ua (ua (ua (ua (ua (ua (ua (ua (ua (ua (ua (ua (ua (fun _ => 0) 14 10000) 15 100) 16 1000) 17 500) 18 3000) 19 20000) 20 5000) 21 100) 22 1000) 23 48) 24 20000) 25 500) 27 24) 29 4) 30 480) 31 1200) 97 (-6))), (q_2, cL E 310 (fun _ => 0)), (q_3, cL E 620 (fun _ => 0)), (q_4, cZ E 2 (fun _ => 0)), (q_5, cI E 80 (fun _ => 0)), (q_6, cI E 24 (ua (ua (ua (ua (ua (ua (ua (ua (ua (fun _ => 0) 0 (cosT 0)) 1 (cosT 1)) 2 (cosT 2)) 3 (cosT 3)) 4 (cosT 4)) 5 (cosT 5)) 6 (cosT 6)) 7 (-(cosT 5))) 8 (-(cosT 4)))), (q_7, cI E 16 (fun _ => 0)), (q_8, cI E 120 (fun _ => 0))]) (st' := [vI (cosT 3), vI 9, vR q_6]) rfl rfl ?_
        refine g_ineg C rfl dX11_init_288 rfl ?_
        refine g_iast C 6 rfl (by decide) (by decide) (by decide) (ws' := [(h, .inr (12, [vR q_1, vR q_2, vR q_3, vR q_4, vR q_5, vI 0, vR q_6, vL 0, vL 0, vL 0, vL 0, vL 0, vL 0, vL 0, vI 0, vI 0, vR q_7, vI 0, vR q_8, vI 0])), (q_1, cL E 310 (ua (ua (ua (ua (ua (ua (ua (ua (ua (ua (ua (ua (ua (ua (ua (ua (ua (fun _ => 0) 14 10000) 15 100) 16 1000) 17 500) 18 3000) 19 20000) 20 5000) 21 100) 22 1000) 23 48) 24 20000) 25 500) 27 24) 29 4) 30 480) 31 1200) 97 (-6))), (q_2, cL E 310 (fun _ => 0)), (q_3, cL E 620 (fun _ => 0)), (q_4, cZ E 2 (fun _ => 0)), (q_5, cI E 80 (fun _ => 0)), (q_6, cI E 24 (ua (ua (ua (ua (ua (ua (ua (ua (ua (ua (fun _ => 0) 0 (cosT 0)) 1 (cosT 1)) 2 (cosT 2)) 3 (cosT 3)) 4 (cosT 4)) 5 (cosT 5)) 6 (cosT 6)) 7 (-(cosT 5))) 8 (-(cosT 4))) 9 (-(cosT 3)))), (q_7, cI E 16 (fun _ => 0)), (q_8, cI E 120 (fun _ => 0))]) rfl dX11_init_289 rfl ?_
        refine g_iinc C (r := 10) (lv' := [(0, vR h), (1, vI 10), (2, vI 9)]) 1 [1, 0, 2] rfl (by decide) (by decide) rfl rfl dX11_init_290 rfl ?_
        refine g_goto C (pc' := 242) dX11_init_293 (by decide) ?_
        refine g_iload_n C 1 rfl dX11_init_242 rfl ?_
        refine g_bipush C (by decide) dX11_init_243 rfl ?_
        refine g_icmp_ge C (tgt := 296) ⟨by decide, by decide⟩ ⟨by decide, by decide⟩ dX11_init_245 (by decide) rfl (fun c_39 => ?_) (fun c_39 => ?_)
        · exact absurd c_39 (by decide)
        refine g_iload_n C 1 rfl dX11_init_248 rfl ?_
        refine g_bipush C (by decide) dX11_init_249 rfl ?_
        refine g_icmp_gt C (tgt := 258) ⟨by decide, by decide⟩ ⟨by decide, by decide⟩ dX11_init_251 (by decide) rfl (fun c_40 => ?_) (fun c_40 => ?_)
        · exact absurd c_40 (by decide)
        refine g_iload_n C 1 rfl dX11_init_254 rfl ?_
        refine g_goto C (pc' := 262) dX11_init_255 (by decide) ?_
        refine g_istore_n C (lv' := [(0, vR h), (1, vI 10), (2, vI 10)]) [1, 2, 0] (by decide) rfl rfl dX11_init_262 rfl ?_
        refine g_aload_n C 0 rfl dX11_init_263 rfl ?_
        refine g_get C 0 fd_X11_init_27 rfl rfl rfl dX11_init_264 rfl ?_
        refine g_iload_n C 1 rfl dX11_init_267 rfl ?_
        refine g_iload_n C 2 rfl dX11_init_268 rfl ?_
        refine g_bipush C (by decide) dX11_init_269 rfl ?_
        refine g_icmp_gt C (tgt := 281) ⟨by decide, by decide⟩ ⟨by decide, by decide⟩ dX11_init_271 (by decide) rfl (fun c_41 => ?_) (fun c_41 => ?_)
        · refine g_bipush C (by decide) dX11_init_281 rfl ?_
          refine g_iload_n C 2 rfl dX11_init_283 rfl ?_
          refine g_isub C (r := 2) (by decide) dX11_init_284 rfl ?_
          refine g_callS C (mc := 0) (ms := 0) (rm := rm_K_m_quarter) (As := [vI 2]) (wc := []) (wr := [(h, .inr (12, [vR q_1, vR q_2, vR q_3, vR q_4, vR q_5, vI 0, vR q_6, vL 0, vL 0, vL 0, vL 0, vL 0, vL 0, vL 0, vI 0, vI 0, vR q_7, vI 0, vR q_8, vI 0])), (q_1, cL E 310 (ua (ua (ua (ua (ua (ua (ua (ua (ua (ua (ua (ua (ua (ua (ua (ua (ua (fun _ => 0) 14 10000) 15 100) 16 1000) 17 500) 18 3000) 19 20000) 20 5000) 21 100) 22 1000) 23 48) 24 20000) 25 500) 27 24) 29 4) 30 480) 31 1200) 97 (-6))), (q_2, cL E 310 (fun _ => 0)), (q_3, cL E 620 (fun _ => 0)), (q_4, cZ E 2 (fun _ => 0)), (q_5, cI E 80 (fun _ => 0)), (q_6, cI E 24 (ua (ua (ua (ua (ua (ua (ua (ua (ua (ua (fun _ => 0) 0 (cosT 0)) 1 (cosT 1)) 2 (cosT 2)) 3 (cosT 3)) 4 (cosT 4)) 5 (cosT 5)) 6 (cosT 6)) 7 (-(cosT 5))) 8 (-(cosT 4))) 9 (-(cosT 3)))), (q_7, cI E 16 (fun _ => 0)), (q_8, cI E 120 (fun _ => 0))]) (st := [vI 10, vR q_6]) gX11_init_X11_quarter rfl (K_m_quarter l E 2 (by first | assumption | omega)) hyd_X11_quarter rfl [] [0, 1, 2, 3, 4, 5, 6, 7, 8] rfl rfl rfl rfl rfl (by decide) ⟨rfl, rfl⟩ ⟨Nat.le_of_ble_eq_true rfl, Nat.le_of_ble_eq_true rfl, Nat.le_of_ble_eq_true rfl, Nat.le_of_ble_eq_true rfl⟩ (Nat.le_of_ble_eq_true rfl) dX11_init_285 (rfl : _ = 8) (rfl : _ = 1482) rfl ?_
          rintro _ _ ⟨rfl, rfl⟩
          refine g_is (ws' := [(h, .inr (12, [vR q_1, vR q_2, vR q_3, vR q_4, vR q_5, vI 0, vR q_6, vL 0, vL 0, vL 0, vL 0, vL 0, vL 0, vL 0, vI 0, vI 0, vR q_7, vI 0, vR q_8, vI 0])), (q_1, cL E 310 (ua (ua (ua (ua (ua (ua (ua (ua (ua (ua (ua (ua (ua (ua (ua (ua (ua (fun _ => 0) 14 10000) 15 100) 16 1000) 17 500) 18 3000) 19 20000) 20 5000) 21 100) 22 1000) 23 48) 24 20000) 25 500) 27 24) 29 4) 30 480) 31 1200) 97 (-6))), (q_2, cL E 310 (fun _ => 0)), (q_3, cL E 620 (fun _ => 0)), (q_4, cZ E 2 (fun _ => 0)), (q_5, cI E 80 (fun _ => 0)), (q_6, cI E 24 (ua (ua (ua (ua (ua (ua (ua (ua (ua (ua (fun _ => 0) 0 (cosT 0)) 1 (cosT 1)) 2 (cosT 2)) 3 (cosT 3)) 4 (cosT 4)) 5 (cosT 5)) 6 (cosT 6)) 7 (-(cosT 5))) 8 (-(cosT 4))) 9 (-(cosT 3)))), (q_7, cI E 16 (fun _ => 0)), (q_8, cI E 120 (fun _ => 0))]) (st' := [vI (cosT 2), vI 10, vR q_6]) rfl rfl ?_
          refine g_ineg C rfl dX11_init_288 rfl ?_
          refine g_iast C 6 rfl (by decide) (by decide) (by decide) (ws' := [(h, .inr (12, [vR q_1, vR q_2, vR q_3, vR q_4, vR q_5, vI 0, vR q_6, vL 0, vL 0, vL 0, vL 0, vL 0, vL 0, vL 0, vI 0, vI 0, vR q_7, vI 0, vR q_8, vI 0])), (q_1, cL E 310 (ua (ua (ua (ua (ua (ua (ua (ua (ua (ua (ua (ua (ua (ua (ua (ua (ua (fun _ => 0) 14 10000) 15 100) 16 1000) 17 500) 18 3000) 19 20000) 20 5000) 21 100) 22 1000) 23 48) 24 20000) 25 500) 27 24) 29 4) 30 480) 31 1200) 97 (-6))), (q_2, cL E 310 (fun _ => 0)), (q_3, cL E 620 (fun _ => 0)), (q_4, cZ E 2 (fun _ => 0)), (q_5, cI E 80 (fun _ => 0)), (q_6, cI E 24 (ua (ua (ua (ua (ua (ua (ua (ua (ua (ua (ua (fun _ => 0) 0 (cosT 0)) 1 (cosT 1)) 2 (cosT 2)) 3 (cosT 3)) 4 (cosT 4)) 5 (cosT 5)) 6 (cosT 6)) 7 (-(cosT 5))) 8 (-(cosT 4))) 9 (-(cosT 3))) 10 (-(cosT 2)))), (q_7, cI E 16 (fun _ => 0)), (q_8, cI E 120 (fun _ => 0))]) rfl dX11_init_289 rfl ?_
          refine g_iinc C (r := 11) (lv' := [(0, vR h), (1, vI 11), (2, vI 10)]) 1 [1, 0, 2] rfl (by decide) (by decide) rfl rfl dX11_init_290 rfl ?_
          refine g_goto C (pc' := 242) dX11_init_293 (by decide) ?_
          refine g_iload_n C 1 rfl dX11_init_242 rfl ?_
          refine g_bipush C (by decide) dX11_init_243 rfl ?_
          refine g_icmp_ge C (tgt := 296) ⟨by decide, by decide⟩ ⟨by decide, by decide⟩ dX11_init_245 (by decide) rfl (fun c_42 => ?_) (fun c_42 => ?_)
          · exact absurd c_42 (by decide)
          refine g_iload_n C 1 rfl dX11_init_248 rfl ?_
          refine g_bipush C (by decide) dX11_init_249 rfl ?_
          refine g_icmp_gt C (tgt := 258) ⟨by decide, by decide⟩ ⟨by decide, by decide⟩ dX11_init_251 (by decide) rfl (fun c_43 => ?_) (fun c_43 => ?_)
          · exact absurd c_43 (by decide)
          refine g_iload_n C 1 rfl dX11_init_254 rfl ?_
          refine g_goto C (pc' := 262) dX11_init_255 (by decide) ?_
          refine g_istore_n C (lv' := [(0, vR h), (1, vI 11), (2, vI 11)]) [1, 2, 0] (by decide) rfl rfl dX11_init_262 rfl ?_
          refine g_aload_n C 0 rfl dX11_init_263 rfl ?_
          refine g_get C 0 fd_X11_init_27 rfl rfl rfl dX11_init_264 rfl ?_
          refine g_iload_n C 1 rfl dX11_init_267 rfl ?_
          refine g_iload_n C 2 rfl dX11_init_268 rfl ?_
          refine g_bipush C (by decide) dX11_init_269 rfl ?_
          refine g_icmp_gt C (tgt := 281) ⟨by decide, by decide⟩ ⟨by decide, by decide⟩ dX11_init_271 (by decide) rfl (fun c_44 => ?_) (fun c_44 => ?_)
          · refine g_bipush C (by decide) dX11_init_281 rfl ?_
            refine g_iload_n C 2 rfl dX11_init_283 rfl ?_
            refine g_isub C (r := 1) (by decide) dX11_init_284 rfl ?_
            refine g_callS C (mc := 0) (ms := 0) (rm := rm_K_m_quarter) (As := [vI 1]) (wc := []) (wr := [(h, .inr (12, [vR q_1, vR q_2, vR q_3, vR q_4, vR q_5, vI 0, vR q_6, vL 0, vL 0, vL 0, vL 0, vL 0, vL 0, vL 0, vI 0, vI 0, vR q_7, vI 0, vR q_8, vI 0])), (q_1, cL E 310 (ua (ua (ua (ua (ua (ua (ua (ua (ua (ua (ua (ua (ua (ua (ua (ua (ua (fun _ => 0) 14 10000) 15 100) 16 1000) 17 500) 18 3000) 19 20000) 20 5000) 21 100) 22 1000) 23 48) 24 20000) 25 500) 27 24) 29 4) 30 480) 31 1200) 97 (-6))), (q_2, cL E 310 (fun _ => 0)), (q_3, cL E 620 (fun _ => 0)), (q_4, cZ E 2 (fun _ => 0)), (q_5, cI E 80 (fun _ => 0)), (q_6, cI E 24 (ua (ua (ua (ua (ua (ua (ua (ua (ua (ua (ua (fun _ => 0) 0 (cosT 0)) 1 (cosT 1)) 2 (cosT 2)) 3 (cosT 3)) 4 (cosT 4)) 5 (cosT 5)) 6 (cosT 6)) 7 (-(cosT 5))) 8 (-(cosT 4))) 9 (-(cosT 3))) 10 (-(cosT 2)))), (q_7, cI E 16 (fun _ => 0)), (q_8, cI E 120 (fun _ => 0))]) (st := [vI 11, vR q_6]) gX11_init_X11_quarter rfl (K_m_quarter l E 1 (by first | assumption | omega)) hyd_X11_quarter rfl [] [0, 1, 2, 3, 4, 5, 6, 7, 8] rfl rfl rfl rfl rfl (by decide) ⟨rfl, rfl⟩ ⟨Nat.le_of_ble_eq_true rfl, Nat.le_of_ble_eq_true rfl, Nat.le_of_ble_eq_true rfl, Nat.le_of_ble_eq_true rfl⟩ (Nat.le_of_ble_eq_true rfl) dX11_init_285 (rfl : _ = 8) (rfl : _ = 1482) rfl ?_
            rintro _ _ ⟨rfl, rfl⟩
            refine g_is (ws' := [(h, .inr (12, [vR q_1, vR q_2, vR q_3, vR q_4, vR q_5, vI 0, vR q_6, vL 0, vL 0, vL 0, vL 0, vL 0, vL 0, vL 0, vI 0, vI 0, vR q_7, vI 0, vR q_8, vI 0])), (q_1, cL E 310 (ua (ua (ua (ua (ua (ua (ua (ua (ua (ua (ua (ua (ua (ua (ua (ua (ua (fun _ => 0) 14 10000) 15 100) 16 1000) 17 500) 18 3000) 19 20000) 20 5000) 21 100) 22 1000) 23 48) 24 20000) 25 500) 27 24) 29 4) 30 480) 31 1200) 97 (-6))), (q_2, cL E 310 (fun _ => 0)), (q_3, cL E 620 (fun _ => 0)), (q_4, cZ E 2 (fun _ => 0)), (q_5, cI E 80 (fun _ => 0)), (q_6, cI E 24 (ua (ua (ua (ua (ua (ua (ua (ua (ua (ua (ua (fun _ => 0) 0 (cosT 0)) 1 (cosT 1)) 2 (cosT 2)) 3 (cosT 3)) 4 (cosT 4)) 5 (cosT 5)) 6 (cosT 6)) 7 (-(cosT 5))) 8 (-(cosT 4))) 9 (-(cosT 3))) 10 (-(cosT 2)))), (q_7, cI E 16 (fun _ => 0)), (q_8, cI E 120 (fun _ => 0))]) (st' := [vI (cosT 1), vI 11, vR q_6]) rfl rfl ?_
            refine g_ineg C rfl dX11_init_288 rfl ?_
            refine g_iast C 6 rfl (by decide) (by decide) (by decide) (ws' := [(h, .inr (12, [vR q_1, vR q_2, vR q_3, vR q_4, vR q_5, vI 0, vR q_6, vL 0, vL 0, vL 0, vL 0, vL 0, vL 0, vL 0, vI 0, vI 0, vR q_7, vI 0, vR q_8, vI 0])), (q_1, cL E 310 (ua (ua (ua (ua (ua (ua (ua (ua (ua (ua (ua (ua (ua (ua (ua (ua (ua (fun _ => 0) 14 10000) 15 100) 16 1000) 17 500) 18 3000) 19 20000) 20 5000) 21 100) 22 1000) 23 48) 24 20000) 25 500) 27 24) 29 4) 30 480) 31 1200) 97 (-6))), (q_2, cL E 310 (fun _ => 0)), (q_3, cL E 620 (fun _ => 0)), (q_4, cZ E 2 (fun _ => 0)), (q_5, cI E 80 (fun _ => 0)), (q_6, cI E 24 (ua (ua (ua (ua (ua (ua (ua (ua (ua (ua (ua (ua (fun _ => 0) 0 (cosT 0)) 1 (cosT 1)) 2 (cosT 2)) 3 (cosT 3)) 4 (cosT 4)) 5 (cosT 5)) 6 (cosT 6)) 7 (-(cosT 5))) 8 (-(cosT 4))) 9 (-(cosT 3))) 10 (-(cosT 2))) 11 (-(cosT 1)))), (q_7, cI E 16 (fun _ => 0)), (q_8, cI E 120 (fun _ => 0))]) rfl dX11_init_289 rfl ?_
            refine g_iinc C (r := 12) (lv' := [(0, vR h), (1, vI 12), (2, vI 11)]) 1 [1, 0, 2] rfl (by decide) (by decide) rfl rfl dX11_init_290 rfl ?_
            refine g_goto C (pc' := 242) dX11_init_293 (by decide) ?_
            refine g_iload_n C 1 rfl dX11_init_242 rfl ?_
            refine g_bipush C (by decide) dX11_init_243 rfl ?_
            refine g_icmp_ge C (tgt := 296) ⟨by decide, by decide⟩ ⟨by decide, by decide⟩ dX11_init_245 (by decide) rfl (fun c_45 => ?_) (fun c_45 => ?_)
            · exact absurd c_45 (by decide)
            refine g_iload_n C 1 rfl dX11_init_248 rfl ?_
            refine g_bipush C (by decide) dX11_init_249 rfl ?_
            refine g_icmp_gt C (tgt := 258) ⟨by decide, by decide⟩ ⟨by decide, by decide⟩ dX11_init_251 (by decide) rfl (fun c_46 => ?_) (fun c_46 => ?_)
            · exact absurd c_46 (by decide)
            refine g_iload_n C 1 rfl dX11_init_254 rfl ?_
            refine g_goto C (pc' := 262) dX11_init_255 (by decide) ?_
            refine g_istore_n C (lv' := [(0, vR h), (1, vI 12), (2, vI 12)]) [1, 2, 0] (by decide) rfl rfl dX11_init_262 rfl ?_
            refine g_aload_n C 0 rfl dX11_init_263 rfl ?_
            refine g_get C 0 fd_X11_init_27 rfl rfl rfl dX11_init_264 rfl ?_
            refine g_iload_n C 1 rfl dX11_init_267 rfl ?_
            refine g_iload_n C 2 rfl dX11_init_268 rfl ?_
            refine g_bipush C (by decide) dX11_init_269 rfl ?_
            refine g_icmp_gt C (tgt := 281) ⟨by decide, by decide⟩ ⟨by decide, by decide⟩ dX11_init_271 (by decide) rfl (fun c_47 => ?_) (fun c_47 => ?_)
            · refine g_bipush C (by decide) dX11_init_281 rfl ?_
              refine g_iload_n C 2 rfl dX11_init_283 rfl ?_
              refine g_isub C (r := 0) (by decide) dX11_init_284 rfl ?_
              refine g_callS C (mc := 0) (ms := 0) (rm := rm_K_m_quarter) (As := [vI 0]) (wc := []) (wr := [(h, .inr (12, [vR q_1, vR q_2, vR q_3, vR q_4, vR q_5, vI 0, vR q_6, vL 0, vL 0, vL 0, vL 0, vL 0, vL 0, vL 0, vI 0, vI 0, vR q_7, vI 0, vR q_8, vI 0])), (q_1, cL E 310 (ua (ua (ua (ua (ua (ua (ua (ua (ua (ua (ua (ua (ua (ua (ua (ua (ua (fun _ => 0) 14 10000) 15 100) 16 1000) 17 500) 18 3000) 19 20000) 20 5000) 21 100) 22 1000) 23 48) 24 20000) 25 500) 27 24) 29 4) 30 480) 31 1200) 97 (-6))), (q_2, cL E 310 (fun _ => 0)), (q_3, cL E 620 (fun _ => 0)), (q_4, cZ E 2 (fun _ => 0)), (q_5, cI E 80 (fun _ => 0)), (q_6, cI E 24 (ua (ua (ua (ua (ua (ua (ua (ua (ua (ua (ua (ua (fun _ => 0) 0 (cosT 0)) 1 (cosT 1)) 2 (cosT 2)) 3 (cosT 3)) 4 (cosT 4)) 5 (cosT 5)) 6 (cosT 6)) 7 (-(cosT 5))) 8 (-(cosT 4))) 9 (-(cosT 3))) 10 (-(cosT 2))) 11 (-(cosT 1)))), (q_7, cI E 16 (fun _ => 0)), (q_8, cI E 120 (fun _ => 0))]) (st := [vI 12, vR q_6]) gX11_init_X11_quarter rfl (K_m_quarter l E 0 (by first | assumption | omega)) hyd_X11_quarter rfl [] [0, 1, 2, 3, 4, 5, 6, 7, 8] rfl rfl rfl rfl rfl (by decide) ⟨rfl, rfl⟩ ⟨Nat.le_of_ble_eq_true rfl, Nat.le_of_ble_eq_true rfl, Nat.le_of_ble_eq_true rfl, Nat.le_of_ble_eq_true rfl⟩ (Nat.le_of_ble_eq_true rfl) dX11_init_285 (rfl : _ = 8) (rfl : _ = 1482) rfl ?_
              rintro _ _ ⟨rfl, rfl⟩
              refine g_is (ws' := [(h, .inr (12, [vR q_1, vR q_2, vR q_3, vR q_4, vR q_5, vI 0, vR q_6, vL 0, vL 0, vL 0, vL 0, vL 0, vL 0, vL 0, vI 0, vI 0, vR q_7, vI 0, vR q_8, vI 0])), (q_1, cL E 310 (ua (ua (ua (ua (ua (ua (ua (ua (ua (ua (ua (ua (ua (ua (ua (ua (ua (fun _ => 0) 14 10000) 15 100) 16 1000) 17 500) 18 3000) 19 20000) 20 5000) 21 100) 22 1000) 23 48) 24 20000) 25 500) 27 24) 29 4) 30 480) 31 1200) 97 (-6))), (q_2, cL E 310 (fun _ => 0)), (q_3, cL E 620 (fun _ => 0)), (q_4, cZ E 2 (fun _ => 0)), (q_5, cI E 80 (fun _ => 0)), (q_6, cI E 24 (ua (ua (ua (ua (ua (ua (ua (ua (ua (ua (ua (ua (fun _ => 0) 0 (cosT 0)) 1 (cosT 1)) 2 (cosT 2)) 3 (cosT 3)) 4 (cosT 4)) 5 (cosT 5)) 6 (cosT 6)) 7 (-(cosT 5))) 8 (-(cosT 4))) 9 (-(cosT 3))) 10 (-(cosT 2))) 11 (-(cosT 1)))), (q_7, cI E 16 (fun _ => 0)), (q_8, cI E 120 (fun _ => 0))]) (st' := [vI (cosT 0), vI 12, vR q_6]) rfl rfl ?_
              refine g_ineg C rfl dX11_init_288 rfl ?_
              refine g_iast C 6 rfl (by decide) (by decide) (by decide) (ws' := [(h, .inr (12, [vR q_1, vR q_2, vR q_3, vR q_4, vR q_5, vI 0, vR q_6, vL 0, vL 0, vL 0, vL 0, vL 0, vL 0, vL 0, vI 0, vI 0, vR q_7, vI 0, vR q_8, vI 0])), (q_1, cL E 310 (ua (ua (ua (ua (ua (ua (ua (ua (ua (ua (ua (ua (ua (ua (ua (ua (ua (fun _ => 0) 14 10000) 15 100) 16 1000) 17 500) 18 3000) 19 20000) 20 5000) 21 100) 22 1000) 23 48) 24 20000) 25 500) 27 24) 29 4) 30 480) 31 1200) 97 (-6))), (q_2, cL E 310 (fun _ => 0)), (q_3, cL E 620 (fun _ => 0)), (q_4, cZ E 2 (fun _ => 0)), (q_5, cI E 80 (fun _ => 0)), (q_6, cI E 24 (ua (ua (ua (ua (ua (ua (ua (ua (ua (ua (ua (ua (ua (fun _ => 0) 0 (cosT 0)) 1 (cosT 1)) 2 (cosT 2)) 3 (cosT 3)) 4 (cosT 4)) 5 (cosT 5)) 6 (cosT 6)) 7 (-(cosT 5))) 8 (-(cosT 4))) 9 (-(cosT 3))) 10 (-(cosT 2))) 11 (-(cosT 1))) 12 (-(cosT 0)))), (q_7, cI E 16 (fun _ => 0)), (q_8, cI E 120 (fun _ => 0))]) rfl dX11_init_289 rfl ?_
              refine g_iinc C (r := 13) (lv' := [(0, vR h), (1, vI 13), (2, vI 12)]) 1 [1, 0, 2] rfl (by decide) (by decide) rfl rfl dX11_init_290 rfl ?_
              refine g_goto C (pc' := 242) dX11_init_293 (by decide) ?_
              refine g_iload_n C 1 rfl dX11_init_242 rfl ?_
              refine g_bipush C (by decide) dX11_init_243 rfl ?_
              refine g_icmp_ge C (tgt := 296) ⟨by decide, by decide⟩ ⟨by decide, by decide⟩ dX11_init_245 (by decide) rfl (fun c_48 => ?_) (fun c_48 => ?_)
              · exact absurd c_48 (by decide)
              refine g_iload_n C 1 rfl dX11_init_248 rfl ?_
              refine g_bipush C (by decide) dX11_init_249 rfl ?_
              refine g_icmp_gt C (tgt := 258) ⟨by decide, by decide⟩ ⟨by decide, by decide⟩ dX11_init_251 (by decide) rfl (fun c_49 => ?_) (fun c_49 => ?_)
              · refine g_bipush C (by decide) dX11_init_258 rfl ?_
                refine g_iload_n C 1 rfl dX11_init_260 rfl ?_
                refine g_isub C (r := 11) (by decide) dX11_init_261 rfl ?_
                refine g_istore_n C (lv' := [(0, vR h), (1, vI 13), (2, vI 11)]) [1, 2, 0] (by decide) rfl rfl dX11_init_262 rfl ?_
                refine g_aload_n C 0 rfl dX11_init_263 rfl ?_
                refine g_get C 0 fd_X11_init_27 rfl rfl rfl dX11_init_264 rfl ?_
                refine g_iload_n C 1 rfl dX11_init_267 rfl ?_
                refine g_iload_n C 2 rfl dX11_init_268 rfl ?_
                refine g_bipush C (by decide) dX11_init_269 rfl ?_
                refine g_icmp_gt C (tgt := 281) ⟨by decide, by decide⟩ ⟨by decide, by decide⟩ dX11_init_271 (by decide) rfl (fun c_50 => ?_) (fun c_50 => ?_)
                · refine g_bipush C (by decide) dX11_init_281 rfl ?_
                  refine g_iload_n C 2 rfl dX11_init_283 rfl ?_
                  refine g_isub C (r := 1) (by decide) dX11_init_284 rfl ?_
                  refine g_callS C (mc := 0) (ms := 0) (rm := rm_K_m_quarter) (As := [vI 1]) (wc := []) (wr := [(h, .inr (12, [vR q_1, vR q_2, vR q_3, vR q_4, vR q_5, vI 0, vR q_6, vL 0, vL 0, vL 0, vL 0, vL 0, vL 0, vL 0, vI 0, vI 0, vR q_7, vI 0, vR q_8, vI 0])), (q_1, cL E 310 (ua (ua (ua (ua (ua (ua (ua (ua (ua (ua (ua (ua (ua (ua (ua (ua (ua (fun _ => 0) 14 10000) 15 100) 16 1000) 17 500) 18 3000) 19 20000) 20 5000) 21 100) 22 1000) 23 48) 24 20000) 25 500) 27 24) 29 4) 30 480) 31 1200) 97 (-6))), (q_2, cL E 310 (fun _ => 0)), (q_3, cL E 620 (fun _ => 0)), (q_4, cZ E 2 (fun _ => 0)), (q_5, cI E 80 (fun _ => 0)), (q_6, cI E 24 (ua (ua (ua (ua (ua (ua (ua (ua (ua (ua (ua (ua (ua (fun _ => 0) 0 (cosT 0)) 1 (cosT 1)) 2 (cosT 2)) 3 (cosT 3)) 4 (cosT 4)) 5 (cosT 5)) 6 (cosT 6)) 7 (-(cosT 5))) 8 (-(cosT 4))) 9 (-(cosT 3))) 10 (-(cosT 2))) 11 (-(cosT 1))) 12 (-(cosT 0)))), (q_7, cI E 16 (fun _ => 0)), (q_8, cI E 120 (fun _ => 0))]) (st := [vI 13, vR q_6]) gX11_init_X11_quarter rfl (K_m_quarter l E 1 (by first | assumption | omega)) hyd_X11_quarter rfl [] [0, 1, 2, 3, 4, 5, 6, 7, 8] rfl rfl rfl rfl rfl (by decide) ⟨rfl, rfl⟩ ⟨Nat.le_of_ble_eq_true rfl, Nat.le_of_ble_eq_true rfl, Nat.le_of_ble_eq_true rfl, Nat.le_of_ble_eq_true rfl⟩ (Nat.le_of_ble_eq_true rfl) dX11_init_285 (rfl : _ = 8) (rfl : _ = 1482) rfl ?_
                  rintro _ _ ⟨rfl, rfl⟩
                  refine g_is (ws' := [(h, .inr (12, [vR q_1, vR q_2, vR q_3, vR q_4, vR q_5, vI 0, vR q_6, vL 0, vL 0, vL 0, vL 0, vL 0, vL 0, vL 0, vI 0, vI 0, vR q_7, vI 0, vR q_8, vI 0])), (q_1, cL E 310 (ua (ua (ua (ua (ua (ua (ua (ua (ua (ua (ua (ua (ua (ua (ua (ua (ua (fun _ => 0) 14 10000) 15 100) 16 1000) 17 500) 18 3000) 19 20000) 20 5000) 21 100) 22 1000) 23 48) 24 20000) 25 500) 27 24) 29 4) 30 480) 31 1200) 97 (-6))), (q_2, cL E 310 (fun _ => 0)), (q_3, cL E 620 (fun _ => 0)), (q_4, cZ E 2 (fun _ => 0)), (q_5, cI E 80 (fun _ => 0)), (q_6, cI E 24 (ua (ua (ua (ua (ua (ua (ua (ua (ua (ua (ua (ua (ua (fun _ => 0) 0 (cosT 0)) 1 (cosT 1)) 2 (cosT 2)) 3 (cosT 3)) 4 (cosT 4)) 5 (cosT 5)) 6 (cosT 6)) 7 (-(cosT 5))) 8 (-(cosT 4))) 9 (-(cosT 3))) 10 (-(cosT 2))) 11 (-(cosT 1))) 12 (-(cosT 0)))), (q_7, cI E 16 (fun _ => 0)), (q_8, cI E 120 (fun _ => 0))]) (st' := [vI (cosT 1), vI 13, vR q_6]) rfl rfl ?_
                  refine g_ineg C rfl dX11_init_288 rfl ?_
                  refine g_iast C 6 rfl (by decide) (by decide) (by decide) (ws' := [(h, .inr (12, [vR q_1, vR q_2, vR q_3, vR q_4, vR q_5, vI 0, vR q_6, vL 0, vL 0, vL 0, vL 0, vL 0, vL 0, vL 0, vI 0, vI 0, vR q_7, vI 0, vR q_8, vI 0])), (q_1, cL E 310 (ua (ua (ua (ua (ua (ua (ua (ua (ua (ua (ua (ua (ua (ua (ua (ua (ua (fun _ => 0) 14 10000) 15 100) 16 1000) 17 500) 18 3000) 19 20000) 20 5000) 21 100) 22 1000) 23 48) 24 20000) 25 500) 27 24) 29 4) 30 480) 31 1200) 97 (-6))), (q_2, cL E 310 (fun _ => 0)), (q_3, cL E 620 (fun _ => 0)), (q_4, cZ E 2 (fun _ => 0)), (q_5, cI E 80 (fun _ => 0)), (q_6, cI E 24 (ua (ua (ua (ua (ua (ua (ua (ua (ua (ua (ua (ua (ua (ua (fun _ => 0) 0 (cosT 0)) 1 (cosT 1)) 2 (cosT 2)) 3 (cosT 3)) 4 (cosT 4)) 5 (cosT 5)) 6 (cosT 6)) 7 (-(cosT 5))) 8 (-(cosT 4))) 9 (-(cosT 3))) 10 (-(cosT 2))) 11 (-(cosT 1))) 12 (-(cosT 0))) 13 (-(cosT 1)))), (q_7, cI E 16 (fun _ => 0)), (q_8, cI E 120 (fun _ => 0))]) rfl dX11_init_289 rfl ?_
                  refine g_iinc C (r := 14) (lv' := [(0, vR h), (1, vI 14), (2, vI 11)]) 1 [1, 0, 2] rfl (by decide) (by decide) rfl rfl dX11_init_290 rfl ?_
                  refine g_goto C (pc' := 242) dX11_init_293 (by decide) ?_
                  refine g_iload_n C 1 rfl dX11_init_242 rfl ?_
                  refine g_bipush C (by decide) dX11_init_243 rfl ?_
                  refine g_icmp_ge C (tgt := 296) ⟨by decide, by decide⟩ ⟨by decide, by decide⟩ dX11_init_245 (by decide) rfl (fun c_51 => ?_) (fun c_51 => ?_)
                  · exact absurd c_51 (by decide)
                  refine g_iload_n C 1 rfl dX11_init_248 rfl ?_
                  refine g_bipush C (by decide) dX11_init_249 rfl ?_
                  refine g_icmp_gt C (tgt := 258) ⟨by decide, by decide⟩ ⟨by decide, by decide⟩ dX11_init_251 (by decide) rfl (fun c_52 => ?_) (fun c_52 => ?_)
                  · refine g_bipush C (by decide) dX11_init_258 rfl ?_
                    refine g_iload_n C 1 rfl dX11_init_260 rfl ?_
                    refine g_isub C (r := 10) (by decide) dX11_init_261 rfl ?_
                    refine g_istore_n C (lv' := [(0, vR h), (1, vI 14), (2, vI 10)]) [1, 2, 0] (by decide) rfl rfl dX11_init_262 rfl ?_
                    refine g_aload_n C 0 rfl dX11_init_263 rfl ?_
                    refine g_get C 0 fd_X11_init_27 rfl rfl rfl dX11_init_264 rfl ?_
                    refine g_iload_n C 1 rfl dX11_init_267 rfl ?_
                    refine g_iload_n C 2 rfl dX11_init_268 rfl ?_
                    refine g_bipush C (by decide) dX11_init_269 rfl ?_
                    refine g_icmp_gt C (tgt := 281) ⟨by decide, by decide⟩ ⟨by decide, by decide⟩ dX11_init_271 (by decide) rfl (fun c_53 => ?_) (fun c_53 => ?_)
                    · refine g_bipush C (by decide) dX11_init_281 rfl ?_
                      refine g_iload_n C 2 rfl dX11_init_283 rfl ?_
                      refine g_isub C (r := 2) (by decide) dX11_init_284 rfl ?_
                      refine g_callS C (mc := 0) (ms := 0) (rm := rm_K_m_quarter) (As := [vI 2]) (wc := []) (wr := [(h, .inr (12, [vR q_1, vR q_2, vR q_3, vR q_4, vR q_5, vI 0, vR q_6, vL 0, vL 0, vL 0, vL 0, vL 0, vL 0, vL 0, vI 0, vI 0, vR q_7, vI 0, vR q_8, vI 0])), (q_1, cL E 310 (ua (ua (ua (ua (ua (ua (ua (ua (ua (ua (ua (ua (ua (ua (ua (ua (ua (fun _ => 0) 14 10000) 15 100) 16 1000) 17 500) 18 3000) 19 20000) 20 5000) 21 100) 22 1000) 23 48) 24 20000) 25 500) 27 24) 29 4) 30 480) 31 1200) 97 (-6))), (q_2, cL E 310 (fun _ => 0)), (q_3, cL E 620 (fun _ => 0)), (q_4, cZ E 2 (fun _ => 0)), (q_5, cI E 80 (fun _ => 0)), (q_6, cI E 24 (ua (ua (ua (ua (ua (ua (ua (ua (ua (ua (ua (ua (ua (ua (fun _ => 0) 0 (cosT 0)) 1 (cosT 1)) 2 (cosT 2)) 3 (cosT 3)) 4 (cosT 4)) 5 (cosT 5)) 6 (cosT 6)) 7 (-(cosT 5))) 8 (-(cosT 4))) 9 (-(cosT 3))) 10 (-(cosT 2))) 11 (-(cosT 1))) 12 (-(cosT 0))) 13 (-(cosT 1)))), (q_7, cI E 16 (fun _ => 0)), (q_8, cI E 120 (fun _ => 0))]) (st := [vI 14, vR q_6]) gX11_init_X11_quarter rfl (K_m_quarter l E 2 (by first | assumption | omega)) hyd_X11_quarter rfl [] [0, 1, 2, 3, 4, 5, 6, 7, 8] rfl rfl rfl rfl rfl (by decide) ⟨rfl, rfl⟩ ⟨Nat.le_of_ble_eq_true rfl, Nat.le_of_ble_eq_true rfl, Nat.le_of_ble_eq_true rfl, Nat.le_of_ble_eq_true rfl⟩ (Nat.le_of_ble_eq_true rfl) dX11_init_285 (rfl : _ = 8) (rfl : _ = 1482) rfl ?_
                      rintro _ _ ⟨rfl, rfl⟩
                      refine g_is (ws' := [(h, .inr (12, [vR q_1, vR q_2, vR q_3, vR q_4, vR q_5, vI 0, vR q_6, vL 0, vL 0, vL 0, vL 0, vL 0, vL 0, vL 0, vI 0, vI 0, vR q_7, vI 0, vR q_8, vI 0])), (q_1, cL E 310 (ua (ua (ua (ua (ua (ua (ua (ua (ua (ua (ua (ua (ua (ua (ua (ua (ua (fun _ => 0) 14 10000) 15 100) 16 1000) 17 500) 18 3000) 19 20000) 20 5000) 21 100) 22 1000) 23 48) 24 20000) 25 500) 27 24) 29 4) 30 480) 31 1200) 97 (-6))), (q_2, cL E 310 (fun _ => 0)), (q_3, cL E 620 (fun _ => 0)), (q_4, cZ E 2 (fun _ => 0)), (q_5, cI E 80 (fun _ => 0)), (q_6, cI E 24 (ua (ua (ua (ua (ua (ua (ua (ua (ua (ua (ua (ua (ua (ua (fun _ => 0) 0 (cosT 0)) 1 (cosT 1)) 2 (cosT 2)) 3 (cosT 3)) 4 (cosT 4)) 5 (cosT 5)) 6 (cosT 6)) 7 (-(cosT 5))) 8 (-(cosT 4))) 9 (-(cosT 3))) 10 (-(cosT 2))) 11 (-(cosT 1))) 12 (-(cosT 0))) 13 (-(cosT 1)))), (q_7, cI E 16 (fun _ => 0)), (q_8, cI E 120 (fun _ => 0))]) (st' := [vI (cosT 2), vI 14, vR q_6]) rfl rfl ?_
                      refine g_ineg C rfl dX11_init_288 rfl ?_
                      refine g_iast C 6 rfl (by decide) (by decide) (by decide) (ws' := [(h, .inr (12, [vR q_1, vR q_2, vR q_3, vR q_4, vR q_5, vI 0, vR q_6, vL 0, vL 0, vL 0, vL 0, vL 0, vL 0, vL 0, vI 0, vI 0, vR q_7, vI 0, vR q_8, vI 0])), (q_1, cL E 310 (ua (ua (ua (ua (ua (ua (ua (ua (ua (ua (ua (ua (ua (ua (ua (ua (ua (fun _ => 0) 14 10000) 15 100) 16 1000) 17 500) 18 3000) 19 20000) 20 5000) 21 100) 22 1000) 23 48) 24 20000) 25 500) 27 24) 29 4) 30 480) 31 1200) 97 (-6))), (q_2, cL E 310 (fun _ => 0)), (q_3, cL E 620 (fun _ => 0)), (q_4, cZ E 2 (fun _ => 0)), (q_5, cI E 80 (fun _ => 0)), (q_6, cI E 24 (ua (ua (ua (ua (ua (ua (ua (ua (ua (ua (ua (ua (ua (ua (ua (fun _ => 0) 0 (cosT 0)) 1 (cosT 1)) 2 (cosT 2)) 3 (cosT 3)) 4 (cosT 4)) 5 (cosT 5)) 6 (cosT 6)) 7 (-(cosT 5))) 8 (-(cosT 4))) 9 (-(cosT 3))) 10 (-(cosT 2))) 11 (-(cosT 1))) 12 (-(cosT 0))) 13 (-(cosT 1))) 14 (-(cosT 2)))), (q_7, cI E 16 (fun _ => 0)), (q_8, cI E 120 (fun _ => 0))]) rfl dX11_init_289 rfl ?_
                      refine g_iinc C (r := 15) (lv' := [(0, vR h), (1, vI 15), (2, vI 10)]) 1 [1, 0, 2] rfl (by decide) (by decide) rfl rfl dX11_init_290 rfl ?_
                      refine g_goto C (pc' := 242) dX11_init_293 (by decide) ?_
                      refine g_iload_n C 1 rfl dX11_init_242 rfl ?_
                      refine g_bipush C (by decide) dX11_init_243 rfl ?_
                      refine g_icmp_ge C (tgt := 296) ⟨by decide, by decide⟩ ⟨by decide, by decide⟩ dX11_init_245 (by decide) rfl (fun c_54 => ?_) (fun c_54 => ?_)
                      · exact absurd c_54 (by decide)
                      refine g_iload_n C 1 rfl dX11_init_248 rfl ?_
                      refine g_bipush C (by decide) dX11_init_249 rfl ?_
                      refine g_icmp_gt C (tgt := 258) ⟨by decide, by decide⟩ ⟨by decide, by decide⟩ dX11_init_251 (by decide) rfl (fun c_55 => ?_) (fun c_55 => ?_)
                      · refine g_bipush C (by decide) dX11_init_258 rfl ?_
                        refine g_iload_n C 1 rfl dX11_init_260 rfl ?_
                        refine g_isub C (r := 9) (by decide) dX11_init_261 rfl ?_
                        refine g_istore_n C (lv' := [(0, vR h), (1, vI 15), (2, vI 9)]) [1, 2, 0] (by decide) rfl rfl dX11_init_262 rfl ?_
                        refine g_aload_n C 0 rfl dX11_init_263 rfl ?_
                        refine g_get C 0 fd_X11_init_27 rfl rfl rfl dX11_init_264 rfl ?_
                        refine g_iload_n C 1 rfl dX11_init_267 rfl ?_
                        refine g_iload_n C 2 rfl dX11_init_268 rfl ?_
                        refine g_bipush C (by decide) dX11_init_269 rfl ?_
                        refine g_icmp_gt C (tgt := 281) ⟨by decide, by decide⟩ ⟨by decide, by decide⟩ dX11_init_271 (by decide) rfl (fun c_56 => ?_) (fun c_56 => ?_)
                        · refine g_bipush C (by decide) dX11_init_281 rfl ?_
                          refine g_iload_n C 2 rfl dX11_init_283 rfl ?_
                          refine g_isub C (r := 3) (by decide) dX11_init_284 rfl ?_
                          refine g_callS C (mc := 0) (ms := 0) (rm := rm_K_m_quarter) (As := [vI 3]) (wc := []) (wr := [(h, .inr (12, [vR q_1, vR q_2, vR q_3, vR q_4, vR q_5, vI 0, vR q_6, vL 0, vL 0, vL 0, vL 0, vL 0, vL 0, vL 0, vI 0, vI 0, vR q_7, vI 0, vR q_8, vI 0])), (q_1, cL E 310 (ua (ua (ua (ua (ua (ua (ua (ua (ua (ua (ua (ua (ua (ua (ua (ua (ua (fun _ => 0) 14 10000) 15 100) 16 1000) 17 500) 18 3000) 19 20000) 20 5000) 21 100) 22 1000) 23 48) 24 20000) 25 500) 27 24) 29 4) 30 480) 31 1200) 97 (-6))), (q_2, cL E 310 (fun _ => 0)), (q_3, cL E 620 (fun _ => 0)), (q_4, cZ E 2 (fun _ => 0)), (q_5, cI E 80 (fun _ => 0)), (q_6, cI E 24 (ua (ua (ua (ua (ua (ua (ua (ua (ua (ua (ua (ua (ua (ua (ua (fun _ => 0) 0 (cosT 0)) 1 (cosT 1)) 2 (cosT 2)) 3 (cosT 3)) 4 (cosT 4)) 5 (cosT 5)) 6 (cosT 6)) 7 (-(cosT 5))) 8 (-(cosT 4))) 9 (-(cosT 3))) 10 (-(cosT 2))) 11 (-(cosT 1))) 12 (-(cosT 0))) 13 (-(cosT 1))) 14 (-(cosT 2)))), (q_7, cI E 16 (fun _ => 0)), (q_8, cI E 120 (fun _ => 0))]) (st := [vI 15, vR q_6]) gX11_init_X11_quarter rfl (K_m_quarter l E 3 (by first | assumption | omega)) hyd_X11_quarter rfl [] [0, 1, 2, 3, 4, 5, 6, 7, 8] rfl rfl rfl rfl rfl (by decide) ⟨rfl, rfl⟩ ⟨Nat.le_of_ble_eq_true rfl, Nat.le_of_ble_eq_true rfl, Nat.le_of_ble_eq_true rfl, Nat.le_of_ble_eq_true rfl⟩ (Nat.le_of_ble_eq_true rfl) dX11_init_285 (rfl : _ = 8) (rfl : _ = 1482) rfl ?_
                          rintro _ _ ⟨rfl, rfl⟩
                          refine g_is (ws' := [(h, .inr (12, [vR q_1, vR q_2, vR q_3, vR q_4, vR q_5, vI 0, vR q_6, vL 0, vL 0, vL 0, vL 0, vL 0, vL 0, vL 0, vI 0, vI 0, vR q_7, vI 0, vR q_8, vI 0])), (q_1, cL E 310 (ua (ua (ua (ua (ua (ua (ua (ua (ua (ua (ua (ua (ua (ua (ua (ua (ua (fun _ => 0) 14 10000) 15 100) 16 1000) 17 500) 18 3000) 19 20000) 20 5000) 21 100) 22 1000) 23 48) 24 20000) 25 500) 27 24) 29 4) 30 480) 31 1200) 97 (-6))), (q_2, cL E 310 (fun _ => 0)), (q_3, cL E 620 (fun _ => 0)), (q_4, cZ E 2 (fun _ => 0)), (q_5, cI E 80 (fun _ => 0)), (q_6, cI E 24 (ua (ua (ua (ua (ua (ua (ua (ua (ua (ua (ua (ua (ua (ua (ua (fun _ => 0) 0 (cosT 0)) 1 (cosT 1)) 2 (cosT 2)) 3 (cosT 3)) 4 (cosT 4)) 5 (cosT 5)) 6 (cosT 6)) 7 (-(cosT 5))) 8 (-(cosT 4))) 9 (-(cosT 3))) 10 (-(cosT 2))) 11 (-(cosT 1))) 12 (-(cosT 0))) 13 (-(cosT 1))) 14 (-(cosT 2)))), (q_7, cI E 16 (fun _ => 0)), (q_8, cI E 120 (fun _ => 0))]) (st' := [vI (cosT 3), vI 15, vR q_6]) rfl rfl ?_
                          refine g_ineg C rfl dX11_init_288 rfl ?_
                          refine g_iast C 6 rfl (by decide) (by decide) (by decide) (ws' := [(h, .inr (12, [vR q_1, vR q_2, vR q_3, vR q_4, vR q_5, vI 0, vR q_6, vL 0, vL 0, vL 0, vL 0, vL 0, vL 0, vL 0, vI 0, vI 0, vR q_7, vI 0, vR q_8, vI 0])), (q_1, cL E 310 (ua (ua (ua (ua (ua (ua (ua (ua (ua (ua (ua (ua (ua (ua (ua (ua (ua (fun _ => 0) 14 10000) 15 100) 16 1000) 17 500) 18 3000) 19 20000) 20 5000) 21 100) 22 1000) 23 48) 24 20000) 25 500) 27 24) 29 4) 30 480) 31 1200) 97 (-6))), (q_2, cL E 310 (fun _ => 0)), (q_3, cL E 620 (fun _ => 0)), (q_4, cZ E 2 (fun _ => 0)), (q_5, cI E 80 (fun _ => 0)), (q_6, cI E 24 (ua (ua (ua (ua (ua (ua (ua (ua (ua (ua (ua (ua (ua (ua (ua (ua (fun _ => 0) 0 (cosT 0)) 1 (cosT 1)) 2 (cosT 2)) 3 (cosT 3)) 4 (cosT 4)) 5 (cosT 5)) 6 (cosT 6)) 7 (-(cosT 5))) 8 (-(cosT 4))) 9 (-(cosT 3))) 10 (-(cosT 2))) 11 (-(cosT 1))) 12 (-(cosT 0))) 13 (-(cosT 1))) 14 (-(cosT 2))) 15 (-(cosT 3)))), (q_7, cI E 16 (fun _ => 0)), (q_8, cI E 120 (fun _ => 0))]) rfl dX11_init_289 rfl ?_
                          refine g_iinc C (r := 16) (lv' := [(0, vR h), (1, vI 16), (2, vI 9)]) 1 [1, 0, 2] rfl (by decide) (by decide) rfl rfl dX11_init_290 rfl ?_
                          refine g_goto C (pc' := 242) dX11_init_293 (by decide) ?_
                          refine g_iload_n C 1 rfl dX11_init_242 rfl ?_
                          refine g_bipush C (by decide) dX11_init_243 rfl ?_
                          refine g_icmp_ge C (tgt := 296) ⟨by decide, by decide⟩ ⟨by decide, by decide⟩ dX11_init_245 (by decide) rfl (fun c_57 => ?_) (fun c_57 => ?_)
                          · exact absurd c_57 (by decide)
                          refine g_iload_n C 1 rfl dX11_init_248 rfl ?_
                          refine g_bipush C (by decide) dX11_init_249 rfl ?_
                          refine g_icmp_gt C (tgt := 258) ⟨by decide, by decide⟩ ⟨by decide, by decide⟩ dX11_init_251 (by decide) rfl (fun c_58 => ?_) (fun c_58 => ?_)
                          · refine g_bipush C (by decide) dX11_init_258 rfl ?_
                            refine g_iload_n C 1 rfl dX11_init_260 rfl ?_
                            refine g_isub C (r := 8) (by decide) dX11_init_261 rfl ?_
                            refine g_istore_n C (lv' := [(0, vR h), (1, vI 16), (2, vI 8)]) [1, 2, 0] (by decide) rfl rfl dX11_init_262 rfl ?_
                            refine g_aload_n C 0 rfl dX11_init_263 rfl ?_
                            refine g_get C 0 fd_X11_init_27 rfl rfl rfl dX11_init_264 rfl ?_
                            refine g_iload_n C 1 rfl dX11_init_267 rfl ?_
                            refine g_iload_n C 2 rfl dX11_init_268 rfl ?_
                            refine g_bipush C (by decide) dX11_init_269 rfl ?_
                            refine g_icmp_gt C (tgt := 281) ⟨by decide, by decide⟩ ⟨by decide, by decide⟩ dX11_init_271 (by decide) rfl (fun c_59 => ?_) (fun c_59 => ?_)
                            · refine g_bipush C (by decide) dX11_init_281 rfl ?_
                              refine g_iload_n C 2 rfl dX11_init_283 rfl ?_
                              refine g_isub C (r := 4) (by decide) dX11_init_284 rfl ?_
                              refine g_callS C (mc := 0) (ms := 0) (rm := rm_K_m_quarter) (As := [vI 4]) (wc := []) (wr := [(h, .inr (12, [vR q_1, vR q_2, vR q_3, vR q_4, vR q_5, vI 0, vR q_6, vL 0, vL 0, vL 0, vL 0, vL 0, vL 0, vL 0, vI 0, vI 0, vR q_7, vI 0, vR q_8, vI 0])), (q_1, cL E 310 (ua (ua (ua (ua (ua (ua (ua (ua (ua (ua (ua (ua (ua (ua (ua (ua (ua (fun _ => 0) 14 10000) 15 100) 16 1000) 17 500) 18 3000) 19 20000) 20 5000) 21 100) 22 1000) 23 48) 24 20000) 25 500) 27 24) 29 4) 30 480) 31 1200) 97 (-6))), (q_2, cL E 310 (fun _ => 0)), (q_3, cL E 620 (fun _ => 0)), (q_4, cZ E 2 (fun _ => 0)), (q_5, cI E 80 (fun _ => 0)), (q_6, cI E 24 (ua (ua (ua (ua (ua (ua (ua (ua (ua (ua (ua (ua (ua (ua (ua (ua (fun _ => 0) 0 (cosT 0)) 1 (cosT 1)) 2 (cosT 2)) 3 (cosT 3)) 4 (cosT 4)) 5 (cosT 5)) 6 (cosT 6)) 7 (-(cosT 5))) 8 (-(cosT 4))) 9 (-(cosT 3))) 10 (-(cosT 2))) 11 (-(cosT 1))) 12 (-(cosT 0))) 13 (-(cosT 1))) 14 (-(cosT 2))) 15 (-(cosT 3)))), (q_7, cI E 16 (fun _ => 0)), (q_8, cI E 120 (fun _ => 0))]) (st := [vI 16, vR q_6]) gX11_init_X11_quarter rfl (K_m_quarter l E 4 (by first | assumption | omega)) hyd_X11_quarter rfl [] [0, 1, 2, 3, 4, 5, 6, 7, 8] rfl rfl rfl rfl rfl (by decide) ⟨rfl, rfl⟩ ⟨Nat.le_of_ble_eq_true rfl, Nat.le_of_ble_eq_true rfl, Nat.le_of_ble_eq_true rfl, Nat.le_of_ble_eq_true rfl⟩ (Nat.le_of_ble_eq_true rfl) dX11_init_285 (rfl : _ = 8) (rfl : _ = 1482) rfl ?_
                              rintro _ _ ⟨rfl, rfl⟩
                              refine g_is (ws' := [(h, .inr (12, [vR q_1, vR q_2, vR q_3, vR q_4, vR q_5, vI 0, vR q_6, vL 0, vL 0, vL 0, vL 0, vL 0, vL 0, vL 0, vI 0, vI 0, vR q_7, vI 0, vR q_8, vI 0])), (q_1, cL E 310 (ua (ua (ua (ua (ua (ua (ua (ua (ua (ua (ua (ua (ua (ua (ua (ua (ua (fun _ => 0) 14 10000) 15 100) 16 1000) 17 500) 18 3000) 19 20000) 20 5000) 21 100) 22 1000) 23 48) 24 20000) 25 500) 27 24) 29 4) 30 480) 31 1200) 97 (-6))), (q_2, cL E 310 (fun _ => 0)), (q_3, cL E 620 (fun _ => 0)), (q_4, cZ E 2 (fun _ => 0)), (q_5, cI E 80 (fun _ => 0)), (q_6, cI E 24 (ua (ua (ua (ua (ua (ua (ua (ua (ua (ua (ua (ua (ua (ua (ua (ua (fun _ => 0) 0 (cosT 0)) 1 (cosT 1)) 2 (cosT 2)) 3 (cosT 3)) 4 (cosT 4)) 5 (cosT 5)) 6 (cosT 6)) 7 (-(cosT 5))) 8 (-(cosT 4))) 9 (-(cosT 3))) 10 (-(cosT 2))) 11 (-(cosT 1))) 12 (-(cosT 0))) 13 (-(cosT 1))) 14 (-(cosT 2))) 15 (-(cosT 3)))), (q_7, cI E 16 (fun _ => 0)), (q_8, cI E 120 (fun _ => 0))]) (st' := [vI (cosT 4), vI 16, vR q_6]) rfl rfl ?_
                              refine g_ineg C rfl dX11_init_288 rfl ?_
                              refine g_iast C 6 rfl (by decide) (by decide) (by decide) (ws' := [(h, .inr (12, [vR q_1, vR q_2, vR q_3, vR q_4, vR q_5, vI 0, vR q_6, vL 0, vL 0, vL 0, vL 0, vL 0, vL 0, vL 0, vI 0, vI 0, vR q_7, vI 0, vR q_8, vI 0])), (q_1, cL E 310 (ua (ua (ua (ua (ua (ua (ua (ua (ua (ua (ua (ua (ua (ua (ua (ua (ua (fun _ => 0) 14 10000) 15 100) 16 1000) 17 500) 18 3000) 19 20000) 20 5000) 21 100) 22 1000) 23 48) 24 20000) 25 500) 27 24) 29 4) 30 480) 31 1200) 97 (-6))), (q_2, cL E 310 (fun _ => 0)), (q_3, cL E 620 (fun _ => 0)), (q_4, cZ E 2 (fun _ => 0)), (q_5, cI E 80 (fun _ => 0)), (q_6, cI E 24 (ua (ua (ua (ua (ua (ua (ua (ua (ua (ua (ua (ua (ua (ua (ua (ua (ua (fun _ => 0) 0 (cosT 0)) 1 (cosT 1)) 2 (cosT 2)) 3 (cosT 3)) 4 (cosT 4)) 5 (cosT 5)) 6 (cosT 6)) 7 (-(cosT 5))) 8 (-(cosT 4))) 9 (-(cosT 3))) 10 (-(cosT 2))) 11 (-(cosT 1))) 12 (-(cosT 0))) 13 (-(cosT 1))) 14 (-(cosT 2))) 15 (-(cosT 3))) 16 (-(cosT 4)))), (q_7, cI E 16 (fun _ => 0)), (q_8, cI E 120 (fun _ => 0))]) rfl dX11_init_289 rfl ?_
                              refine g_iinc C (r := 17) (lv' := [(0, vR h), (1, vI 17), (2, vI 8)]) 1 [1, 0, 2] rfl (by decide) (by decide) rfl rfl dX11_init_290 rfl ?_
                              refine g_goto C (pc' := 242) dX11_init_293 (by decide) ?_
                              refine g_iload_n C 1 rfl dX11_init_242 rfl ?_
                              refine g_bipush C (by decide) dX11_init_243 rfl ?_
                              refine g_icmp_ge C (tgt := 296) ⟨by decide, by decide⟩ ⟨by decide, by decide⟩ dX11_init_245 (by decide) rfl (fun c_60 => ?_) (fun c_60 => ?_)
                              · exact absurd c_60 (by decide)
                              refine g_iload_n C 1 rfl dX11_init_248 rfl ?_
                              refine g_bipush C (by decide) dX11_init_249 rfl ?_
                              refine g_icmp_gt C (tgt := 258) ⟨by decide, by decide⟩ ⟨by decide, by decide⟩ dX11_init_251 (by decide) rfl (fun c_61 => ?_) (fun c_61 => ?_)
                              · refine g_bipush C (by decide) dX11_init_258 rfl ?_
                                refine g_iload_n C 1 rfl dX11_init_260 rfl ?_
                                refine g_isub C (r := 7) (by decide) dX11_init_261 rfl ?_
                                refine g_istore_n C (lv' := [(0, vR h), (1, vI 17), (2, vI 7)]) [1, 2, 0] (by decide) rfl rfl dX11_init_262 rfl ?_
                                refine g_aload_n C 0 rfl dX11_init_263 rfl ?_
                                refine g_get C 0 fd_X11_init_27 rfl rfl rfl dX11_init_264 rfl ?_
                                refine g_iload_n C 1 rfl dX11_init_267 rfl ?_
                                refine g_iload_n C 2 rfl dX11_init_268 rfl ?_
                                refine g_bipush C (by decide) dX11_init_269 rfl ?_
                                refine g_icmp_gt C (tgt := 281) ⟨by decide, by decide⟩ ⟨by decide, by decide⟩ dX11_init_271 (by decide) rfl (fun c_62 => ?_) (fun c_62 => ?_)
                                · refine g_bipush C (by decide) dX11_init_281 rfl ?_
                                  refine g_iload_n C 2 rfl dX11_init_283 rfl ?_
                                  refine g_isub C (r := 5) (by decide) dX11_init_284 rfl ?_
                                  refine g_callS C (mc := 0) (ms := 0) (rm := rm_K_m_quarter) (As := [vI 5]) (wc := []) (wr := [(h, .inr (12, [vR q_1, vR q_2, vR q_3, vR q_4, vR q_5, vI 0, vR q_6, vL 0, vL 0, vL 0, vL 0, vL 0, vL 0, vL 0, vI 0, vI 0, vR q_7, vI 0, vR q_8, vI 0])), (q_1, cL E 310 (ua (ua (ua (ua (ua (ua (ua (ua (ua (ua (ua (ua (ua (ua (ua (ua (ua (fun _ => 0) 14 10000) 15 100) 16 1000) 17 500) 18 3000) 19 20000) 20 5000) 21 100) 22 1000) 23 48) 24 20000) 25 500) 27 24) 29 4) 30 480) 31 1200) 97 (-6))), (q_2, cL E 310 (fun _ => 0)), (q_3, cL E 620 (fun _ => 0)), (q_4, cZ E 2 (fun _ => 0)), (q_5, cI E 80 (fun _ => 0)), (q_6, cI E 24 (ua (ua (ua (ua (ua (ua (ua (ua (ua (ua (ua (ua (ua (ua (ua (ua (ua (fun _ => 0) 0 (cosT 0)) 1 (cosT 1)) 2 (cosT 2)) 3 (cosT 3)) 4 (cosT 4)) 5 (cosT 5)) 6 (cosT 6)) 7 (-(cosT 5))) 8 (-(cosT 4))) 9 (-(cosT 3))) 10 (-(cosT 2))) 11 (-(cosT 1))) 12 (-(cosT 0))) 13 (-(cosT 1))) 14 (-(cosT 2))) 15 (-(cosT 3))) 16 (-(cosT 4)))), (q_7, cI E 16 (fun _ => 0)), (q_8, cI E 120 (fun _ => 0))]) (st := [vI 17, vR q_6]) gX11_init_X11_quarter rfl (K_m_quarter l E 5 (by first | assumption | omega)) hyd_X11_quarter rfl [] [0, 1, 2, 3, 4, 5, 6, 7, 8] rfl rfl rfl rfl rfl (by decide) ⟨rfl, rfl⟩ ⟨Nat.le_of_ble_eq_true rfl, Nat.le_of_ble_eq_true rfl, Nat.le_of_ble_eq_true rfl, Nat.le_of_ble_eq_true rfl⟩ (Nat.le_of_ble_eq_true rfl) dX11_init_285 (rfl : _ = 8) (rfl : _ = 1482) rfl ?_
                                  rintro _ _ ⟨rfl, rfl⟩
                                  refine g_is (ws' := [(h, .inr (12, [vR q_1, vR q_2, vR q_3, vR q_4, vR q_5, vI 0, vR q_6, vL 0, vL 0, vL 0, vL 0, vL 0, vL 0, vL 0, vI 0, vI 0, vR q_7, vI 0, vR q_8, vI 0])), (q_1, cL E 310 (ua (ua (ua (ua (ua (ua (ua (ua (ua (ua (ua (ua (ua (ua (ua (ua (ua (fun _ => 0) 14 10000) 15 100) 16 1000) 17 500) 18 3000) 19 20000) 20 5000) 21 100) 22 1000) 23 48) 24 20000) 25 500) 27 24) 29 4) 30 480) 31 1200) 97 (-6))), (q_2, cL E 310 (fun _ => 0)), (q_3, cL E 620 (fun _ => 0)), (q_4, cZ E 2 (fun _ => 0)), (q_5, cI E 80 (fun _ => 0)), (q_6, cI E 24 (ua (ua (ua (ua (ua (ua (ua (ua (ua (ua (ua (ua (ua (ua (ua (ua (ua (fun _ => 0) 0 (cosT 0)) 1 (cosT 1)) 2 (cosT 2)) 3 (cosT 3)) 4 (cosT 4)) 5 (cosT 5)) 6 (cosT 6)) 7 (-(cosT 5))) 8 (-(cosT 4))) 9 (-(cosT 3))) 10 (-(cosT 2))) 11 (-(cosT 1))) 12 (-(cosT 0))) 13 (-(cosT 1))) 14 (-(cosT 2))) 15 (-(cosT 3))) 16 (-(cosT 4)))), (q_7, cI E 16 (fun _ => 0)), (q_8, cI E 120 (fun _ => 0))]) (st' := [vI (cosT 5), vI 17, vR q_6]) rfl rfl ?_
                                  refine g_ineg C rfl dX11_init_288 rfl ?_
                                  refine g_iast C 6 rfl (by decide) (by decide) (by decide) (ws' := [(h, .inr (12, [vR q_1, vR q_2, vR q_3, vR q_4, vR q_5, vI 0, vR q_6, vL 0, vL 0, vL 0, vL 0, vL 0, vL 0, vL 0, vI 0, vI 0, vR q_7, vI 0, vR q_8, vI 0])), (q_1, cL E 310 (ua (ua (ua (ua (ua (ua (ua (ua (ua (ua (ua (ua (ua (ua (ua (ua (ua (fun _ => 0) 14 10000) 15 100) 16 1000) 17 500) 18 3000) 19 20000) 20 5000) 21 100) 22 1000) 23 48) 24 20000) 25 500) 27 24) 29 4) 30 480) 31 1200) 97 (-6))), (q_2, cL E 310 (fun _ => 0)), (q_3, cL E 620 (fun _ => 0)), (q_4, cZ E 2 (fun _ => 0)), (q_5, cI E 80 (fun _ => 0)), (q_6, cI E 24 (ua (ua (ua (ua (ua (ua (ua (ua (ua (ua (ua (ua (ua (ua (ua (ua (ua (ua (fun _ => 0) 0 (cosT 0)) 1 (cosT 1)) 2 (cosT 2)) 3 (cosT 3)) 4 (cosT 4)) 5 (cosT 5)) 6 (cosT 6)) 7 (-(cosT 5))) 8 (-(cosT 4))) 9 (-(cosT 3))) 10 (-(cosT 2))) 11 (-(cosT 1))) 12 (-(cosT 0))) 13 (-(cosT 1))) 14 (-(cosT 2))) 15 (-(cosT 3))) 16 (-(cosT 4))) 17 (-(cosT 5)))), (q_7, cI E 16 (fun _ => 0)), (q_8, cI E 120 (fun _ => 0))]) rfl dX11_init_289 rfl ?_
                                  refine g_iinc C (r := 18) (lv' := [(0, vR h), (1, vI 18), (2, vI 7)]) 1 [1, 0, 2] rfl (by decide) (by decide) rfl rfl dX11_init_290 rfl ?_
                                  refine g_goto C (pc' := 242) dX11_init_293 (by decide) ?_
                                  refine g_iload_n C 1 rfl dX11_init_242 rfl ?_
                                  refine g_bipush C (by decide) dX11_init_243 rfl ?_
                                  refine g_icmp_ge C (tgt := 296) ⟨by decide, by decide⟩ ⟨by decide, by decide⟩ dX11_init_245 (by decide) rfl (fun c_63 => ?_) (fun c_63 => ?_)
                                  · exact absurd c_63 (by decide)
                                  refine g_iload_n C 1 rfl dX11_init_248 rfl ?_
                                  refine g_bipush C (by decide) dX11_init_249 rfl ?_
                                  refine g_icmp_gt C (tgt := 258) ⟨by decide, by decide⟩ ⟨by decide, by decide⟩ dX11_init_251 (by decide) rfl (fun c_64 => ?_) (fun c_64 => ?_)
                                  · refine g_bipush C (by decide) dX11_init_258 rfl ?_
                                    refine g_iload_n C 1 rfl dX11_init_260 rfl ?_
                                    refine g_isub C (r := 6) (by decide) dX11_init_261 rfl ?_
                                    refine g_istore_n C (lv' := [(0, vR h), (1, vI 18), (2, vI 6)]) [1, 2, 0] (by decide) rfl rfl dX11_init_262 rfl ?_
                                    refine g_aload_n C 0 rfl dX11_init_263 rfl ?_
                                    refine g_get C 0 fd_X11_init_27 rfl rfl rfl dX11_init_264 rfl ?_
                                    refine g_iload_n C 1 rfl dX11_init_267 rfl ?_
                                    refine g_iload_n C 2 rfl dX11_init_268 rfl ?_
                                    refine g_bipush C (by decide) dX11_init_269 rfl ?_
                                    refine g_icmp_gt C (tgt := 281) ⟨by decide, by decide⟩ ⟨by decide, by decide⟩ dX11_init_271 (by decide) rfl (fun c_65 => ?_) (fun c_65 => ?_)
                                    · exact absurd c_65 (by decide)
                                    refine g_iload_n C 2 rfl dX11_init_274 rfl ?_
                                    refine g_callS C (mc := 0) (ms := 0) (rm := rm_K_m_quarter) (As := [vI 6]) (wc := []) (wr := [(h, .inr (12, [vR q_1, vR q_2, vR q_3, vR q_4, vR q_5, vI 0, vR q_6, vL 0, vL 0, vL 0, vL 0, vL 0, vL 0, vL 0, vI 0, vI 0, vR q_7, vI 0, vR q_8, vI 0])), (q_1, cL E 310 (ua (ua (ua (ua (ua (ua (ua (ua (ua (ua (ua (ua (ua (ua (ua (ua (ua (fun _ => 0) 14 10000) 15 100) 16 1000) 17 500) 18 3000) 19 20000) 20 5000) 21 100) 22 1000) 23 48) 24 20000) 25 500) 27 24) 29 4) 30 480) 31 1200) 97 (-6))), (q_2, cL E 310 (fun _ => 0)), (q_3, cL E 620 (fun _ => 0)), (q_4, cZ E 2 (fun _ => 0)), (q_5, cI E 80 (fun _ => 0)), (q_6, cI E 24 (ua (ua (ua (ua (ua (ua (ua (ua (ua (ua (ua (ua (ua (ua (ua (ua (ua (ua (fun _ => 0) 0 (cosT 0)) 1 (cosT 1)) 2 (cosT 2)) 3 (cosT 3)) 4 (cosT 4)) 5 (cosT 5)) 6 (cosT 6)) 7 (-(cosT 5))) 8 (-(cosT 4))) 9 (-(cosT 3))) 10 (-(cosT 2))) 11 (-(cosT 1))) 12 (-(cosT 0))) 13 (-(cosT 1))) 14 (-(cosT 2))) 15 (-(cosT 3))) 16 (-(cosT 4))) 17 (-(cosT 5)))), (q_7, cI E 16 (fun _ => 0)), (q_8, cI E 120 (fun _ => 0))]) (st := [vI 18, vR q_6]) gX11_init_X11_quarter rfl (K_m_quarter l E 6 (by first | assumption | omega)) hyd_X11_quarter rfl [] [0, 1, 2, 3, 4, 5, 6, 7, 8] rfl rfl rfl rfl rfl (by decide) ⟨rfl, rfl⟩ ⟨Nat.le_of_ble_eq_true rfl, Nat.le_of_ble_eq_true rfl, Nat.le_of_ble_eq_true rfl, Nat.le_of_ble_eq_true rfl⟩ (Nat.le_of_ble_eq_true rfl) dX11_init_275 (rfl : _ = 8) (rfl : _ = 1482) rfl ?_
                                    rintro _ _ ⟨rfl, rfl⟩
                                    refine g_is (ws' := [(h, .inr (12, [vR q_1, vR q_2, vR q_3, vR q_4, vR q_5, vI 0, vR q_6, vL 0, vL 0, vL 0, vL 0, vL 0, vL 0, vL 0, vI 0, vI 0, vR q_7, vI 0, vR q_8, vI 0])), (q_1, cL E 310 (ua (ua (ua (ua (ua (ua (ua (ua (ua (ua (ua (ua (ua (ua (ua (ua (ua (fun _ => 0) 14 10000) 15 100) 16 1000) 17 500) 18 3000) 19 20000) 20 5000) 21 100) 22 1000) 23 48) 24 20000) 25 500) 27 24) 29 4) 30 480) 31 1200) 97 (-6))), (q_2, cL E 310 (fun _ => 0)), (q_3, cL E 620 (fun _ => 0)), (q_4, cZ E 2 (fun _ => 0)), (q_5, cI E 80 (fun _ => 0)), (q_6, cI E 24 (ua (ua (ua (ua (ua (ua (ua (ua (ua (ua (ua (ua (ua (ua (ua (ua (ua (ua (fun _ => 0) 0 (cosT 0)) 1 (cosT 1)) 2 (cosT 2)) 3 (cosT 3)) 4 (cosT 4)) 5 (cosT 5)) 6 (cosT 6)) 7 (-(cosT 5))) 8 (-(cosT 4))) 9 (-(cosT 3))) 10 (-(cosT 2))) 11 (-(cosT 1))) 12 (-(cosT 0))) 13 (-(cosT 1))) 14 (-(cosT 2))) 15 (-(cosT 3))) 16 (-(cosT 4))) 17 (-(cosT 5)))), (q_7, cI E 16 (fun _ => 0)), (q_8, cI E 120 (fun _ => 0))]) (st' := [vI (cosT 6), vI 18, vR q_6]) rfl rfl ?_
                                    refine g_goto C (pc' := 289) dX11_init_278 (by decide) ?_
                                    refine g_iast C 6 rfl (by decide) (by decide) (by decide) (ws' := [(h, .inr (12, [vR q_1, vR q_2, vR q_3, vR q_4, vR q_5, vI 0, vR q_6, vL 0, vL 0, vL 0, vL 0, vL 0, vL 0, vL 0, vI 0, vI 0, vR q_7, vI 0, vR q_8, vI 0])), (q_1, cL E 310 (ua (ua (ua (ua (ua (ua (ua (ua (ua (ua (ua (ua (ua (ua (ua (ua (ua (fun _ => 0) 14 10000) 15 100) 16 1000) 17 500) 18 3000) 19 20000) 20 5000) 21 100) 22 1000) 23 48) 24 20000) 25 500) 27 24) 29 4) 30 480) 31 1200) 97 (-6))), (q_2, cL E 310 (fun _ => 0)), (q_3, cL E 620 (fun _ => 0)), (q_4, cZ E 2 (fun _ => 0)), (q_5, cI E 80 (fun _ => 0)), (q_6, cI E 24 (ua (ua (ua (ua (ua (ua (ua (ua (ua (ua (ua (ua (ua (ua (ua (ua (ua (ua (ua (fun _ => 0) 0 (cosT 0)) 1 (cosT 1)) 2 (cosT 2)) 3 (cosT 3)) 4 (cosT 4)) 5 (cosT 5)) 6 (cosT 6)) 7 (-(cosT 5))) 8 (-(cosT 4))) 9 (-(cosT 3))) 10 (-(cosT 2))) 11 (-(cosT 1))) 12 (-(cosT 0))) 13 (-(cosT 1))) 14 (-(cosT 2))) 15 (-(cosT 3))) 16 (-(cosT 4))) 17 (-(cosT 5))) 18 (cosT 6))), (q_7, cI E 16 (fun _ => 0)), (q_8, cI E 120 (fun _ => 0))]) rfl dX11_init_289 rfl ?_
                                    refine g_iinc C (r := 19) (lv' := [(0, vR h), (1, vI 19), (2, vI 6)]) 1 [1, 0, 2] rfl (by decide) (by decide) rfl rfl dX11_init_290 rfl ?_
                                    refine g_goto C (pc' := 242) dX11_init_293 (by decide) ?_
                                    refine g_iload_n C 1 rfl dX11_init_242 rfl ?_
                                    refine g_bipush C (by decide) dX11_init_243 rfl ?_
                                    refine g_icmp_ge C (tgt := 296) ⟨by decide, by decide⟩ ⟨by decide, by decide⟩ dX11_init_245 (by decide) rfl (fun c_66 => ?_) (fun c_66 => ?_)
                                    · exact absurd c_66 (by decide)
                                    refine g_iload_n C 1 rfl dX11_init_248 rfl ?_
                                    refine g_bipush C (by decide) dX11_init_249 rfl ?_
                                    refine g_icmp_gt C (tgt := 258) ⟨by decide, by decide⟩ ⟨by decide, by decide⟩ dX11_init_251 (by decide) rfl (fun c_67 => ?_) (fun c_67 => ?_)
                                    · refine g_bipush C (by decide) dX11_init_258 rfl ?_
                                      refine g_iload_n C 1 rfl dX11_init_260 rfl ?_
                                      refine g_isub C (r := 5) (by decide) dX11_init_261 rfl ?_
                                      refine g_istore_n C (lv' := [(0, vR h), (1, vI 19), (2, vI 5)]) [1, 2, 0] (by decide) rfl rfl dX11_init_262 rfl ?_
                                      refine g_aload_n C 0 rfl dX11_init_263 rfl ?_
                                      refine g_get C 0 fd_X11_init_27 rfl rfl rfl dX11_init_264 rfl ?_
                                      refine g_iload_n C 1 rfl dX11_init_267 rfl ?_
                                      refine g_iload_n C 2 rfl dX11_init_268 rfl ?_
                                      refine g_bipush C (by decide) dX11_init_269 rfl ?_
                                      refine g_icmp_gt C (tgt := 281) ⟨by decide, by decide⟩ ⟨by decide, by decide⟩ dX11_init_271 (by decide) rfl (fun c_68 => ?_) (fun c_68 => ?_)
                                      · exact absurd c_68 (by decide)
                                      refine g_iload_n C 2 rfl dX11_init_274 rfl ?_
                                      refine g_callS C (mc := 0) (ms := 0) (rm := rm_K_m_quarter) (As := [vI 5]) (wc := []) (wr := [(h, .inr (12, [vR q_1, vR q_2, vR q_3, vR q_4, vR q_5, vI 0, vR q_6, vL 0, vL 0, vL 0, vL 0, vL 0, vL 0, vL 0, vI 0, vI 0, vR q_7, vI 0, vR q_8, vI 0])), (q_1, cL E 310 (ua (ua (ua (ua (ua (ua (ua (ua (ua (ua (ua (ua (ua (ua (ua (ua (ua (fun _ => 0) 14 10000) 15 100) 16 1000) 17 500) 18 3000) 19 20000) 20 5000) 21 100) 22 1000) 23 48) 24 20000) 25 500) 27 24) 29 4) 30 480) 31 1200) 97 (-6))), (q_2, cL E 310 (fun _ => 0)), (q_3, cL E 620 (fun _ => 0)), (q_4, cZ E 2 (fun _ => 0)), (q_5, cI E 80 (fun _ => 0)), (q_6, cI E 24 (ua (ua (ua (ua (ua (ua (ua (ua (ua (ua (ua (ua (ua (ua (ua (ua (ua (ua (ua (fun _ => 0) 0 (cosT 0)) 1 (cosT 1)) 2 (cosT 2)) 3 (cosT 3)) 4 (cosT 4)) 5 (cosT 5)) 6 (cosT 6)) 7 (-(cosT 5))) 8 (-(cosT 4))) 9 (-(cosT 3))) 10 (-(cosT 2))) 11 (-(cosT 1))) 12 (-(cosT 0))) 13 (-(cosT 1))) 14 (-(cosT 2))) 15 (-(cosT 3))) 16 (-(cosT 4))) 17 (-(cosT 5))) 18 (cosT 6))), (q_7, cI E 16 (fun _ => 0)), (q_8, cI E 120 (fun _ => 0))]) (st := [vI 19, vR q_6]) gX11_init_X11_quarter rfl (K_m_quarter l E 5 (by first | assumption | omega)) hyd_X11_quarter rfl [] [0, 1, 2, 3, 4, 5, 6, 7, 8] rfl rfl rfl rfl rfl (by decide) ⟨rfl, rfl⟩ ⟨Nat.le_of_ble_eq_true rfl, Nat.le_of_ble_eq_true rfl, Nat.le_of_ble_eq_true rfl, Nat.le_of_ble_eq_true rfl⟩ (Nat.le_of_ble_eq_true rfl) dX11_init_275 (rfl : _ = 8) (rfl : _ = 1482) rfl ?_
                                      rintro _ _ ⟨rfl, rfl⟩
                                      refine g_is (ws' := [(h, .inr (12, [vR q_1, vR q_2, vR q_3, vR q_4, vR q_5, vI 0, vR q_6, vL 0, vL 0, vL 0, vL 0, vL 0, vL 0, vL 0, vI 0, vI 0, vR q_7, vI 0, vR q_8, vI 0])), (q_1, cL E 310 (ua (ua (ua (ua (ua (ua (ua (ua (ua (ua (ua (ua (ua (ua (ua (ua (ua (fun _ => 0) 14 10000) 15 100) 16 1000) 17 500) 18 3000) 19 20000) 20 5000) 21 100) 22 1000) 23 48) 24 20000) 25 500) 27 24) 29 4) 30 480) 31 1200) 97 (-6))), (q_2, cL E 310 (fun _ => 0)), (q_3, cL E 620 (fun _ => 0)), (q_4, cZ E 2 (fun _ => 0)), (q_5, cI E 80 (fun _ => 0)), (q_6, cI E 24 (ua (ua (ua (ua (ua (ua (ua (ua (ua (ua (ua (ua (ua (ua (ua (ua (ua (ua (ua (fun _ => 0) 0 (cosT 0)) 1 (cosT 1)) 2 (cosT 2)) 3 (cosT 3)) 4 (cosT 4)) 5 (cosT 5)) 6 (cosT 6)) 7 (-(cosT 5))) 8 (-(cosT 4))) 9 (-(cosT 3))) 10 (-(cosT 2))) 11 (-(cosT 1))) 12 (-(cosT 0))) 13 (-(cosT 1))) 14 (-(cosT 2))) 15 (-(cosT 3))) 16 (-(cosT 4))) 17 (-(cosT 5))) 18 (cosT 6))), (q_7, cI E 16 (fun _ => 0)), (q_8, cI E 120 (fun _ => 0))]) (st' := [vI (cosT 5), vI 19, vR q_6]) rfl rfl ?_
                                      refine g_goto C (pc' := 289) dX11_init_278 (by decide) ?_
                                      refine g_iast C 6 rfl (by decide) (by decide) (by decide) (ws' := [(h, .inr (12, [vR q_1, vR q_2, vR q_3, vR q_4, vR q_5, vI 0, vR q_6, vL 0, vL 0, vL 0, vL 0, vL 0, vL 0, vL 0, vI 0, vI 0, vR q_7, vI 0, vR q_8, vI 0])), (q_1, cL E 310 (ua (ua (ua (ua (ua (ua (ua (ua (ua (ua (ua (ua (ua (ua (ua (ua (ua (fun _ => 0) 14 10000) 15 100) 16 1000) 17 500) 18 3000) 19 20000) 20 5000) 21 100) 22 1000) 23 48) 24 20000) 25 500) 27 24) 29 4) 30 480) 31 1200) 97 (-6))), (q_2, cL E 310 (fun _ => 0)), (q_3, cL E 620 (fun _ => 0)), (q_4, cZ E 2 (fun _ => 0)), (q_5, cI E 80 (fun _ => 0)), (q_6, cI E 24 (ua (ua (ua (ua (ua (ua (ua (ua (ua (ua (ua (ua (ua (ua (ua (ua (ua (ua (ua (ua (fun _ => 0) 0 (cosT 0)) 1 (cosT 1)) 2 (cosT 2)) 3 (cosT 3)) 4 (cosT 4)) 5 (cosT 5)) 6 (cosT 6)) 7 (-(cosT 5))) 8 (-(cosT 4))) 9 (-(cosT 3))) 10 (-(cosT 2))) 11 (-(cosT 1))) 12 (-(cosT 0))) 13 (-(cosT 1))) 14 (-(cosT 2))) 15 (-(cosT 3))) 16 (-(cosT 4))) 17 (-(cosT 5))) 18 (cosT 6)) 19 (cosT 5))), (q_7, cI E 16 (fun _ => 0)), (q_8, cI E 120 (fun _ => 0))]) rfl dX11_init_289 rfl ?_
                                      refine g_iinc C (r := 20) (lv' := [(0, vR h), (1, vI 20), (2, vI 5)]) 1 [1, 0, 2] rfl (by decide) (by decide) rfl rfl dX11_init_290 rfl ?_
                                      refine g_goto C (pc' := 242) dX11_init_293 (by decide) ?_
                                      refine g_iload_n C 1 rfl dX11_init_242 rfl ?_
                                      refine g_bipush C (by decide) dX11_init_243 rfl ?_
                                      refine g_icmp_ge C (tgt := 296) ⟨by decide, by decide⟩ ⟨by decide, by decide⟩ dX11_init_245 (by decide) rfl (fun c_69 => ?_) (fun c_69 => ?_)
                                      · exact absurd c_69 (by decide)
                                      refine g_iload_n C 1 rfl dX11_init_248 rfl ?_
                                      refine g_bipush C (by decide) dX11_init_249 rfl ?_
                                      refine g_icmp_gt C (tgt := 258) ⟨by decide, by decide⟩ ⟨by decide, by decide⟩ dX11_init_251 (by decide) rfl (fun c_70 => ?_) (fun c_70 => ?_)
                                      · refine g_bipush C (by decide) dX11_init_258 rfl ?_
                                        refine g_iload_n C 1 rfl dX11_init_260 rfl ?_
                                        refine g_isub C (r := 4) (by decide) dX11_init_261 rfl ?_
                                        refine g_istore_n C (lv' := [(0, vR h), (1, vI 20), (2, vI 4)]) [1, 2, 0] (by decide) rfl rfl dX11_init_262 rfl ?_
                                        refine g_aload_n C 0 rfl dX11_init_263 rfl ?_
                                        refine g_get C 0 fd_X11_init_27 rfl rfl rfl dX11_init_264 rfl ?_
                                        refine g_iload_n C 1 rfl dX11_init_267 rfl ?_
                                        refine g_iload_n C 2 rfl dX11_init_268 rfl ?_
                                        refine g_bipush C (by decide) dX11_init_269 rfl ?_
                                        refine g_icmp_gt C (tgt := 281) ⟨by decide, by decide⟩ ⟨by decide, by decide⟩ dX11_init_271 (by decide) rfl (fun c_71 => ?_) (fun c_71 => ?_)
                                        · exact absurd c_71 (by decide)
                                        refine g_iload_n C 2 rfl dX11_init_274 rfl ?_
                                        refine g_callS C (mc := 0) (ms := 0) (rm := rm_K_m_quarter) (As := [vI 4]) (wc := []) (wr := [(h, .inr (12, [vR q_1, vR q_2, vR q_3, vR q_4, vR q_5, vI 0, vR q_6, vL 0, vL 0, vL 0, vL 0, vL 0, vL 0, vL 0, vI 0, vI 0, vR q_7, vI 0, vR q_8, vI 0])), (q_1, cL E 310 (ua (ua (ua (ua (ua (ua (ua (ua (ua (ua (ua (ua (ua (ua (ua (ua (ua (fun _ => 0) 14 10000) 15 100) 16 1000) 17 500) 18 3000) 19 20000) 20 5000) 21 100) 22 1000) 23 48) 24 20000) 25 500) 27 24) 29 4) 30 480) 31 1200) 97 (-6))), (q_2, cL E 310 (fun _ => 0)), (q_3, cL E 620 (fun _ => 0)), (q_4, cZ E 2 (fun _ => 0)), (q_5, cI E 80 (fun _ => 0)), (q_6, cI E 24 (ua (ua (ua (ua (ua (ua (ua (ua (ua (ua (ua (ua (ua (ua (ua (ua (ua (ua (ua (ua (fun _ => 0) 0 (cosT 0)) 1 (cosT 1)) 2 (cosT 2)) 3 (cosT 3)) 4 (cosT 4)) 5 (cosT 5)) 6 (cosT 6)) 7 (-(cosT 5))) 8 (-(cosT 4))) 9 (-(cosT 3))) 10 (-(cosT 2))) 11 (-(cosT 1))) 12 (-(cosT 0))) 13 (-(cosT 1))) 14 (-(cosT 2))) 15 (-(cosT 3))) 16 (-(cosT 4))) 17 (-(cosT 5))) 18 (cosT 6)) 19 (cosT 5))), (q_7, cI E 16 (fun _ => 0)), (q_8, cI E 120 (fun _ => 0))]) (st := [vI 20, vR q_6]) gX11_init_X11_quarter rfl (K_m_quarter l E 4 (by first | assumption | omega)) hyd_X11_quarter rfl [] [0, 1, 2, 3, 4, 5, 6, 7, 8] rfl rfl rfl rfl rfl (by decide) ⟨rfl, rfl⟩ ⟨Nat.le_of_ble_eq_true rfl, Nat.le_of_ble_eq_true rfl, Nat.le_of_ble_eq_true rfl, Nat.le_of_ble_eq_true rfl⟩ (Nat.le_of_ble_eq_true rfl) dX11_init_275 (rfl : _ = 8) (rfl : _ = 1482) rfl ?_
                                        rintro _ _ ⟨rfl, rfl⟩
                                        refine g_is (ws' := [(h, .inr (12, [vR q_1, vR q_2, vR q_3, vR q_4, vR q_5, vI 0, vR q_6, vL 0, vL 0, vL 0, vL 0, vL 0, vL 0, vL 0, vI 0, vI 0, vR q_7, vI 0, vR q_8, vI 0])), (q_1, cL E 310 (ua (ua (ua (ua (ua (ua (ua (ua (ua (ua (ua (ua (ua (ua (ua (ua (ua (fun _ => 0) 14 10000) 15 100) 16 1000) 17 500) 18 3000) 19 20000) 20 5000) 21 100) 22 1000) 23 48) 24 20000) 25 500) 27 24) 29 4) 30 480) 31 1200) 97 (-6))), (q_2, cL E 310 (fun _ => 0)), (q_3, cL E 620 (fun _ => 0)), (q_4, cZ E 2 (fun _ => 0)), (q_5, cI E 80 (fun _ => 0)), (q_6, cI E 24 (ua (ua (ua (ua (ua (ua (ua (ua (ua (ua (ua (ua (ua (ua (ua (ua (ua (ua (ua (ua (fun _ => 0) 0 (cosT 0)) 1 (cosT 1)) 2 (cosT 2)) 3 (cosT 3)) 4 (cosT 4)) 5 (cosT 5)) 6 (cosT 6)) 7 (-(cosT 5))) 8 (-(cosT 4))) 9 (-(cosT 3))) 10 (-(cosT 2))) 11 (-(cosT 1))) 12 (-(cosT 0))) 13 (-(cosT 1))) 14 (-(cosT 2))) 15 (-(cosT 3))) 16 (-(cosT 4))) 17 (-(cosT 5))) 18 (cosT 6)) 19 (cosT 5))), (q_7, cI E 16 (fun _ => 0)), (q_8, cI E 120 (fun _ => 0))]) (st' := [vI (cosT 4), vI 20, vR q_6]) rfl rfl ?_
                                        refine g_goto C (pc' := 289) dX11_init_278 (by decide) ?_
                                        refine g_iast C 6 rfl (by decide) (by decide) (by decide) (ws' := [(h, .inr (12, [vR q_1, vR q_2, vR q_3, vR q_4, vR q_5, vI 0, vR q_6, vL 0, vL 0, vL 0, vL 0, vL 0, vL 0, vL 0, vI 0, vI 0, vR q_7, vI 0, vR q_8, vI 0])), (q_1, cL E 310 (ua (ua (ua (ua (ua (ua (ua (ua (ua (ua (ua (ua (ua (ua (ua (ua (ua (fun _ => 0) 14 10000) 15 100) 16 1000) 17 500) 18 3000) 19 20000) 20 5000) 21 100) 22 1000) 23 48) 24 20000) 25 500) 27 24) 29 4) 30 480) 31 1200) 97 (-6))), (q_2, cL E 310 (fun _ => 0)), (q_3, cL E 620 (fun _ => 0)), (q_4, cZ E 2 (fun _ => 0)), (q_5, cI E 80 (fun _ => 0)), (q_6, cI E 24 (ua (ua (ua (ua (ua (ua (ua (ua (ua (ua (ua (ua (ua (ua (ua (ua (ua (ua (ua (ua (ua (fun _ => 0) 0 (cosT 0)) 1 (cosT 1)) 2 (cosT 2)) 3 (cosT 3)) 4 (cosT 4)) 5 (cosT 5)) 6 (cosT 6)) 7 (-(cosT 5))) 8 (-(cosT 4))) 9 (-(cosT 3))) 10 (-(cosT 2))) 11 (-(cosT 1))) 12 (-(cosT 0))) 13 (-(cosT 1))) 14 (-(cosT 2))) 15 (-(cosT 3))) 16 (-(cosT 4))) 17 (-(cosT 5))) 18 (cosT 6)) 19 (cosT 5)) 20 (cosT 4))), (q_7, cI E 16 (fun _ => 0)), (q_8, cI E 120 (fun _ => 0))]) rfl dX11_init_289 rfl ?_
                                        refine g_iinc C (r := 21) (lv' := [(0, vR h), (1, vI 21), (2, vI 4)]) 1 [1, 0, 2] rfl (by decide) (by decide) rfl rfl dX11_init_290 rfl ?_
                                        refine g_goto C (pc' := 242) dX11_init_293 (by decide) ?_
                                        refine g_iload_n C 1 rfl dX11_init_242 rfl ?_
                                        refine g_bipush C (by decide) dX11_init_243 rfl ?_
                                        refine g_icmp_ge C (tgt := 296) ⟨by decide, by decide⟩ ⟨by decide, by decide⟩ dX11_init_245 (by decide) rfl (fun c_72 => ?_) (fun c_72 => ?_)
                                        · exact absurd c_72 (by decide)
                                        refine g_iload_n C 1 rfl dX11_init_248 rfl ?_
                                        refine g_bipush C (by decide) dX11_init_249 rfl ?_
                                        refine g_icmp_gt C (tgt := 258) ⟨by decide, by decide⟩ ⟨by decide, by decide⟩ dX11_init_251 (by decide) rfl (fun c_73 => ?_) (fun c_73 => ?_)
                                        · refine g_bipush C (by decide) dX11_init_258 rfl ?_
                                          refine g_iload_n C 1 rfl dX11_init_260 rfl ?_
                                          refine g_isub C (r := 3) (by decide) dX11_init_261 rfl ?_
                                          refine g_istore_n C (lv' := [(0, vR h), (1, vI 21), (2, vI 3)]) [1, 2, 0] (by decide) rfl rfl dX11_init_262 rfl ?_
                                          refine g_aload_n C 0 rfl dX11_init_263 rfl ?_
                                          refine g_get C 0 fd_X11_init_27 rfl rfl rfl dX11_init_264 rfl ?_
                                          refine g_iload_n C 1 rfl dX11_init_267 rfl ?_
                                          refine g_iload_n C 2 rfl dX11_init_268 rfl ?_
                                          refine g_bipush C (by decide) dX11_init_269 rfl ?_
                                          refine g_icmp_gt C (tgt := 281) ⟨by decide, by decide⟩ ⟨by decide, by decide⟩ dX11_init_271 (by decide) rfl (fun c_74 => ?_) (fun c_74 => ?_)
                                          · exact absurd c_74 (by decide)
                                          refine g_iload_n C 2 rfl dX11_init_274 rfl ?_
                                          refine g_callS C (mc := 0) (ms := 0) (rm := rm_K_m_quarter) (As := [vI 3]) (wc := []) (wr := [(h, .inr (12, [vR q_1, vR q_2, vR q_3, vR q_4, vR q_5, vI 0, vR q_6, vL 0, vL 0, vL 0, vL 0, vL 0, vL 0, vL 0, vI 0, vI 0, vR q_7, vI 0, vR q_8, vI 0])), (q_1, cL E 310 (ua (ua (ua (ua (ua (ua (ua (ua (ua (ua (ua (ua (ua (ua (ua (ua (ua (fun _ => 0) 14 10000) 15 100) 16 1000) 17 500) 18 3000) 19 20000) 20 5000) 21 100) 22 1000) 23 48) 24 20000) 25 500) 27 24) 29 4) 30 480) 31 1200) 97 (-6))), (q_2, cL E 310 (fun _ => 0)), (q_3, cL E 620 (fun _ => 0)), (q_4, cZ E 2 (fun _ => 0)), (q_5, cI E 80 (fun _ => 0)), (q_6, cI E 24 (ua (ua (ua (ua (ua (ua (ua (ua (ua (ua (ua (ua (ua (ua (ua (ua (ua (ua (ua (ua (ua (fun _ => 0) 0 (cosT 0)) 1 (cosT 1)) 2 (cosT 2)) 3 (cosT 3)) 4 (cosT 4)) 5 (cosT 5)) 6 (cosT 6)) 7 (-(cosT 5))) 8 (-(cosT 4))) 9 (-(cosT 3))) 10 (-(cosT 2))) 11 (-(cosT 1))) 12 (-(cosT 0))) 13 (-(cosT 1))) 14 (-(cosT 2))) 15 (-(cosT 3))) 16 (-(cosT 4))) 17 (-(cosT 5))) 18 (cosT 6)) 19 (cosT 5)) 20 (cosT 4))), (q_7, cI E 16 (fun _ => 0)), (q_8, cI E 120 (fun _ => 0))]) (st := [vI 21, vR q_6]) gX11_init_X11_quarter rfl (K_m_quarter l E 3 (by first | assumption | omega)) hyd_X11_quarter rfl [] [0, 1, 2, 3, 4, 5, 6, 7, 8] rfl rfl rfl rfl rfl (by decide) ⟨rfl, rfl⟩ ⟨Nat.le_of_ble_eq_true rfl, Nat.le_of_ble_eq_true rfl, Nat.le_of_ble_eq_true rfl, Nat.le_of_ble_eq_true rfl⟩ (Nat.le_of_ble_eq_true rfl) dX11_init_275 (rfl : _ = 8) (rfl : _ = 1482) rfl ?_
                                          rintro _ _ ⟨rfl, rfl⟩
                                          refine g_is (ws' := [(h, .inr (12, [vR q_1, vR q_2, vR q_3, vR q_4, vR q_5, vI 0, vR q_6, vL 0, vL 0, vL 0, vL 0, vL 0, vL 0, vL 0, vI 0, vI 0, vR q_7, vI 0, vR q_8, vI 0])), (q_1, cL E 310 (ua (ua (ua (ua (ua (ua (ua (ua (ua (ua (ua (ua (ua (ua (ua (ua (ua (fun _ => 0) 14 10000) 15 100) 16 1000) 17 500) 18 3000) 19 20000) 20 5000) 21 100) 22 1000) 23 48) 24 20000) 25 500) 27 24) 29 4) 30 480) 31 1200) 97 (-6))), (q_2, cL E 310 (fun _ => 0)), (q_3, cL E 620 (fun _ => 0)), (q_4, cZ E 2 (fun _ => 0)), (q_5, cI E 80 (fun _ => 0)), (q_6, cI E 24 (ua (ua (ua (ua (ua (ua (ua (ua (ua (ua (ua (ua (ua (ua (ua (ua (ua (ua (ua (ua (ua (fun _ => 0) 0 (cosT 0)) 1 (cosT 1)) 2 (cosT 2)) 3 (cosT 3)) 4 (cosT 4)) 5 (cosT 5)) 6 (cosT 6)) 7 (-(cosT 5))) 8 (-(cosT 4))) 9 (-(cosT 3))) 10 (-(cosT 2))) 11 (-(cosT 1))) 12 (-(cosT 0))) 13 (-(cosT 1))) 14 (-(cosT 2))) 15 (-(cosT 3))) 16 (-(cosT 4))) 17 (-(cosT 5))) 18 (cosT 6)) 19 (cosT 5)) 20 (cosT 4))), (q_7, cI E 16 (fun _ => 0)), (q_8, cI E 120 (fun _ => 0))]) (st' := [vI (cosT 3), vI 21, vR q_6]) rfl rfl ?_
                                          refine g_goto C (pc' := 289) dX11_init_278 (by decide) ?_
                                          refine g_iast C 6 rfl (by decide) (by decide) (by decide) (ws' := [(h, .inr (12, [vR q_1, vR q_2, vR q_3, vR q_4, vR q_5, vI 0, vR q_6, vL 0, vL 0, vL 0, vL 0, vL 0, vL 0, vL 0, vI 0, vI 0, vR q_7, vI 0, vR q_8, vI 0])), (q_1, cL E 310 (ua (ua (ua (ua (ua (ua (ua (ua (ua (ua (ua (ua (ua (ua (ua (ua (ua (fun _ => 0) 14 10000) 15 100) 16 1000) 17 500) 18 3000) 19 20000) 20 5000) 21 100) 22 1000) 23 48) 24 20000) 25 500) 27 24) 29 4) 30 480) 31 1200) 97 (-6))), (q_2, cL E 310 (fun _ => 0)), (q_3, cL E 620 (fun _ => 0)), (q_4, cZ E 2 (fun _ => 0)), (q_5, cI E 80 (fun _ => 0)), (q_6, cI E 24 (ua (ua (ua (ua (ua (ua (ua (ua (ua (ua (ua (ua (ua (ua (ua (ua (ua (ua (ua (ua (ua (ua (fun _ => 0) 0 (cosT 0)) 1 (cosT 1)) 2 (cosT 2)) 3 (cosT 3)) 4 (cosT 4)) 5 (cosT 5)) 6 (cosT 6)) 7 (-(cosT 5))) 8 (-(cosT 4))) 9 (-(cosT 3))) 10 (-(cosT 2))) 11 (-(cosT 1))) 12 (-(cosT 0))) 13 (-(cosT 1))) 14 (-(cosT 2))) 15 (-(cosT 3))) 16 (-(cosT 4))) 17 (-(cosT 5))) 18 (cosT 6)) 19 (cosT 5)) 20 (cosT 4)) 21 (cosT 3))), (q_7, cI E 16 (fun _ => 0)), (q_8, cI E 120 (fun _ => 0))]) rfl dX11_init_289 rfl ?_
                                          refine g_iinc C (r := 22) (lv' := [(0, vR h), (1, vI 22), (2, vI 3)]) 1 [1, 0, 2] rfl (by decide) (by decide) rfl rfl dX11_init_290 rfl ?_
                                          refine g_goto C (pc' := 242) dX11_init_293 (by decide) ?_
                                          refine g_iload_n C 1 rfl dX11_init_242 rfl ?_
                                          refine g_bipush C (by decide) dX11_init_243 rfl ?_
                                          refine g_icmp_ge C (tgt := 296) ⟨by decide, by decide⟩ ⟨by decide, by decide⟩ dX11_init_245 (by decide) rfl (fun c_75 => ?_) (fun c_75 => ?_)
                                          · exact absurd c_75 (by decide)
                                          refine g_iload_n C 1 rfl dX11_init_248 rfl ?_
                                          refine g_bipush C (by decide) dX11_init_249 rfl ?_
                                          refine g_icmp_gt C (tgt := 258) ⟨by decide, by decide⟩ ⟨by decide, by decide⟩ dX11_init_251 (by decide) rfl (fun c_76 => ?_) (fun c_76 => ?_)
                                          · refine g_bipush C (by decide) dX11_init_258 rfl ?_
                                            refine g_iload_n C 1 rfl dX11_init_260 rfl ?_
                                            refine g_isub C (r := 2) (by decide) dX11_init_261 rfl ?_
                                            refine g_istore_n C (lv' := [(0, vR h), (1, vI 22), (2, vI 2)]) [1, 2, 0] (by decide) rfl rfl dX11_init_262 rfl ?_
                                            refine g_aload_n C 0 rfl dX11_init_263 rfl ?_
                                            refine g_get C 0 fd_X11_init_27 rfl rfl rfl dX11_init_264 rfl ?_
                                            refine g_iload_n C 1 rfl dX11_init_267 rfl ?_
                                            refine g_iload_n C 2 rfl dX11_init_268 rfl ?_
                                            refine g_bipush C (by decide) dX11_init_269 rfl ?_
                                            refine g_icmp_gt C (tgt := 281) ⟨by decide, by decide⟩ ⟨by decide, by decide⟩ dX11_init_271 (by decide) rfl (fun c_77 => ?_) (fun c_77 => ?_)
                                            · exact absurd c_77 (by decide)
                                            refine g_iload_n C 2 rfl dX11_init_274 rfl ?_
                                            refine g_callS C (mc := 0) (ms := 0) (rm := rm_K_m_quarter) (As := [vI 2]) (wc := []) (wr := [(h, .inr (12, [vR q_1, vR q_2, vR q_3, vR q_4, vR q_5, vI 0, vR q_6, vL 0, vL 0, vL 0, vL 0, vL 0, vL 0, vL 0, vI 0, vI 0, vR q_7, vI 0, vR q_8, vI 0])), (q_1, cL E 310 (ua (ua (ua (ua (ua (ua (ua (ua (ua (ua (ua (ua (ua (ua (ua (ua (ua (fun _ => 0) 14 10000) 15 100) 16 1000) 17 500) 18 3000) 19 20000) 20 5000) 21 100) 22 1000) 23 48) 24 20000) 25 500) 27 24) 29 4) 30 480) 31 1200) 97 (-6))), (q_2, cL E 310 (fun _ => 0)), (q_3, cL E 620 (fun _ => 0)), (q_4, cZ E 2 (fun _ => 0)), (q_5, cI E 80 (fun _ => 0)), (q_6, cI E 24 (ua (ua (ua (ua (ua (ua (ua (ua (ua (ua (ua (ua (ua (ua (ua (ua (ua (ua (ua (ua (ua (ua (fun _ => 0) 0 (cosT 0)) 1 (cosT 1)) 2 (cosT 2)) 3 (cosT 3)) 4 (cosT 4)) 5 (cosT 5)) 6 (cosT 6)) 7 (-(cosT 5))) 8 (-(cosT 4))) 9 (-(cosT 3))) 10 (-(cosT 2))) 11 (-(cosT 1))) 12 (-(cosT 0))) 13 (-(cosT 1))) 14 (-(cosT 2))) 15 (-(cosT 3))) 16 (-(cosT 4))) 17 (-(cosT 5))) 18 (cosT 6)) 19 (cosT 5)) 20 (cosT 4)) 21 (cosT 3))), (q_7, cI E 16 (fun _ => 0)), (q_8, cI E 120 (fun _ => 0))]) (st := [vI 22, vR q_6]) gX11_init_X11_quarter rfl (K_m_quarter l E 2 (by first | assumption | omega)) hyd_X11_quarter rfl [] [0, 1, 2, 3, 4, 5, 6, 7, 8] rfl rfl rfl rfl rfl (by decide) ⟨rfl, rfl⟩ ⟨Nat.le_of_ble_eq_true rfl, Nat.le_of_ble_eq_true rfl, Nat.le_of_ble_eq_true rfl, Nat.le_of_ble_eq_true rfl⟩ (Nat.le_of_ble_eq_true rfl) dX11_init_275 (rfl : _ = 8) (rfl : _ = 1482) rfl ?_
                                            rintro _ _ ⟨rfl, rfl⟩
                                            refine g_is (ws' := [(h, .inr (12, [vR q_1, vR q_2, vR q_3, vR q_4, vR q_5, vI 0, vR q_6, vL 0, vL 0, vL 0, vL 0, vL 0, vL 0, vL 0, vI 0, vI 0, vR q_7, vI 0, vR q_8, vI 0])), (q_1, cL E 310 (ua (ua (ua (ua (ua (ua (ua (ua (ua (ua (ua (ua (ua (ua (ua (ua (ua (fun _ => 0) 14 10000) 15 100) 16 1000) 17 500) 18 3000) 19 20000) 20 5000) 21 100) 22 1000) 23 48) 24 20000) 25 500) 27 24) 29 4) 30 480) 31 1200) 97 (-6))), (q_2, cL E 310 (fun _ => 0)), (q_3, cL E 620 (fun _ => 0)), (q_4, cZ E 2 (fun _ => 0)), (q_5, cI E 80 (fun _ => 0)), (q_6, cI E 24 (ua (ua (ua (ua (ua (ua (ua (ua (ua (ua (ua (ua (ua (ua (ua (ua (ua (ua (ua (ua (ua (ua (fun _ => 0) 0 (cosT 0)) 1 (cosT 1)) 2 (cosT 2)) 3 (cosT 3)) 4 (cosT 4)) 5 (cosT 5)) 6 (cosT 6)) 7 (-(cosT 5))) 8 (-(cosT 4))) 9 (-(cosT 3))) 10 (-(cosT 2))) 11 (-(cosT 1))) 12 (-(cosT 0))) 13 (-(cosT 1))) 14 (-(cosT 2))) 15 (-(cosT 3))) 16 (-(cosT 4))) 17 (-(cosT 5))) 18 (cosT 6)) 19 (cosT 5)) 20 (cosT 4)) 21 (cosT 3))), (q_7, cI E 16 (fun _ => 0)), (q_8, cI E 120 (fun _ => 0))]) (st' := [vI (cosT 2), vI 22, vR q_6]) rfl rfl ?_
                                            refine g_goto C (pc' := 289) dX11_init_278 (by decide) ?_
                                            refine g_iast C 6 rfl (by decide) (by decide) (by decide) (ws' := [(h, .inr (12, [vR q_1, vR q_2, vR q_3, vR q_4, vR q_5, vI 0, vR q_6, vL 0, vL 0, vL 0, vL 0, vL 0, vL 0, vL 0, vI 0, vI 0, vR q_7, vI 0, vR q_8, vI 0])), (q_1, cL E 310 (ua (ua (ua (ua (ua (ua (ua (ua (ua (ua (ua (ua (ua (ua (ua (ua (ua (fun _ => 0) 14 10000) 15 100) 16 1000) 17 500) 18 3000) 19 20000) 20 5000) 21 100) 22 1000) 23 48) 24 20000) 25 500) 27 24) 29 4) 30 480) 31 1200) 97 (-6))), (q_2, cL E 310 (fun _ => 0)), (q_3, cL E 620 (fun _ => 0)), (q_4, cZ E 2 (fun _ => 0)), (q_5, cI E 80 (fun _ => 0)), (q_6, cI E 24 (ua (ua (ua (ua (ua (ua (ua (ua (ua (ua (ua (ua (ua (ua (ua (ua (ua (ua (ua (ua (ua (ua (ua (fun _ => 0) 0 (cosT 0)) 1 (cosT 1)) 2 (cosT 2)) 3 (cosT 3)) 4 (cosT 4)) 5 (cosT 5)) 6 (cosT 6)) 7 (-(cosT 5))) 8 (-(cosT 4))) 9 (-(cosT 3))) 10 (-(cosT 2))) 11 (-(cosT 1))) 12 (-(cosT 0))) 13 (-(cosT 1))) 14 (-(cosT 2))) 15 (-(cosT 3))) 16 (-(cosT 4))) 17 (-(cosT 5))) 18 (cosT 6)) 19 (cosT 5)) 20 (cosT 4)) 21 (cosT 3)) 22 (cosT 2))), (q_7, cI E 16 (fun _ => 0)), (q_8, cI E 120 (fun _ => 0))]) rfl dX11_init_289 rfl ?_
                                            refine g_iinc C (r := 23) (lv' := [(0, vR h), (1, vI 23), (2, vI 2)]) 1 [1, 0, 2] rfl (by decide) (by decide) rfl rfl dX11_init_290 rfl ?_
                                            refine g_goto C (pc' := 242) dX11_init_293 (by decide) ?_
                                            refine g_iload_n C 1 rfl dX11_init_242 rfl ?_
                                            refine g_bipush C (by decide) dX11_init_243 rfl ?_
                                            refine g_icmp_ge C (tgt := 296) ⟨by decide, by decide⟩ ⟨by decide, by decide⟩ dX11_init_245 (by decide) rfl (fun c_78 => ?_) (fun c_78 => ?_)
                                            · exact absurd c_78 (by decide)
                                            refine g_iload_n C 1 rfl dX11_init_248 rfl ?_
                                            refine g_bipush C (by decide) dX11_init_249 rfl ?_
                                            refine g_icmp_gt C (tgt := 258) ⟨by decide, by decide⟩ ⟨by decide, by decide⟩ dX11_init_251 (by decide) rfl (fun c_79 => ?_) (fun c_79 => ?_)
                                            · refine g_bipush C (by decide) dX11_init_258 rfl ?_
                                              refine g_iload_n C 1 rfl dX11_init_260 rfl ?_
                                              refine g_isub C (r := 1) (by decide) dX11_init_261 rfl ?_
                                              refine g_istore_n C (lv' := [(0, vR h), (1, vI 23), (2, vI 1)]) [1, 2, 0] (by decide) rfl rfl dX11_init_262 rfl ?_
                                              refine g_aload_n C 0 rfl dX11_init_263 rfl ?_
                                              refine g_get C 0 fd_X11_init_27 rfl rfl rfl dX11_init_264 rfl ?_
                                              refine g_iload_n C 1 rfl dX11_init_267 rfl ?_
                                              refine g_iload_n C 2 rfl dX11_init_268 rfl ?_
                                              refine g_bipush C (by decide) dX11_init_269 rfl ?_
                                              refine g_icmp_gt C (tgt := 281) ⟨by decide, by decide⟩ ⟨by decide, by decide⟩ dX11_init_271 (by decide) rfl (fun c_80 => ?_) (fun c_80 => ?_)
                                              · exact absurd c_80 (by decide)
                                              refine g_iload_n C 2 rfl dX11_init_274 rfl ?_
                                              refine g_callS C (mc := 0) (ms := 0) (rm := rm_K_m_quarter) (As := [vI 1]) (wc := []) (wr := [(h, .inr (12, [vR q_1, vR q_2, vR q_3, vR q_4, vR q_5, vI 0, vR q_6, vL 0, vL 0, vL 0, vL 0, vL 0, vL 0, vL 0, vI 0, vI 0, vR q_7, vI 0, vR q_8, vI 0])), (q_1, cL E 310 (ua (ua (ua (ua (ua (ua (ua (ua (ua (ua (ua (ua (ua (ua (ua (ua (ua (fun _ => 0) 14 10000) 15 100) 16 1000) 17 500) 18 3000) 19 20000) 20 5000) 21 100) 22 1000) 23 48) 24 20000) 25 500) 27 24) 29 4) 30 480) 31 1200) 97 (-6))), (q_2, cL E 310 (fun _ => 0)), (q_3, cL E 620 (fun _ => 0)), (q_4, cZ E 2 (fun _ => 0)), (q_5, cI E 80 (fun _ => 0)), (q_6, cI E 24 (ua (ua (ua (ua (ua (ua (ua (ua (ua (ua (ua (ua (ua (ua (ua (ua (ua (ua (ua (ua (ua (ua (ua (fun _ => 0) 0 (cosT 0)) 1 (cosT 1)) 2 (cosT 2)) 3 (cosT 3)) 4 (cosT 4)) 5 (cosT 5)) 6 (cosT 6)) 7 (-(cosT 5))) 8 (-(cosT 4))) 9 (-(cosT 3))) 10 (-(cosT 2))) 11 (-(cosT 1))) 12 (-(cosT 0))) 13 (-(cosT 1))) 14 (-(cosT 2))) 15 (-(cosT 3))) 16 (-(cosT 4))) 17 (-(cosT 5))) 18 (cosT 6)) 19 (cosT 5)) 20 (cosT 4)) 21 (cosT 3)) 22 (cosT 2))), (q_7, cI E 16 (fun _ => 0)), (q_8, cI E 120 (fun _ => 0))]) (st := [vI 23, vR q_6]) gX11_init_X11_quarter rfl (K_m_quarter l E 1 (by first | assumption | omega)) hyd_X11_quarter rfl [] [0, 1, 2, 3, 4, 5, 6, 7, 8] rfl rfl rfl rfl rfl (by decide) ⟨rfl, rfl⟩ ⟨Nat.le_of_ble_eq_true rfl, Nat.le_of_ble_eq_true rfl, Nat.le_of_ble_eq_true rfl, Nat.le_of_ble_eq_true rfl⟩ (Nat.le_of_ble_eq_true rfl) dX11_init_275 (rfl : _ = 8) (rfl : _ = 1482) rfl ?_
                                              rintro _ _ ⟨rfl, rfl⟩
                                              refine g_is (ws' := [(h, .inr (12, [vR q_1, vR q_2, vR q_3, vR q_4, vR q_5, vI 0, vR q_6, vL 0, vL 0, vL 0, vL 0, vL 0, vL 0, vL 0, vI 0, vI 0, vR q_7, vI 0, vR q_8, vI 0])), (q_1, cL E 310 (ua (ua (ua (ua (ua (ua (ua (ua (ua (ua (ua (ua (ua (ua (ua (ua (ua (fun _ => 0) 14 10000) 15 100) 16 1000) 17 500) 18 3000) 19 20000) 20 5000) 21 100) 22 1000) 23 48) 24 20000) 25 500) 27 24) 29 4) 30 480) 31 1200) 97 (-6))), (q_2, cL E 310 (fun _ => 0)), (q_3, cL E 620 (fun _ => 0)), (q_4, cZ E 2 (fun _ => 0)), (q_5, cI E 80 (fun _ => 0)), (q_6, cI E 24 (ua (ua (ua (ua (ua (ua (ua (ua (ua (ua (ua (ua (ua (ua (ua (ua (ua (ua (ua (ua (ua (ua (ua (fun _ => 0) 0 (cosT 0)) 1 (cosT 1)) 2 (cosT 2)) 3 (cosT 3)) 4 (cosT 4)) 5 (cosT 5)) 6 (cosT 6)) 7 (-(cosT 5))) 8 (-(cosT 4))) 9 (-(cosT 3))) 10 (-(cosT 2))) 11 (-(cosT 1))) 12 (-(cosT 0))) 13 (-(cosT 1))) 14 (-(cosT 2))) 15 (-(cosT 3))) 16 (-(cosT 4))) 17 (-(cosT 5))) 18 (cosT 6)) 19 (cosT 5)) 20 (cosT 4)) 21 (cosT 3)) 22 (cosT 2))), (q_7, cI E 16 (fun _ => 0)), (q_8, cI E 120 (fun _ => 0))]) (st' := [vI (cosT 1), vI 23, vR q_6]) rfl rfl ?_
                                              refine g_goto C (pc' := 289) dX11_init_278 (by decide) ?_
                                              refine g_iast C 6 rfl (by decide) (by decide) (by decide) (ws' := [(h, .inr (12, [vR q_1, vR q_2, vR q_3, vR q_4, vR q_5, vI 0, vR q_6, vL 0, vL 0, vL 0, vL 0, vL 0, vL 0, vL 0, vI 0, vI 0, vR q_7, vI 0, vR q_8, vI 0])), (q_1, cL E 310 (ua (ua (ua (ua (ua (ua (ua (ua (ua (ua (ua (ua (ua (ua (ua (ua (ua (fun _ => 0) 14 10000) 15 100) 16 1000) 17 500) 18 3000) 19 20000) 20 5000) 21 100) 22 1000) 23 48) 24 20000) 25 500) 27 24) 29 4) 30 480) 31 1200) 97 (-6))), (q_2, cL E 310 (fun _ => 0)), (q_3, cL E 620 (fun _ => 0)), (q_4, cZ E 2 (fun _ => 0)), (q_5, cI E 80 (fun _ => 0)), (q_6, cI E 24 (ua (ua (ua (ua (ua (ua (ua (ua (ua (ua (ua (ua (ua (ua (ua (ua (ua (ua (ua (ua (ua (ua (ua (ua (fun _ => 0) 0 (cosT 0)) 1 (cosT 1)) 2 (cosT 2)) 3 (cosT 3)) 4 (cosT 4)) 5 (cosT 5)) 6 (cosT 6)) 7 (-(cosT 5))) 8 (-(cosT 4))) 9 (-(cosT 3))) 10 (-(cosT 2))) 11 (-(cosT 1))) 12 (-(cosT 0))) 13 (-(cosT 1))) 14 (-(cosT 2))) 15 (-(cosT 3))) 16 (-(cosT 4))) 17 (-(cosT 5))) 18 (cosT 6)) 19 (cosT 5)) 20 (cosT 4)) 21 (cosT 3)) 22 (cosT 2)) 23 (cosT 1))), (q_7, cI E 16 (fun _ => 0)), (q_8, cI E 120 (fun _ => 0))]) rfl dX11_init_289 rfl ?_
                                              refine g_iinc C (r := 24) (lv' := [(0, vR h), (1, vI 24), (2, vI 1)]) 1 [1, 0, 2] rfl (by decide) (by decide) rfl rfl dX11_init_290 rfl ?_
                                              refine g_goto C (pc' := 242) dX11_init_293 (by decide) ?_
                                              refine g_iload_n C 1 rfl dX11_init_242 rfl ?_
                                              refine g_bipush C (by decide) dX11_init_243 rfl ?_
                                              refine g_icmp_ge C (tgt := 296) ⟨by decide, by decide⟩ ⟨by decide, by decide⟩ dX11_init_245 (by decide) rfl (fun c_81 => ?_) (fun c_81 => ?_)
                                              · refine g_lv (lv' := []) [] rfl ?_
                                                refine g_is (ws' := [(((adr [h, q_1, q_2, q_3, q_4, q_5, q_6, q_7, q_8]) 0), .inr (12, [vR ((adr [h, q_1, q_2, q_3, q_4, q_5, q_6, q_7, q_8]) 1), vR ((adr [h, q_1, q_2, q_3, q_4, q_5, q_6, q_7, q_8]) 2), vR ((adr [h, q_1, q_2, q_3, q_4, q_5, q_6, q_7, q_8]) 3), vR ((adr [h, q_1, q_2, q_3, q_4, q_5, q_6, q_7, q_8]) 4), vR ((adr [h, q_1, q_2, q_3, q_4, q_5, q_6, q_7, q_8]) 5), vI 0, vR ((adr [h, q_1, q_2, q_3, q_4, q_5, q_6, q_7, q_8]) 6), vL 0, vL 0, vL 0, vL 0, vL 0, vL 0, vL 0, vI 0, vI 0, vR ((adr [h, q_1, q_2, q_3, q_4, q_5, q_6, q_7, q_8]) 7), vI 0, vR ((adr [h, q_1, q_2, q_3, q_4, q_5, q_6, q_7, q_8]) 8), vI 0])), (((adr [h, q_1, q_2, q_3, q_4, q_5, q_6, q_7, q_8]) 1), cL E 310 (ua (ua (ua (ua (ua (ua (ua (ua (ua (ua (ua (ua (ua (ua (ua (ua (ua (fun _ => 0) 14 10000) 15 100) 16 1000) 17 500) 18 3000) 19 20000) 20 5000) 21 100) 22 1000) 23 48) 24 20000) 25 500) 27 24) 29 4) 30 480) 31 1200) 97 (-6))), (((adr [h, q_1, q_2, q_3, q_4, q_5, q_6, q_7, q_8]) 2), cL E 310 (fun _ => 0)), (((adr [h, q_1, q_2, q_3, q_4, q_5, q_6, q_7, q_8]) 3), cL E 620 (fun _ => 0)), (((adr [h, q_1, q_2, q_3, q_4, q_5, q_6, q_7, q_8]) 4), cZ E 2 (fun _ => 0)), (((adr [h, q_1, q_2, q_3, q_4, q_5, q_6, q_7, q_8]) 5), cI E 80 (fun _ => 0)), (((adr [h, q_1, q_2, q_3, q_4, q_5, q_6, q_7, q_8]) 6), cI E 24 (ua (ua (ua (ua (ua (ua (ua (ua (ua (ua (ua (ua (ua (ua (ua (ua (ua (ua (ua (ua (ua (ua (ua (ua (fun _ => 0) 0 (cosT 0)) 1 (cosT 1)) 2 (cosT 2)) 3 (cosT 3)) 4 (cosT 4)) 5 (cosT 5)) 6 (cosT 6)) 7 (-(cosT 5))) 8 (-(cosT 4))) 9 (-(cosT 3))) 10 (-(cosT 2))) 11 (-(cosT 1))) 12 (-(cosT 0))) 13 (-(cosT 1))) 14 (-(cosT 2))) 15 (-(cosT 3))) 16 (-(cosT 4))) 17 (-(cosT 5))) 18 (cosT 6)) 19 (cosT 5)) 20 (cosT 4)) 21 (cosT 3)) 22 (cosT 2)) 23 (cosT 1))), (((adr [h, q_1, q_2, q_3, q_4, q_5, q_6, q_7, q_8]) 7), cI E 16 (fun _ => 0)), (((adr [h, q_1, q_2, q_3, q_4, q_5, q_6, q_7, q_8]) 8), cI E 120 (fun _ => 0))]) (st' := []) rfl rfl ?_
                                                have z_82 : cL E 310 ini = cL E 310 (ua (ua (ua (ua (ua (ua (ua (ua (ua (ua (ua (ua (ua (ua (ua (ua (ua (fun _ => 0) 14 10000) 15 100) 16 1000) 17 500) 18 3000) 19 20000) 20 5000) 21 100) 22 1000) 23 48) 24 20000) 25 500) 27 24) 29 4) 30 480) 31 1200) 97 (-6)) := cL_c (fun k_ k0_ k1_ => by exact up310 (by decide +kernel) k0_ k1_)
                                                have z_83 : cI E 24 cosT = cI E 24 (ua (ua (ua (ua (ua (ua (ua (ua (ua (ua (ua (ua (ua (ua (ua (ua (ua (ua (ua (ua (ua (ua (ua (ua (fun _ => 0) 0 (cosT 0)) 1 (cosT 1)) 2 (cosT 2)) 3 (cosT 3)) 4 (cosT 4)) 5 (cosT 5)) 6 (cosT 6)) 7 (-(cosT 5))) 8 (-(cosT 4))) 9 (-(cosT 3))) 10 (-(cosT 2))) 11 (-(cosT 1))) 12 (-(cosT 0))) 13 (-(cosT 1))) 14 (-(cosT 2))) 15 (-(cosT 3))) 16 (-(cosT 4))) 17 (-(cosT 5))) 18 (cosT 6)) 19 (cosT 5)) 20 (cosT 4)) 21 (cosT 3)) 22 (cosT 2)) 23 (cosT 1)) := cI_c (fun k_ k0_ k1_ => by exact up24 (by decide +kernel) k0_ k1_)
                                                have zz_84 := congr (congrArg (fun (y9_0 : va_E) (y9_1 : va_E) => ([(((adr [h, q_1, q_2, q_3, q_4, q_5, q_6, q_7, q_8]) 0), .inr (12, [vR ((adr [h, q_1, q_2, q_3, q_4, q_5, q_6, q_7, q_8]) 1), vR ((adr [h, q_1, q_2, q_3, q_4, q_5, q_6, q_7, q_8]) 2), vR ((adr [h, q_1, q_2, q_3, q_4, q_5, q_6, q_7, q_8]) 3), vR ((adr [h, q_1, q_2, q_3, q_4, q_5, q_6, q_7, q_8]) 4), vR ((adr [h, q_1, q_2, q_3, q_4, q_5, q_6, q_7, q_8]) 5), vI 0, vR ((adr [h, q_1, q_2, q_3, q_4, q_5, q_6, q_7, q_8]) 6), vL 0, vL 0, vL 0, vL 0, vL 0, vL 0, vL 0, vI 0, vI 0, vR ((adr [h, q_1, q_2, q_3, q_4, q_5, q_6, q_7, q_8]) 7), vI 0, vR ((adr [h, q_1, q_2, q_3, q_4, q_5, q_6, q_7, q_8]) 8), vI 0])), (((adr [h, q_1, q_2, q_3, q_4, q_5, q_6, q_7, q_8]) 1), y9_0), (((adr [h, q_1, q_2, q_3, q_4, q_5, q_6, q_7, q_8]) 2), cL E 310 (fun _ => 0)), (((adr [h, q_1, q_2, q_3, q_4, q_5, q_6, q_7, q_8]) 3), cL E 620 (fun _ => 0)), (((adr [h, q_1, q_2, q_3, q_4, q_5, q_6, q_7, q_8]) 4), cZ E 2 (fun _ => 0)), (((adr [h, q_1, q_2, q_3, q_4, q_5, q_6, q_7, q_8]) 5), cI E 80 (fun _ => 0)), (((adr [h, q_1, q_2, q_3, q_4, q_5, q_6, q_7, q_8]) 6), y9_1), (((adr [h, q_1, q_2, q_3, q_4, q_5, q_6, q_7, q_8]) 7), cI E 16 (fun _ => 0)), (((adr [h, q_1, q_2, q_3, q_4, q_5, q_6, q_7, q_8]) 8), cI E 120 (fun _ => 0))] : va_W)) z_82) z_83
                                                refine g_ws (ws' := [(((adr [h, q_1, q_2, q_3, q_4, q_5, q_6, q_7, q_8]) 0), .inr (12, [vR ((adr [h, q_1, q_2, q_3, q_4, q_5, q_6, q_7, q_8]) 1), vR ((adr [h, q_1, q_2, q_3, q_4, q_5, q_6, q_7, q_8]) 2), vR ((adr [h, q_1, q_2, q_3, q_4, q_5, q_6, q_7, q_8]) 3), vR ((adr [h, q_1, q_2, q_3, q_4, q_5, q_6, q_7, q_8]) 4), vR ((adr [h, q_1, q_2, q_3, q_4, q_5, q_6, q_7, q_8]) 5), vI 0, vR ((adr [h, q_1, q_2, q_3, q_4, q_5, q_6, q_7, q_8]) 6), vL 0, vL 0, vL 0, vL 0, vL 0, vL 0, vL 0, vI 0, vI 0, vR ((adr [h, q_1, q_2, q_3, q_4, q_5, q_6, q_7, q_8]) 7), vI 0, vR ((adr [h, q_1, q_2, q_3, q_4, q_5, q_6, q_7, q_8]) 8), vI 0])), (((adr [h, q_1, q_2, q_3, q_4, q_5, q_6, q_7, q_8]) 1), cL E 310 ini), (((adr [h, q_1, q_2, q_3, q_4, q_5, q_6, q_7, q_8]) 2), cL E 310 (fun _ => 0)), (((adr [h, q_1, q_2, q_3, q_4, q_5, q_6, q_7, q_8]) 3), cL E 620 (fun _ => 0)), (((adr [h, q_1, q_2, q_3, q_4, q_5, q_6, q_7, q_8]) 4), cZ E 2 (fun _ => 0)), (((adr [h, q_1, q_2, q_3, q_4, q_5, q_6, q_7, q_8]) 5), cI E 80 (fun _ => 0)), (((adr [h, q_1, q_2, q_3, q_4, q_5, q_6, q_7, q_8]) 6), cI E 24 cosT), (((adr [h, q_1, q_2, q_3, q_4, q_5, q_6, q_7, q_8]) 7), cI E 16 (fun _ => 0)), (((adr [h, q_1, q_2, q_3, q_4, q_5, q_6, q_7, q_8]) 8), cI E 120 (fun _ => 0))]) zz_84 ?_
                                                exact g_vret C hr (Nat.le_of_ble_eq_true rfl) (Nat.le_of_ble_eq_true rfl) dX11_init_296 ⟨(adr [h, q_1, q_2, q_3, q_4, q_5, q_6, q_7, q_8]), rfl, rfl, (by rfl)⟩
                                              exact absurd c_81 (by decide)
                                            exact absurd c_79 (by decide)
                                          exact absurd c_76 (by decide)
                                        exact absurd c_73 (by decide)
                                      exact absurd c_70 (by decide)
                                    exact absurd c_67 (by decide)
                                  exact absurd c_64 (by decide)
                                exact absurd c_62 (by decide)
                              exact absurd c_61 (by decide)
                            exact absurd c_59 (by decide)
                          exact absurd c_58 (by decide)
                        exact absurd c_56 (by decide)
                      exact absurd c_55 (by decide)
                    exact absurd c_53 (by decide)
                  exact absurd c_52 (by decide)
                exact absurd c_50 (by decide)
              exact absurd c_49 (by decide)
            exact absurd c_47 (by decide)
          exact absurd c_44 (by decide)
        exact absurd c_41 (by decide)
      exact absurd c_38 (by decide)
    exact absurd c_35 (by decide)
  exact absurd c_32 (by decide)
