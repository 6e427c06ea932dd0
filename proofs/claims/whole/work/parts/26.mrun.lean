theorem in_X11_samplesToTrip_X11 : ∀ w ∈ u_ws RX11 TX11 20, w ∈ wsX11_samplesToTrip := by decide +kernel
theorem fd_X11_samplesToTrip_7 : fdk wsX11_samplesToTrip RX11 7 "ZoneRelayModel" RX11 TX11 20 0 := ⟨in_X11_samplesToTrip_X11, by decide +kernel, by decide, rfl⟩
theorem hyd_X11_sample : yX11_sample.cls ≠ "java/lang/invoke/MethodHandle" ∧ yX11_sample.cls ≠ "java/lang/invoke/VarHandle" ∧ (parseMethodDescriptor yX11_sample.desc).map (fun d => d.parameters.length) = some 0 := by decide +kernel
abbrev rm_K_m_until : Room := { frames := 9, cells := 0, slots := 0, locals := 228 }
set_option maxHeartbeats 400000 in
set_option maxRecDepth 100000 in
theorem K_m_until (l : Launch) (E : Ev) (Q : Nat → Nat) (pn f0 f1 f2 f3 px py pb rg wr rn wn : Int) (a : Int → Int) (B m : Int) (hI : Inv a B) (hB : B + m ≤ 3000000) (hm : 0 ≤ m ∧ m ≤ 5000) : Mc l yX11_samplesToTrip wsX11_samplesToTrip rm_K_m_until E [vR (Q 0), vI m] [((Q 0), .inr (12, [vR (Q 1), vR (Q 2), vR (Q 3), vR (Q 4), vR (Q 5), vI pn, vR (Q 6), vL f0, vL f1, vL f2, vL f3, vL px, vL py, vL pb, vI rg, vI wr, vR (Q 7), vI rn, vR (Q 8), vI wn])), ((Q 1), cL E 310 a), ((Q 6), cI E 24 cosT)] 0 0 (fun v9 w9 => ∃ (x2 : Int) (y2 : Int) (d2 : Int), v9 = some (vI (utR (Int.toNat m) 0 a)) ∧ w9 = [((Q 0), .inr (12, [vR (Q 1), vR (Q 2), vR (Q 3), vR (Q 4), vR (Q 5), vI pn, vR (Q 6), vL f0, vL f1, vL f2, vL f3, vL x2, vL y2, vL d2, vI rg, vI wr, vR (Q 7), vI rn, vR (Q 8), vI wn])), ((Q 1), cL E 310 (utS (Int.toNat m) a)), ((Q 6), cI E 24 cosT)]) := by
  refine Mc.intro (cc := cX11_samplesToTrip) (maxL := 3) (ret := (some .int)) (lv0 := [(0, vR (Q 0)), (1, vI m)]) (by decide +kernel) rfl rfl (Nat.le_of_ble_eq_true rfl) ?_
  intro p9 e9 s9 m9 args9 below9 meth9 c9 A9 C hr hmn
  have C : Cx p9 s9 m9 args9 meth9 c9 E A9 3 cX11_samplesToTrip wsX11_samplesToTrip RX11 := C
  refine g_iconst C dX11_samplesToTrip_0 rfl ?_
  refine g_istore_n C (lv' := [(0, vR (Q 0)), (1, vI m), (2, vI 0)]) [1, 2, 0] (by decide) rfl rfl dX11_samplesToTrip_1 rfl ?_
  have hL_2 : ∀ (fuel : Nat) (i : Int) (a9 : Int → Int) (x9 : Int) (y9 : Int) (d9 : Int) (h0 : 0 ≤ i) (h1 : i ≤ m + 1) (hI9 : Inv a9 (B + i)) (hu : (i ≤ m ∧ utR (Int.toNat (m - i)) i a9 = utR (Int.toNat m) 0 a ∧ utS (Int.toNat (m - i)) a9 = utS (Int.toNat m) a) ∨ (i = m + 1 ∧ utR (Int.toNat m) 0 a = -6 ∧ utS (Int.toNat m) a = a9)) (hfu : (m + 1 - i).toNat = fuel), G p9 l e9 rm_K_m_until s9 m9 args9 below9 meth9 c9 (RQ E (fun v9 w9 => ∃ (x2 : Int) (y2 : Int) (d2 : Int), v9 = some (vI (utR (Int.toNat m) 0 a)) ∧ w9 = [((Q 0), .inr (12, [vR (Q 1), vR (Q 2), vR (Q 3), vR (Q 4), vR (Q 5), vI pn, vR (Q 6), vL f0, vL f1, vL f2, vL f3, vL x2, vL y2, vL d2, vI rg, vI wr, vR (Q 7), vI rn, vR (Q 8), vI wn])), ((Q 1), cL E 310 (utS (Int.toNat m) a)), ((Q 6), cI E 24 cosT)]) A9 below9 args9 s9 0 0) E A9 3 0 0 [((Q 0), .inr (12, [vR (Q 1), vR (Q 2), vR (Q 3), vR (Q 4), vR (Q 5), vI pn, vR (Q 6), vL f0, vL f1, vL f2, vL f3, vL x9, vL y9, vL d9, vI rg, vI wr, vR (Q 7), vI rn, vR (Q 8), vI wn])), ((Q 1), cL E 310 a9), ((Q 6), cI E 24 cosT)] [(0, vR (Q 0)), (1, vI m), (2, vI i)] 2 [] := by
    intro fuel
    induction fuel using Nat.strongRecOn with
    | ind fuel ih =>
      intro i a9 x9 y9 d9 h0 h1 hI9 hu hfu
      refine g_iload_n C 2 rfl dX11_samplesToTrip_2 rfl ?_
      refine g_iload_n C 1 rfl dX11_samplesToTrip_3 rfl ?_
      refine g_icmp_gt C (tgt := 36) ⟨by omega, by omega⟩ ⟨by omega, by omega⟩ dX11_samplesToTrip_4 (by decide) rfl (fun c_1 => ?_) (fun c_1 => ?_)
      · refine g_bipush C (by decide) dX11_samplesToTrip_36 rfl ?_
        have q9 := hu.resolve_left (fun z => by omega)
        have eS : utS (Int.toNat m) a = a9 := q9.2.2
        have eR : utR (Int.toNat m) 0 a = -6 := q9.2.1
        subst eS
        refine g_top (v' := vI (utR (Int.toNat m) 0 a)) (congrArg (fun z_ : Int => vI z_) (show (utR (Int.toNat m) 0 a) = (-6) by exact eR)) ?_
        exact g_iret C hr rfl (Nat.le_of_ble_eq_true rfl) (Nat.le_of_ble_eq_true rfl) dX11_samplesToTrip_38 ⟨x9, y9, d9, rfl, rfl⟩
      have t97 : a9 97 = -6 ∨ (0 ≤ a9 97 ∧ a9 97 ≤ 2) := hI9.2.2.2.2.2.2.2.2.2.2.2.2.2.2.2.2.1
      refine g_aload_n C 0 rfl dX11_samplesToTrip_7 rfl ?_
      refine g_get C 0 fd_X11_samplesToTrip_7 rfl rfl rfl dX11_samplesToTrip_8 rfl ?_
      refine g_bipush C (by decide) dX11_samplesToTrip_11 rfl ?_
      refine g_lald C 1 rfl (by decide) (by decide) (by decide) rfl dX11_samplesToTrip_13 rfl ?_
      refine g_lconst0 C dX11_samplesToTrip_14 rfl ?_
      refine g_lcmp_lt C ⟨by omega, by omega⟩ ⟨by decide, by decide⟩ dX11_samplesToTrip_15 rfl (tgt := 21) dX11_samplesToTrip_16 (by decide) rfl (fun c_2 => ?_) (fun c_2 => ?_)
      · refine g_iload_n C 2 rfl dX11_samplesToTrip_21 rfl ?_
        refine g_iload_n C 1 rfl dX11_samplesToTrip_22 rfl ?_
        refine g_icmp_ge C (tgt := 30) ⟨by omega, by omega⟩ ⟨by omega, by omega⟩ dX11_samplesToTrip_23 (by decide) rfl (fun c_3 => ?_) (fun c_3 => ?_)
        · refine g_iinc C (r := (i + 1)) (lv' := [(0, vR (Q 0)), (1, vI m), (2, vI (i + 1))]) 2 [1, 2, 0] rfl rfl (by decide) rfl rfl dX11_samplesToTrip_30 rfl ?_
          refine g_goto C (pc' := 2) dX11_samplesToTrip_33 (by decide) ?_
          exact ih _ (by omega) (i + 1) a9 x9 y9 d9 (by omega) (by omega) (Inv_up hI9 (by omega)) (Or.inr (by have q := hu.resolve_right (by omega); exact ⟨by omega, q.2.1.symm.trans (utR_0 (by omega) (by omega)), q.2.2.symm.trans (utS_0 (by omega))⟩)) rfl
        refine g_aload_n C 0 rfl dX11_samplesToTrip_26 rfl ?_
        refine g_callV C (b := (Q 0)) (As := []) (wc := [((Q 0), .inr (12, [vR (Q 1), vR (Q 2), vR (Q 3), vR (Q 4), vR (Q 5), vI pn, vR (Q 6), vL f0, vL f1, vL f2, vL f3, vL x9, vL y9, vL d9, vI rg, vI wr, vR (Q 7), vI rn, vR (Q 8), vI wn])), ((Q 1), cL E 310 a9), ((Q 6), cI E 24 cosT)]) (wr := []) (st := []) gX11_samplesToTrip_X11_sample (q9 := 0) (ci := 12) rfl rfl rfl (K_m_sample l E Q pn f0 f1 f2 f3 x9 y9 d9 rg wr rn wn a9 (B + i) hI9 (by omega)) hyd_X11_sample rfl [0, 1, 2] [] rfl rfl rfl rfl rfl (by decide) ⟨rfl, rfl⟩ ⟨Nat.le_of_ble_eq_true rfl, Nat.le_of_ble_eq_true rfl, Nat.le_of_ble_eq_true rfl, Nat.le_of_ble_eq_true rfl⟩ (Nat.le_of_ble_eq_true rfl) dX11_samplesToTrip_27 (rfl : _ = 0) (rfl : _ = 0) rfl ?_
        rintro _ _ ⟨x2_4, y2_5, d2_6, rfl, rfl⟩
        refine g_is (ws' := [((Q 0), .inr (12, [vR (Q 1), vR (Q 2), vR (Q 3), vR (Q 4), vR (Q 5), vI pn, vR (Q 6), vL f0, vL f1, vL f2, vL f3, vL x2_4, vL y2_5, vL d2_6, vI rg, vI wr, vR (Q 7), vI rn, vR (Q 8), vI wn])), ((Q 1), cL E 310 (stp a9)), ((Q 6), cI E 24 cosT)]) (st' := []) rfl rfl ?_
        refine g_iinc C (r := (i + 1)) (lv' := [(0, vR (Q 0)), (1, vI m), (2, vI (i + 1))]) 2 [1, 2, 0] rfl rfl (by decide) rfl rfl dX11_samplesToTrip_30 rfl ?_
        refine g_goto C (pc' := 2) dX11_samplesToTrip_33 (by decide) ?_
        exact ih _ (by omega) (i + 1) (stp a9) x2_4 y2_5 d2_6 (by omega) (by omega) (by rw [show B + (i + 1) = B + i + 1 by omega]; exact stp_inv hI9) (Or.inl (by have q := hu.resolve_right (by omega); exact ⟨by omega, (utR_s (by omega) (by omega)).symm.trans q.2.1, (utS_s (by omega) (by omega)).symm.trans q.2.2⟩)) rfl
      refine g_iload_n C 2 rfl dX11_samplesToTrip_19 rfl ?_
      have q9 := hu.resolve_right (fun z => by omega)
      have eS : utS (Int.toNat m) a = a9 := q9.2.2.symm.trans (utS_n (by omega))
      have eR : utR (Int.toNat m) 0 a = i := q9.2.1.symm.trans (utR_n (by omega))
      subst eS
      refine g_top (v' := vI (utR (Int.toNat m) 0 a)) (congrArg (fun z_ : Int => vI z_) (show (utR (Int.toNat m) 0 a) = i by exact eR)) ?_
      exact g_iret C hr rfl (Nat.le_of_ble_eq_true rfl) (Nat.le_of_ble_eq_true rfl) dX11_samplesToTrip_20 ⟨x9, y9, d9, rfl, rfl⟩
  exact hL_2 _ 0 a px py pb (by omega) (by omega) (by rw [show B + 0 = B by omega]; exact hI) (Or.inl ⟨by omega, by rw [show m - 0 = m by omega], by rw [show m - 0 = m by omega]⟩) rfl
