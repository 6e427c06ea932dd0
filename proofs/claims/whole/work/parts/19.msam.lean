theorem in_X11_putAside_X11 : ∀ w ∈ u_ws RX11 TX11 20, w ∈ wsX11_putAside := by decide +kernel
theorem fd_X11_putAside_13 : fdk wsX11_putAside RX11 13 "ZoneRelayModel" RX11 TX11 20 1 := ⟨in_X11_putAside_X11, by decide +kernel, by decide, rfl⟩
theorem fd_X11_putAside_7 : fdk wsX11_putAside RX11 7 "ZoneRelayModel" RX11 TX11 20 0 := ⟨in_X11_putAside_X11, by decide +kernel, by decide, rfl⟩
abbrev rm_K_m_aside : Room := { frames := 0, cells := 0, slots := 0, locals := 0 }
set_option maxHeartbeats 8000000 in
set_option maxRecDepth 100000 in
theorem K_m_aside (l : Launch) (E : Ev) (Q : Nat → Nat) (pn f0 f1 f2 f3 px py pb rg wr rn wn : Int) (a b : Int → Int)  : Mc l yX11_putAside wsX11_putAside rm_K_m_aside E [vR (Q 0)] [((Q 0), .inr (12, [vR (Q 1), vR (Q 2), vR (Q 3), vR (Q 4), vR (Q 5), vI pn, vR (Q 6), vL f0, vL f1, vL f2, vL f3, vL px, vL py, vL pb, vI rg, vI wr, vR (Q 7), vI rn, vR (Q 8), vI wn])), ((Q 1), cL E 310 a), ((Q 2), cL E 310 b)] 0 0 (fun v9 w9 => v9 = none ∧ w9 = [((Q 0), .inr (12, [vR (Q 1), vR (Q 2), vR (Q 3), vR (Q 4), vR (Q 5), vI pn, vR (Q 6), vL f0, vL f1, vL f2, vL f3, vL px, vL py, vL pb, vI rg, vI wr, vR (Q 7), vI rn, vR (Q 8), vI wn])), ((Q 1), cL E 310 a), ((Q 2), cL E 310 a)]) := by
  refine Mc.intro (cc := cX11_putAside) (maxL := 2) (ret := none) (lv0 := [(0, vR (Q 0))]) (by decide +kernel) rfl rfl (Nat.le_of_ble_eq_true rfl) ?_
  intro p9 e9 s9 m9 args9 below9 meth9 c9 A9 C hr hmn
  have C : Cx p9 s9 m9 args9 meth9 c9 E A9 2 cX11_putAside wsX11_putAside RX11 := C
  refine g_iconst C dX11_putAside_0 rfl ?_
  refine g_istore_n C (lv' := [(0, vR (Q 0)), (1, vI 0)]) [1, 0] (by decide) rfl rfl dX11_putAside_1 rfl ?_
  have hL_2 : ∀ (fuel : Nat) (i : Int) (h0 : 0 ≤ i) (h1 : i ≤ 310) (hfu : (310 - i).toNat = fuel), G p9 l e9 rm_K_m_aside s9 m9 args9 below9 meth9 c9 (RQ E (fun v9 w9 => v9 = none ∧ w9 = [((Q 0), .inr (12, [vR (Q 1), vR (Q 2), vR (Q 3), vR (Q 4), vR (Q 5), vI pn, vR (Q 6), vL f0, vL f1, vL f2, vL f3, vL px, vL py, vL pb, vI rg, vI wr, vR (Q 7), vI rn, vR (Q 8), vI wn])), ((Q 1), cL E 310 a), ((Q 2), cL E 310 a)]) A9 below9 args9 s9 0 0) E A9 2 0 0 [((Q 0), .inr (12, [vR (Q 1), vR (Q 2), vR (Q 3), vR (Q 4), vR (Q 5), vI pn, vR (Q 6), vL f0, vL f1, vL f2, vL f3, vL px, vL py, vL pb, vI rg, vI wr, vR (Q 7), vI rn, vR (Q 8), vI wn])), ((Q 1), cL E 310 a), ((Q 2), cL E 310 (cpyT a b 0 0 i))] [(0, vR (Q 0)), (1, vI i)] 2 [] := by
    intro fuel
    induction fuel using Nat.strongRecOn with
    | ind fuel ih =>
      intro i h0 h1 hfu
      refine g_iload_n C 1 rfl dX11_putAside_2 rfl ?_
      refine g_sipush C (by decide) dX11_putAside_3 rfl ?_
      refine g_icmp_ge C (tgt := 27) ⟨by omega, by omega⟩ ⟨by decide, by decide⟩ dX11_putAside_6 (by decide) rfl (fun c_1 => ?_) (fun c_1 => ?_)
      · refine g_ws (ws' := [((Q 0), .inr (12, [vR (Q 1), vR (Q 2), vR (Q 3), vR (Q 4), vR (Q 5), vI pn, vR (Q 6), vL f0, vL f1, vL f2, vL f3, vL px, vL py, vL pb, vI rg, vI wr, vR (Q 7), vI rn, vR (Q 8), vI wn])), ((Q 1), cL E 310 a), ((Q 2), cL E 310 a)]) (congrArg (fun z_ : Nat → Int64 => ([((Q 0), .inr (12, [vR (Q 1), vR (Q 2), vR (Q 3), vR (Q 4), vR (Q 5), vI pn, vR (Q 6), vL f0, vL f1, vL f2, vL f3, vL px, vL py, vL pb, vI rg, vI wr, vR (Q 7), vI rn, vR (Q 8), vI wn])), ((Q 1), cL E 310 a), ((Q 2), .inl (E.2.1 1, 310, .inr (.inl z_)))] : va_W)) (show AL 310 a = AL 310 (cpyT a b 0 0 i) from AL_c (fun k_ k0_ k1_ => by exact cpyT_f k0_ (by omega)))) ?_
        exact g_vret C hr (Nat.le_of_ble_eq_true rfl) (Nat.le_of_ble_eq_true rfl) dX11_putAside_27 ⟨rfl, rfl⟩
      refine g_aload_n C 0 rfl dX11_putAside_9 rfl ?_
      refine g_get C 0 fd_X11_putAside_13 rfl rfl rfl dX11_putAside_10 rfl ?_
      refine g_iload_n C 1 rfl dX11_putAside_13 rfl ?_
      refine g_aload_n C 0 rfl dX11_putAside_14 rfl ?_
      refine g_get C 0 fd_X11_putAside_7 rfl rfl rfl dX11_putAside_15 rfl ?_
      refine g_iload_n C 1 rfl dX11_putAside_18 rfl ?_
      refine g_lald C 1 rfl (by omega) (by omega) (by decide) rfl dX11_putAside_19 rfl ?_
      refine g_last C 2 rfl (by omega) (by omega) (by decide) (ws' := [((Q 0), .inr (12, [vR (Q 1), vR (Q 2), vR (Q 3), vR (Q 4), vR (Q 5), vI pn, vR (Q 6), vL f0, vL f1, vL f2, vL f3, vL px, vL py, vL pb, vI rg, vI wr, vR (Q 7), vI rn, vR (Q 8), vI wn])), ((Q 1), cL E 310 a), ((Q 2), cL E 310 (ua (cpyT a b 0 0 i) i (a i)))]) rfl dX11_putAside_20 rfl ?_
      refine g_iinc C (r := (i + 1)) (lv' := [(0, vR (Q 0)), (1, vI (i + 1))]) 1 [1, 0] rfl rfl (by decide) rfl rfl dX11_putAside_21 rfl ?_
      refine g_goto C (pc' := 2) dX11_putAside_24 (by decide) ?_
      refine g_ws (ws' := [((Q 0), .inr (12, [vR (Q 1), vR (Q 2), vR (Q 3), vR (Q 4), vR (Q 5), vI pn, vR (Q 6), vL f0, vL f1, vL f2, vL f3, vL px, vL py, vL pb, vI rg, vI wr, vR (Q 7), vI rn, vR (Q 8), vI wn])), ((Q 1), cL E 310 a), ((Q 2), cL E 310 (cpyT a b 0 0 (i + 1)))]) (congrArg (fun z_ : Nat → Int64 => ([((Q 0), .inr (12, [vR (Q 1), vR (Q 2), vR (Q 3), vR (Q 4), vR (Q 5), vI pn, vR (Q 6), vL f0, vL f1, vL f2, vL f3, vL px, vL py, vL pb, vI rg, vI wr, vR (Q 7), vI rn, vR (Q 8), vI wn])), ((Q 1), cL E 310 a), ((Q 2), .inl (E.2.1 1, 310, .inr (.inl z_)))] : va_W)) (show AL 310 (cpyT a b 0 0 (i + 1)) = AL 310 (ua (cpyT a b 0 0 i) i (a i)) from AL_c (fun k_ k0_ k1_ => by exact cpyT_s h0))) ?_
      exact ih _ (by omega) (i + 1) (by omega) (by omega) rfl
  refine g_ws (ws' := [((Q 0), .inr (12, [vR (Q 1), vR (Q 2), vR (Q 3), vR (Q 4), vR (Q 5), vI pn, vR (Q 6), vL f0, vL f1, vL f2, vL f3, vL px, vL py, vL pb, vI rg, vI wr, vR (Q 7), vI rn, vR (Q 8), vI wn])), ((Q 1), cL E 310 a), ((Q 2), cL E 310 (cpyT a b 0 0 0))]) (congrArg (fun z_ : Nat → Int64 => ([((Q 0), .inr (12, [vR (Q 1), vR (Q 2), vR (Q 3), vR (Q 4), vR (Q 5), vI pn, vR (Q 6), vL f0, vL f1, vL f2, vL f3, vL px, vL py, vL pb, vI rg, vI wr, vR (Q 7), vI rn, vR (Q 8), vI wn])), ((Q 1), cL E 310 a), ((Q 2), .inl (E.2.1 1, 310, .inr (.inl z_)))] : va_W)) (show AL 310 (cpyT a b 0 0 0) = AL 310 b from AL_c (fun k_ k0_ k1_ => by exact cpyT_0))) ?_
  exact hL_2 _ 0 (by omega) (by omega) rfl

theorem in_X11_putBack_X11 : ∀ w ∈ u_ws RX11 TX11 20, w ∈ wsX11_putBack := by decide +kernel
theorem fd_X11_putBack_7 : fdk wsX11_putBack RX11 7 "ZoneRelayModel" RX11 TX11 20 0 := ⟨in_X11_putBack_X11, by decide +kernel, by decide, rfl⟩
theorem fd_X11_putBack_13 : fdk wsX11_putBack RX11 13 "ZoneRelayModel" RX11 TX11 20 1 := ⟨in_X11_putBack_X11, by decide +kernel, by decide, rfl⟩
abbrev rm_K_m_back : Room := { frames := 0, cells := 0, slots := 0, locals := 0 }
set_option maxHeartbeats 8000000 in
set_option maxRecDepth 100000 in
theorem K_m_back (l : Launch) (E : Ev) (Q : Nat → Nat) (pn f0 f1 f2 f3 px py pb rg wr rn wn : Int) (a b : Int → Int)  : Mc l yX11_putBack wsX11_putBack rm_K_m_back E [vR (Q 0)] [((Q 0), .inr (12, [vR (Q 1), vR (Q 2), vR (Q 3), vR (Q 4), vR (Q 5), vI pn, vR (Q 6), vL f0, vL f1, vL f2, vL f3, vL px, vL py, vL pb, vI rg, vI wr, vR (Q 7), vI rn, vR (Q 8), vI wn])), ((Q 1), cL E 310 a), ((Q 2), cL E 310 b)] 0 0 (fun v9 w9 => v9 = none ∧ w9 = [((Q 0), .inr (12, [vR (Q 1), vR (Q 2), vR (Q 3), vR (Q 4), vR (Q 5), vI pn, vR (Q 6), vL f0, vL f1, vL f2, vL f3, vL px, vL py, vL pb, vI rg, vI wr, vR (Q 7), vI rn, vR (Q 8), vI wn])), ((Q 1), cL E 310 b), ((Q 2), cL E 310 b)]) := by
  refine Mc.intro (cc := cX11_putBack) (maxL := 2) (ret := none) (lv0 := [(0, vR (Q 0))]) (by decide +kernel) rfl rfl (Nat.le_of_ble_eq_true rfl) ?_
  intro p9 e9 s9 m9 args9 below9 meth9 c9 A9 C hr hmn
  have C : Cx p9 s9 m9 args9 meth9 c9 E A9 2 cX11_putBack wsX11_putBack RX11 := C
  refine g_iconst C dX11_putBack_0 rfl ?_
  refine g_istore_n C (lv' := [(0, vR (Q 0)), (1, vI 0)]) [1, 0] (by decide) rfl rfl dX11_putBack_1 rfl ?_
  have hL_2 : ∀ (fuel : Nat) (i : Int) (h0 : 0 ≤ i) (h1 : i ≤ 310) (hfu : (310 - i).toNat = fuel), G p9 l e9 rm_K_m_back s9 m9 args9 below9 meth9 c9 (RQ E (fun v9 w9 => v9 = none ∧ w9 = [((Q 0), .inr (12, [vR (Q 1), vR (Q 2), vR (Q 3), vR (Q 4), vR (Q 5), vI pn, vR (Q 6), vL f0, vL f1, vL f2, vL f3, vL px, vL py, vL pb, vI rg, vI wr, vR (Q 7), vI rn, vR (Q 8), vI wn])), ((Q 1), cL E 310 b), ((Q 2), cL E 310 b)]) A9 below9 args9 s9 0 0) E A9 2 0 0 [((Q 0), .inr (12, [vR (Q 1), vR (Q 2), vR (Q 3), vR (Q 4), vR (Q 5), vI pn, vR (Q 6), vL f0, vL f1, vL f2, vL f3, vL px, vL py, vL pb, vI rg, vI wr, vR (Q 7), vI rn, vR (Q 8), vI wn])), ((Q 1), cL E 310 (cpyT b a 0 0 i)), ((Q 2), cL E 310 b)] [(0, vR (Q 0)), (1, vI i)] 2 [] := by
    intro fuel
    induction fuel using Nat.strongRecOn with
    | ind fuel ih =>
      intro i h0 h1 hfu
      refine g_iload_n C 1 rfl dX11_putBack_2 rfl ?_
      refine g_sipush C (by decide) dX11_putBack_3 rfl ?_
      refine g_icmp_ge C (tgt := 27) ⟨by omega, by omega⟩ ⟨by decide, by decide⟩ dX11_putBack_6 (by decide) rfl (fun c_1 => ?_) (fun c_1 => ?_)
      · refine g_ws (ws' := [((Q 0), .inr (12, [vR (Q 1), vR (Q 2), vR (Q 3), vR (Q 4), vR (Q 5), vI pn, vR (Q 6), vL f0, vL f1, vL f2, vL f3, vL px, vL py, vL pb, vI rg, vI wr, vR (Q 7), vI rn, vR (Q 8), vI wn])), ((Q 1), cL E 310 b), ((Q 2), cL E 310 b)]) (congrArg (fun z_ : Nat → Int64 => ([((Q 0), .inr (12, [vR (Q 1), vR (Q 2), vR (Q 3), vR (Q 4), vR (Q 5), vI pn, vR (Q 6), vL f0, vL f1, vL f2, vL f3, vL px, vL py, vL pb, vI rg, vI wr, vR (Q 7), vI rn, vR (Q 8), vI wn])), ((Q 1), .inl (E.2.1 1, 310, .inr (.inl z_))), ((Q 2), cL E 310 b)] : va_W)) (show AL 310 b = AL 310 (cpyT b a 0 0 i) from AL_c (fun k_ k0_ k1_ => by exact cpyT_f k0_ (by omega)))) ?_
        exact g_vret C hr (Nat.le_of_ble_eq_true rfl) (Nat.le_of_ble_eq_true rfl) dX11_putBack_27 ⟨rfl, rfl⟩
      refine g_aload_n C 0 rfl dX11_putBack_9 rfl ?_
      refine g_get C 0 fd_X11_putBack_7 rfl rfl rfl dX11_putBack_10 rfl ?_
      refine g_iload_n C 1 rfl dX11_putBack_13 rfl ?_
      refine g_aload_n C 0 rfl dX11_putBack_14 rfl ?_
      refine g_get C 0 fd_X11_putBack_13 rfl rfl rfl dX11_putBack_15 rfl ?_
      refine g_iload_n C 1 rfl dX11_putBack_18 rfl ?_
      refine g_lald C 2 rfl (by omega) (by omega) (by decide) rfl dX11_putBack_19 rfl ?_
      refine g_last C 1 rfl (by omega) (by omega) (by decide) (ws' := [((Q 0), .inr (12, [vR (Q 1), vR (Q 2), vR (Q 3), vR (Q 4), vR (Q 5), vI pn, vR (Q 6), vL f0, vL f1, vL f2, vL f3, vL px, vL py, vL pb, vI rg, vI wr, vR (Q 7), vI rn, vR (Q 8), vI wn])), ((Q 1), cL E 310 (ua (cpyT b a 0 0 i) i (b i))), ((Q 2), cL E 310 b)]) rfl dX11_putBack_20 rfl ?_
      refine g_iinc C (r := (i + 1)) (lv' := [(0, vR (Q 0)), (1, vI (i + 1))]) 1 [1, 0] rfl rfl (by decide) rfl rfl dX11_putBack_21 rfl ?_
      refine g_goto C (pc' := 2) dX11_putBack_24 (by decide) ?_
      refine g_ws (ws' := [((Q 0), .inr (12, [vR (Q 1), vR (Q 2), vR (Q 3), vR (Q 4), vR (Q 5), vI pn, vR (Q 6), vL f0, vL f1, vL f2, vL f3, vL px, vL py, vL pb, vI rg, vI wr, vR (Q 7), vI rn, vR (Q 8), vI wn])), ((Q 1), cL E 310 (cpyT b a 0 0 (i + 1))), ((Q 2), cL E 310 b)]) (congrArg (fun z_ : Nat → Int64 => ([((Q 0), .inr (12, [vR (Q 1), vR (Q 2), vR (Q 3), vR (Q 4), vR (Q 5), vI pn, vR (Q 6), vL f0, vL f1, vL f2, vL f3, vL px, vL py, vL pb, vI rg, vI wr, vR (Q 7), vI rn, vR (Q 8), vI wn])), ((Q 1), .inl (E.2.1 1, 310, .inr (.inl z_))), ((Q 2), cL E 310 b)] : va_W)) (show AL 310 (cpyT b a 0 0 (i + 1)) = AL 310 (ua (cpyT b a 0 0 i) i (b i)) from AL_c (fun k_ k0_ k1_ => by exact cpyT_s h0))) ?_
      exact ih _ (by omega) (i + 1) (by omega) (by omega) rfl
  refine g_ws (ws' := [((Q 0), .inr (12, [vR (Q 1), vR (Q 2), vR (Q 3), vR (Q 4), vR (Q 5), vI pn, vR (Q 6), vL f0, vL f1, vL f2, vL f3, vL px, vL py, vL pb, vI rg, vI wr, vR (Q 7), vI rn, vR (Q 8), vI wn])), ((Q 1), cL E 310 (cpyT b a 0 0 0)), ((Q 2), cL E 310 b)]) (congrArg (fun z_ : Nat → Int64 => ([((Q 0), .inr (12, [vR (Q 1), vR (Q 2), vR (Q 3), vR (Q 4), vR (Q 5), vI pn, vR (Q 6), vL f0, vL f1, vL f2, vL f3, vL px, vL py, vL pb, vI rg, vI wr, vR (Q 7), vI rn, vR (Q 8), vI wn])), ((Q 1), .inl (E.2.1 1, 310, .inr (.inl z_))), ((Q 2), cL E 310 b)] : va_W)) (show AL 310 (cpyT b a 0 0 0) = AL 310 a from AL_c (fun k_ k0_ k1_ => by exact cpyT_0))) ?_
  exact hL_2 _ 0 (by omega) (by omega) rfl

theorem in_X11_goOnRamp_X11 : ∀ w ∈ u_ws RX11 TX11 20, w ∈ wsX11_goOnRamp := by decide +kernel
theorem fd_X11_goOnRamp_7 : fdk wsX11_goOnRamp RX11 7 "ZoneRelayModel" RX11 TX11 20 0 := ⟨in_X11_goOnRamp_X11, by decide +kernel, by decide, rfl⟩
abbrev rm_K_m_ramp : Room := { frames := 0, cells := 0, slots := 0, locals := 0 }
set_option maxHeartbeats 8000000 in
set_option maxRecDepth 100000 in
theorem K_m_ramp (l : Launch) (E : Ev) (Q : Nat → Nat) (pn f0 f1 f2 f3 px py pb rg wr rn wn : Int) (a : Int → Int) (B : Int) (hI : Inv a B) : Mc l yX11_goOnRamp wsX11_goOnRamp rm_K_m_ramp E [vR (Q 0)] [((Q 0), .inr (12, [vR (Q 1), vR (Q 2), vR (Q 3), vR (Q 4), vR (Q 5), vI pn, vR (Q 6), vL f0, vL f1, vL f2, vL f3, vL px, vL py, vL pb, vI rg, vI wr, vR (Q 7), vI rn, vR (Q 8), vI wn])), ((Q 1), cL E 310 a)] 0 0 (fun v9 w9 => v9 = none ∧ w9 = [((Q 0), .inr (12, [vR (Q 1), vR (Q 2), vR (Q 3), vR (Q 4), vR (Q 5), vI pn, vR (Q 6), vL f0, vL f1, vL f2, vL f3, vL px, vL py, vL pb, vI rg, vI wr, vR (Q 7), vI rn, vR (Q 8), vI wn])), ((Q 1), cL E 310 (s_ramp a))]) := by
  refine Mc.intro (cc := cX11_goOnRamp) (maxL := 4) (ret := none) (lv0 := [(0, vR (Q 0))]) (by decide +kernel) rfl rfl (Nat.le_of_ble_eq_true rfl) ?_
  intro p9 e9 s9 m9 args9 below9 meth9 c9 A9 C hr hmn
  have C : Cx p9 s9 m9 args9 meth9 c9 E A9 4 cX11_goOnRamp wsX11_goOnRamp RX11 := C
  obtain ⟨iP, i4, iR, iE⟩ := hI
  refine g_aload_n C 0 rfl dX11_goOnRamp_0 rfl ?_
  refine g_get C 0 fd_X11_goOnRamp_7 rfl rfl rfl dX11_goOnRamp_1 rfl ?_
  refine g_iconst C dX11_goOnRamp_4 rfl ?_
  refine g_lald C 1 rfl (by decide) (by decide) (by decide) rfl dX11_goOnRamp_5 rfl ?_
  refine g_lconst0 C dX11_goOnRamp_6 rfl ?_
  refine g_lcmp_le C ⟨by omega, by omega⟩ ⟨by decide, by decide⟩ dX11_goOnRamp_7 rfl (tgt := 96) dX11_goOnRamp_8 (by decide) rfl (fun c_1 => ?_) (fun c_1 => ?_)
  · refine g_ws (ws' := [((Q 0), .inr (12, [vR (Q 1), vR (Q 2), vR (Q 3), vR (Q 4), vR (Q 5), vI pn, vR (Q 6), vL f0, vL f1, vL f2, vL f3, vL px, vL py, vL pb, vI rg, vI wr, vR (Q 7), vI rn, vR (Q 8), vI wn])), ((Q 1), cL E 310 (s_ramp a))]) (congrArg (fun z_ : Nat → Int64 => ([((Q 0), .inr (12, [vR (Q 1), vR (Q 2), vR (Q 3), vR (Q 4), vR (Q 5), vI pn, vR (Q 6), vL f0, vL f1, vL f2, vL f3, vL px, vL py, vL pb, vI rg, vI wr, vR (Q 7), vI rn, vR (Q 8), vI wn])), ((Q 1), .inl (E.2.1 1, 310, .inr (.inl z_)))] : va_W)) (show AL 310 (s_ramp a) = AL 310 a from AL_c (fun k_ k0_ k1_ => by first | (rw [ramp_n (show ¬ 0 < a 4 by omega)]; done) | (have ek : k = 4 := (by omega); subst ek; exact ramp_rp h4 k_)))) ?_
    exact g_vret C hr (Nat.le_of_ble_eq_true rfl) (Nat.le_of_ble_eq_true rfl) dX11_goOnRamp_96 ⟨rfl, rfl⟩
  refine g_aload_n C 0 rfl dX11_goOnRamp_11 rfl ?_
  refine g_get C 0 fd_X11_goOnRamp_7 rfl rfl rfl dX11_goOnRamp_12 rfl ?_
  refine g_iconst C dX11_goOnRamp_15 rfl ?_
  refine g_lald C 1 rfl (by decide) (by decide) (by decide) rfl dX11_goOnRamp_16 rfl ?_
  refine g_aload_n C 0 rfl dX11_goOnRamp_17 rfl ?_
  refine g_get C 0 fd_X11_goOnRamp_7 rfl rfl rfl dX11_goOnRamp_18 rfl ?_
  refine g_iconst C dX11_goOnRamp_21 rfl ?_
  refine g_lald C 1 rfl (by decide) (by decide) (by decide) rfl dX11_goOnRamp_22 rfl ?_
  refine g_lsub C rfl dX11_goOnRamp_23 rfl ?_
  refine g_lconst1 C dX11_goOnRamp_24 rfl ?_
  refine g_ladd C rfl dX11_goOnRamp_25 rfl ?_
  refine g_lstore_n C (lv' := [(0, vR (Q 0)), (1, vL (((a 5) - (a 4)) + 1))]) [1, 0] (by decide) rfl rfl dX11_goOnRamp_26 rfl ?_
  refine g_iconst C dX11_goOnRamp_27 rfl ?_
  refine g_istore_n C (lv' := [(0, vR (Q 0)), (1, vL (((a 5) - (a 4)) + 1)), (3, vI 0)]) [1, 2, 0] (by decide) rfl rfl dX11_goOnRamp_28 rfl ?_
  have hL_29 : ∀ (fuel : Nat) (k : Int) (h0 : 0 ≤ k) (h1 : k ≤ 4) (h4 : 0 < a 4) (hfu : (4 - k).toNat = fuel), G p9 l e9 rm_K_m_ramp s9 m9 args9 below9 meth9 c9 (RQ E (fun v9 w9 => v9 = none ∧ w9 = [((Q 0), .inr (12, [vR (Q 1), vR (Q 2), vR (Q 3), vR (Q 4), vR (Q 5), vI pn, vR (Q 6), vL f0, vL f1, vL f2, vL f3, vL px, vL py, vL pb, vI rg, vI wr, vR (Q 7), vI rn, vR (Q 8), vI wn])), ((Q 1), cL E 310 (s_ramp a))]) A9 below9 args9 s9 0 0) E A9 4 0 0 [((Q 0), .inr (12, [vR (Q 1), vR (Q 2), vR (Q 3), vR (Q 4), vR (Q 5), vI pn, vR (Q 6), vL f0, vL f1, vL f2, vL f3, vL px, vL py, vL pb, vI rg, vI wr, vR (Q 7), vI rn, vR (Q 8), vI wn])), ((Q 1), cL E 310 (rpA a k))] [(0, vR (Q 0)), (1, vL (((a 5) - (a 4)) + 1)), (3, vI k)] 29 [] := by
    intro fuel
    induction fuel using Nat.strongRecOn with
    | ind fuel ih =>
      intro k h0 h1 h4 hfu
      refine g_iload_n C 2 rfl dX11_goOnRamp_29 rfl ?_
      refine g_iconst C dX11_goOnRamp_30 rfl ?_
      refine g_icmp_ge C (tgt := 86) ⟨by omega, by omega⟩ ⟨by decide, by decide⟩ dX11_goOnRamp_31 (by decide) rfl (fun c_2 => ?_) (fun c_2 => ?_)
      · refine g_aload_n C 0 rfl dX11_goOnRamp_86 rfl ?_
        refine g_get C 0 fd_X11_goOnRamp_7 rfl rfl rfl dX11_goOnRamp_87 rfl ?_
        refine g_iconst C dX11_goOnRamp_90 rfl ?_
        refine g_dup2 C rfl rfl dX11_goOnRamp_91 rfl ?_
        refine g_lald C 1 rfl (by decide) (by decide) (by decide) rfl dX11_goOnRamp_92 rfl ?_
        refine g_lconst1 C dX11_goOnRamp_93 rfl ?_
        refine g_lsub C rfl dX11_goOnRamp_94 rfl ?_
        refine g_last C 1 rfl (by decide) (by decide) (by decide) (ws' := [((Q 0), .inr (12, [vR (Q 1), vR (Q 2), vR (Q 3), vR (Q 4), vR (Q 5), vI pn, vR (Q 6), vL f0, vL f1, vL f2, vL f3, vL px, vL py, vL pb, vI rg, vI wr, vR (Q 7), vI rn, vR (Q 8), vI wn])), ((Q 1), cL E 310 (ua (rpA a k) 4 (((rpA a k) 4) - 1)))]) rfl dX11_goOnRamp_95 rfl ?_
        refine g_ws (ws' := [((Q 0), .inr (12, [vR (Q 1), vR (Q 2), vR (Q 3), vR (Q 4), vR (Q 5), vI pn, vR (Q 6), vL f0, vL f1, vL f2, vL f3, vL px, vL py, vL pb, vI rg, vI wr, vR (Q 7), vI rn, vR (Q 8), vI wn])), ((Q 1), cL E 310 (s_ramp a))]) (congrArg (fun z_ : Nat → Int64 => ([((Q 0), .inr (12, [vR (Q 1), vR (Q 2), vR (Q 3), vR (Q 4), vR (Q 5), vI pn, vR (Q 6), vL f0, vL f1, vL f2, vL f3, vL px, vL py, vL pb, vI rg, vI wr, vR (Q 7), vI rn, vR (Q 8), vI wn])), ((Q 1), .inl (E.2.1 1, 310, .inr (.inl z_)))] : va_W)) (show AL 310 (s_ramp a) = AL 310 (ua (rpA a k) 4 (((rpA a k) 4) - 1)) from AL_c (fun k_ k0_ k1_ => by first | (rw [ramp_n (show ¬ 0 < a 4 by omega)]; done) | (have ek : k = 4 := (by omega); subst ek; exact ramp_rp h4 k_)))) ?_
        exact g_vret C hr (Nat.le_of_ble_eq_true rfl) (Nat.le_of_ble_eq_true rfl) dX11_goOnRamp_96 ⟨rfl, rfl⟩
      have e6 : rpA a k (6 + k) = a (6 + k) := rpA_g (by omega)
      have e10 : rpA a k (10 + k) = a (10 + k) := rpA_g (by omega)
      have e5 : rpA a k 5 = a 5 := rpA_g (by omega)
      have r6 := iR (6 + k) (by omega) (by omega)
      have r10 := iR (10 + k) (by omega) (by omega)
      have mb := mul_b (x := rpA a k (10 + k) - rpA a k (6 + k)) (y := a 5 - a 4 + 1) (A := 40000) (B := 100000) (by omega) (by omega)
      refine g_aload_n C 0 rfl dX11_goOnRamp_34 rfl ?_
      refine g_get C 0 fd_X11_goOnRamp_7 rfl rfl rfl dX11_goOnRamp_35 rfl ?_
      refine g_iconst C dX11_goOnRamp_38 rfl ?_
      refine g_iload_n C 2 rfl dX11_goOnRamp_39 rfl ?_
      refine g_iadd C rfl dX11_goOnRamp_40 rfl ?_
      refine g_aload_n C 0 rfl dX11_goOnRamp_41 rfl ?_
      refine g_get C 0 fd_X11_goOnRamp_7 rfl rfl rfl dX11_goOnRamp_42 rfl ?_
      refine g_bipush C (by decide) dX11_goOnRamp_45 rfl ?_
      refine g_iload_n C 2 rfl dX11_goOnRamp_47 rfl ?_
      refine g_iadd C rfl dX11_goOnRamp_48 rfl ?_
      refine g_lald C 1 rfl (by omega) (by omega) (by decide) rfl dX11_goOnRamp_49 rfl ?_
      refine g_aload_n C 0 rfl dX11_goOnRamp_50 rfl ?_
      refine g_get C 0 fd_X11_goOnRamp_7 rfl rfl rfl dX11_goOnRamp_51 rfl ?_
      refine g_bipush C (by decide) dX11_goOnRamp_54 rfl ?_
      refine g_iload_n C 2 rfl dX11_goOnRamp_56 rfl ?_
      refine g_iadd C rfl dX11_goOnRamp_57 rfl ?_
      refine g_lald C 1 rfl (by omega) (by omega) (by decide) rfl dX11_goOnRamp_58 rfl ?_
      refine g_aload_n C 0 rfl dX11_goOnRamp_59 rfl ?_
      refine g_get C 0 fd_X11_goOnRamp_7 rfl rfl rfl dX11_goOnRamp_60 rfl ?_
      refine g_bipush C (by decide) dX11_goOnRamp_63 rfl ?_
      refine g_iload_n C 2 rfl dX11_goOnRamp_65 rfl ?_
      refine g_iadd C rfl dX11_goOnRamp_66 rfl ?_
      refine g_lald C 1 rfl (by omega) (by omega) (by decide) rfl dX11_goOnRamp_67 rfl ?_
      refine g_lsub C rfl dX11_goOnRamp_68 rfl ?_
      refine g_lload_n C 1 rfl dX11_goOnRamp_69 rfl ?_
      refine g_lmul C rfl dX11_goOnRamp_70 rfl ?_
      refine g_aload_n C 0 rfl dX11_goOnRamp_71 rfl ?_
      refine g_get C 0 fd_X11_goOnRamp_7 rfl rfl rfl dX11_goOnRamp_72 rfl ?_
      refine g_iconst C dX11_goOnRamp_75 rfl ?_
      refine g_lald C 1 rfl (by decide) (by decide) (by decide) rfl dX11_goOnRamp_76 rfl ?_
      refine g_ldiv C ⟨by omega, by omega⟩ ⟨by omega, by omega⟩ (by omega) rfl dX11_goOnRamp_77 rfl ?_
      refine g_ladd C rfl dX11_goOnRamp_78 rfl ?_
      refine g_top (v' := vL (rmp a k)) (congrArg (fun z_ : Int => vL z_) (show (rmp a k) = (((rpA a k) (6 + k)) + (Int.tdiv ((((rpA a k) (10 + k)) - ((rpA a k) (6 + k))) * (((a 5) - (a 4)) + 1)) ((rpA a k) 5))) by rw [e6, e10, e5]; rfl)) ?_
      refine g_last C 1 rfl (by omega) (by omega) (by decide) (ws' := [((Q 0), .inr (12, [vR (Q 1), vR (Q 2), vR (Q 3), vR (Q 4), vR (Q 5), vI pn, vR (Q 6), vL f0, vL f1, vL f2, vL f3, vL px, vL py, vL pb, vI rg, vI wr, vR (Q 7), vI rn, vR (Q 8), vI wn])), ((Q 1), cL E 310 (ua (rpA a k) (0 + k) (rmp a k)))]) rfl dX11_goOnRamp_79 rfl ?_
      refine g_iinc C (r := (k + 1)) (lv' := [(0, vR (Q 0)), (1, vL (((a 5) - (a 4)) + 1)), (3, vI (k + 1))]) 2 [1, 2, 0] rfl rfl (by decide) rfl rfl dX11_goOnRamp_80 rfl ?_
      refine g_goto C (pc' := 29) dX11_goOnRamp_83 (by decide) ?_
      refine g_ws (ws' := [((Q 0), .inr (12, [vR (Q 1), vR (Q 2), vR (Q 3), vR (Q 4), vR (Q 5), vI pn, vR (Q 6), vL f0, vL f1, vL f2, vL f3, vL px, vL py, vL pb, vI rg, vI wr, vR (Q 7), vI rn, vR (Q 8), vI wn])), ((Q 1), cL E 310 (rpA a (k + 1)))]) (congrArg (fun z_ : Nat → Int64 => ([((Q 0), .inr (12, [vR (Q 1), vR (Q 2), vR (Q 3), vR (Q 4), vR (Q 5), vI pn, vR (Q 6), vL f0, vL f1, vL f2, vL f3, vL px, vL py, vL pb, vI rg, vI wr, vR (Q 7), vI rn, vR (Q 8), vI wn])), ((Q 1), .inl (E.2.1 1, 310, .inr (.inl z_)))] : va_W)) (show AL 310 (rpA a (k + 1)) = AL 310 (ua (rpA a k) (0 + k) (rmp a k)) from AL_c (fun k_ k0_ k1_ => by rw [Int.zero_add]; exact rpA_s h0 k_))) ?_
      exact ih _ (by omega) (k + 1) (by omega) (by omega) (by omega) rfl
  refine g_ws (ws' := [((Q 0), .inr (12, [vR (Q 1), vR (Q 2), vR (Q 3), vR (Q 4), vR (Q 5), vI pn, vR (Q 6), vL f0, vL f1, vL f2, vL f3, vL px, vL py, vL pb, vI rg, vI wr, vR (Q 7), vI rn, vR (Q 8), vI wn])), ((Q 1), cL E 310 (rpA a 0))]) (congrArg (fun z_ : Nat → Int64 => ([((Q 0), .inr (12, [vR (Q 1), vR (Q 2), vR (Q 3), vR (Q 4), vR (Q 5), vI pn, vR (Q 6), vL f0, vL f1, vL f2, vL f3, vL px, vL py, vL pb, vI rg, vI wr, vR (Q 7), vI rn, vR (Q 8), vI wn])), ((Q 1), .inl (E.2.1 1, 310, .inr (.inl z_)))] : va_W)) (show AL 310 (rpA a 0) = AL 310 a from AL_c (fun k_ k0_ k1_ => by exact rpA_0 k_))) ?_
  exact hL_29 _ 0 (by omega) (by omega) (by omega) rfl

theorem in_X11_takeSample_X11 : ∀ w ∈ u_ws RX11 TX11 20, w ∈ wsX11_takeSample := by decide +kernel
theorem fd_X11_takeSample_7 : fdk wsX11_takeSample RX11 7 "ZoneRelayModel" RX11 TX11 20 0 := ⟨in_X11_takeSample_X11, by decide +kernel, by decide, rfl⟩
theorem w_X11_takeSample_k52 : Cond.constantLong RX11 52 (24) ∈ wsX11_takeSample := by decide +kernel
theorem fd_X11_takeSample_27 : fdk wsX11_takeSample RX11 27 "ZoneRelayModel" RX11 TX11 20 6 := ⟨in_X11_takeSample_X11, by decide +kernel, by decide, rfl⟩
theorem hyd_X11_sine : yX11_sine.cls ≠ "java/lang/invoke/MethodHandle" ∧ yX11_sine.cls ≠ "java/lang/invoke/VarHandle" ∧ (parseMethodDescriptor yX11_sine.desc).map (fun d => d.parameters.length) = some 1 := by decide +kernel
theorem w_X11_takeSample_k175 : Cond.constantLong RX11 175 (4096) ∈ wsX11_takeSample := by decide +kernel
abbrev rm_K_m_smp : Room := { frames := 1, cells := 0, slots := 0, locals := 22 }
set_option maxHeartbeats 8000000 in
set_option maxRecDepth 100000 in
theorem K_m_smp (l : Launch) (E : Ev) (Q : Nat → Nat) (pn f0 f1 f2 f3 px py pb rg wr rn wn : Int) (a : Int → Int) (w p : Int) (hw : w = 36 ∨ w = 60) (hp : p = 0 ∨ p = 2) (h35 : 0 ≤ a 35 ∧ a 35 < 2000000000) (hA : cb (a p)) (hB : cb (a (p + 1))) : Mc l yX11_takeSample wsX11_takeSample rm_K_m_smp E [vR (Q 0), vI w, vI p] [((Q 0), .inr (12, [vR (Q 1), vR (Q 2), vR (Q 3), vR (Q 4), vR (Q 5), vI pn, vR (Q 6), vL f0, vL f1, vL f2, vL f3, vL px, vL py, vL pb, vI rg, vI wr, vR (Q 7), vI rn, vR (Q 8), vI wn])), ((Q 1), cL E 310 a), ((Q 6), cI E 24 cosT)] 0 0 (fun v9 w9 => v9 = none ∧ w9 = [((Q 0), .inr (12, [vR (Q 1), vR (Q 2), vR (Q 3), vR (Q 4), vR (Q 5), vI pn, vR (Q 6), vL f0, vL f1, vL f2, vL f3, vL px, vL py, vL pb, vI rg, vI wr, vR (Q 7), vI rn, vR (Q 8), vI wn])), ((Q 1), cL E 310 (s_smp w p a)), ((Q 6), cI E 24 cosT)]) := by
  refine Mc.intro (cc := cX11_takeSample) (maxL := 4) (ret := none) (lv0 := [(0, vR (Q 0)), (1, vI w), (2, vI p)]) (by decide +kernel) rfl rfl (Nat.le_of_ble_eq_true rfl) ?_
  intro p9 e9 s9 m9 args9 below9 meth9 c9 A9 C hr hmn
  have C : Cx p9 s9 m9 args9 meth9 c9 E A9 4 cX11_takeSample wsX11_takeSample RX11 := C
  refine g_aload_n C 0 rfl dX11_takeSample_0 rfl ?_
  refine g_get C 0 fd_X11_takeSample_7 rfl rfl rfl dX11_takeSample_1 rfl ?_
  refine g_bipush C (by decide) dX11_takeSample_4 rfl ?_
  refine g_lald C 1 rfl (by decide) (by decide) (by decide) rfl dX11_takeSample_6 rfl ?_
  refine g_ldc2 C (x := 24) w_X11_takeSample_k52 (by decide) dX11_takeSample_7 rfl ?_
  refine g_lrem C ⟨by omega, by omega⟩ ⟨by decide, by decide⟩ (by decide) rfl dX11_takeSample_10 rfl ?_
  have htr := tmod_r (a := a 35) (b := 24) (by omega) (by decide)
  have cc := cosT_b (Int.tmod (a 35) 24)
  have cs := cosT_b (Int.tmod (Int.tmod (a 35) 24 + 18) 24)
  have m1 := mul_b (x := a p) (y := cosT (Int.tmod (a 35) 24)) (A := 20000) (B := 4096) hA cc
  have m2 := mul_b (x := a (p + 1)) (y := sinT (Int.tmod (a 35) 24)) (A := 20000) (B := 4096) hB (cosT_b _)
  refine g_l2i C rfl dX11_takeSample_11 rfl ?_
  refine g_istore_n C (lv' := [(0, vR (Q 0)), (1, vI w), (2, vI p), (3, vI (Int.tmod (a 35) 24))]) [1, 2, 3, 0] (by decide) rfl rfl dX11_takeSample_12 rfl ?_
  refine g_aload_n C 0 rfl dX11_takeSample_13 rfl ?_
  refine g_get C 0 fd_X11_takeSample_7 rfl rfl rfl dX11_takeSample_14 rfl ?_
  refine g_iload_n C 1 rfl dX11_takeSample_17 rfl ?_
  refine g_iload_n C 3 rfl dX11_takeSample_18 rfl ?_
  refine g_iadd C rfl dX11_takeSample_19 rfl ?_
  refine g_aload_n C 0 rfl dX11_takeSample_20 rfl ?_
  refine g_get C 0 fd_X11_takeSample_7 rfl rfl rfl dX11_takeSample_21 rfl ?_
  refine g_iload_n C 2 rfl dX11_takeSample_24 rfl ?_
  refine g_lald C 1 rfl (by omega) (by omega) (by decide) rfl dX11_takeSample_25 rfl ?_
  refine g_aload_n C 0 rfl dX11_takeSample_26 rfl ?_
  refine g_get C 0 fd_X11_takeSample_27 rfl rfl rfl dX11_takeSample_27 rfl ?_
  refine g_iload_n C 3 rfl dX11_takeSample_30 rfl ?_
  refine g_iald C 2 rfl (by omega) (by omega) (by decide) rfl dX11_takeSample_31 rfl ?_
  refine g_i2l C ⟨by omega, by omega⟩ rfl dX11_takeSample_32 rfl ?_
  refine g_lmul C rfl dX11_takeSample_33 rfl ?_
  refine g_aload_n C 0 rfl dX11_takeSample_34 rfl ?_
  refine g_get C 0 fd_X11_takeSample_7 rfl rfl rfl dX11_takeSample_35 rfl ?_
  refine g_iload_n C 2 rfl dX11_takeSample_38 rfl ?_
  refine g_iconst C dX11_takeSample_39 rfl ?_
  refine g_iadd C rfl dX11_takeSample_40 rfl ?_
  refine g_lald C 1 rfl (by omega) (by omega) (by decide) rfl dX11_takeSample_41 rfl ?_
  refine g_aload_n C 0 rfl dX11_takeSample_42 rfl ?_
  refine g_iload_n C 3 rfl dX11_takeSample_43 rfl ?_
  refine g_i2l C ⟨by omega, by omega⟩ rfl dX11_takeSample_44 rfl ?_
  refine g_callV C (b := (Q 0)) (As := [vL (Int.tmod (a 35) 24)]) (wc := [((Q 0), .inr (12, [vR (Q 1), vR (Q 2), vR (Q 3), vR (Q 4), vR (Q 5), vI pn, vR (Q 6), vL f0, vL f1, vL f2, vL f3, vL px, vL py, vL pb, vI rg, vI wr, vR (Q 7), vI rn, vR (Q 8), vI wn])), ((Q 6), cI E 24 cosT)]) (wr := [((Q 1), cL E 310 a)]) (st := [vL (a (p + 1)), vL ((a p) * (cosT (Int.tmod (a 35) 24))), vI (w + (Int.tmod (a 35) 24)), vR (Q 1)]) gX11_takeSample_X11_sine (q9 := 0) (ci := 12) rfl rfl rfl (K_m_sine l E Q pn f0 f1 f2 f3 px py pb rg wr rn wn (Int.tmod (a 35) 24) (by first | assumption | omega)) hyd_X11_sine rfl [0, 2] [1] rfl rfl rfl rfl rfl (by decide) ⟨rfl, rfl⟩ ⟨Nat.le_of_ble_eq_true rfl, Nat.le_of_ble_eq_true rfl, Nat.le_of_ble_eq_true rfl, Nat.le_of_ble_eq_true rfl⟩ (Nat.le_of_ble_eq_true rfl) dX11_takeSample_45 (rfl : _ = 0) (rfl : _ = 0) rfl ?_
  rintro _ _ ⟨rfl, rfl⟩
  refine g_is (ws' := [((Q 1), cL E 310 a), ((Q 0), .inr (12, [vR (Q 1), vR (Q 2), vR (Q 3), vR (Q 4), vR (Q 5), vI pn, vR (Q 6), vL f0, vL f1, vL f2, vL f3, vL px, vL py, vL pb, vI rg, vI wr, vR (Q 7), vI rn, vR (Q 8), vI wn])), ((Q 6), cI E 24 cosT)]) (st' := [vL (sinT (Int.tmod (a 35) 24)), vL (a (p + 1)), vL ((a p) * (cosT (Int.tmod (a 35) 24))), vI (w + (Int.tmod (a 35) 24)), vR (Q 1)]) rfl rfl ?_
  refine g_sub (ws' := [((Q 0), .inr (12, [vR (Q 1), vR (Q 2), vR (Q 3), vR (Q 4), vR (Q 5), vI pn, vR (Q 6), vL f0, vL f1, vL f2, vL f3, vL px, vL py, vL pb, vI rg, vI wr, vR (Q 7), vI rn, vR (Q 8), vI wn])), ((Q 1), cL E 310 a), ((Q 6), cI E 24 cosT)]) [1, 0, 2] rfl rfl rfl ?_
  refine g_lmul C rfl dX11_takeSample_48 rfl ?_
  refine g_lsub C rfl dX11_takeSample_49 rfl ?_
  refine g_ldc2 C (x := 4096) w_X11_takeSample_k175 (by decide) dX11_takeSample_50 rfl ?_
  refine g_ldiv C ⟨by omega, by omega⟩ ⟨by decide, by decide⟩ (by decide) rfl dX11_takeSample_53 rfl ?_
  refine g_last C 1 rfl (by omega) (by omega) (by decide) (ws' := [((Q 0), .inr (12, [vR (Q 1), vR (Q 2), vR (Q 3), vR (Q 4), vR (Q 5), vI pn, vR (Q 6), vL f0, vL f1, vL f2, vL f3, vL px, vL py, vL pb, vI rg, vI wr, vR (Q 7), vI rn, vR (Q 8), vI wn])), ((Q 1), cL E 310 (ua a (w + (Int.tmod (a 35) 24)) (Int.tdiv (((a p) * (cosT (Int.tmod (a 35) 24))) - ((a (p + 1)) * (sinT (Int.tmod (a 35) 24)))) 4096))), ((Q 6), cI E 24 cosT)]) rfl dX11_takeSample_54 rfl ?_
  refine g_ws (ws' := [((Q 0), .inr (12, [vR (Q 1), vR (Q 2), vR (Q 3), vR (Q 4), vR (Q 5), vI pn, vR (Q 6), vL f0, vL f1, vL f2, vL f3, vL px, vL py, vL pb, vI rg, vI wr, vR (Q 7), vI rn, vR (Q 8), vI wn])), ((Q 1), cL E 310 (s_smp w p a)), ((Q 6), cI E 24 cosT)]) (congrArg (fun z_ : Nat → Int64 => ([((Q 0), .inr (12, [vR (Q 1), vR (Q 2), vR (Q 3), vR (Q 4), vR (Q 5), vI pn, vR (Q 6), vL f0, vL f1, vL f2, vL f3, vL px, vL py, vL pb, vI rg, vI wr, vR (Q 7), vI rn, vR (Q 8), vI wn])), ((Q 1), .inl (E.2.1 1, 310, .inr (.inl z_))), ((Q 6), cI E 24 cosT)] : va_W)) (show AL 310 (s_smp w p a) = AL 310 (ua a (w + (Int.tmod (a 35) 24)) (Int.tdiv (((a p) * (cosT (Int.tmod (a 35) 24))) - ((a (p + 1)) * (sinT (Int.tmod (a 35) 24)))) 4096)) from AL_c (fun k_ k0_ k1_ => by unfold s_smp smpF; rw [sinT_m (by omega)]))) ?_
  exact g_vret C hr (Nat.le_of_ble_eq_true rfl) (Nat.le_of_ble_eq_true rfl) dX11_takeSample_55 ⟨rfl, rfl⟩

theorem in_X11_estimate_X11 : ∀ w ∈ u_ws RX11 TX11 20, w ∈ wsX11_estimate := by decide +kernel
theorem fd_X11_estimate_7 : fdk wsX11_estimate RX11 7 "ZoneRelayModel" RX11 TX11 20 0 := ⟨in_X11_estimate_X11, by decide +kernel, by decide, rfl⟩
theorem w_X11_estimate_k177 : Cond.constantLong RX11 177 (49152) ∈ wsX11_estimate := by decide +kernel
theorem fd_X11_estimate_27 : fdk wsX11_estimate RX11 27 "ZoneRelayModel" RX11 TX11 20 6 := ⟨in_X11_estimate_X11, by decide +kernel, by decide, rfl⟩
abbrev rm_K_m_est : Room := { frames := 1, cells := 0, slots := 0, locals := 22 }
set_option maxHeartbeats 8000000 in
set_option maxRecDepth 100000 in
theorem K_m_est (l : Launch) (E : Ev) (Q : Nat → Nat) (pn f0 f1 f2 f3 px py pb rg wr rn wn : Int) (a : Int → Int) (w p : Int) (hw : w = 36 ∨ w = 60) (hp : p = 84 ∨ p = 86) (hv : ∀ k : Int, 0 ≤ k → k < 24 → -40000 ≤ sh a w k ∧ sh a w k ≤ 40000) : Mc l yX11_estimate wsX11_estimate rm_K_m_est E [vR (Q 0), vI w, vI p] [((Q 0), .inr (12, [vR (Q 1), vR (Q 2), vR (Q 3), vR (Q 4), vR (Q 5), vI pn, vR (Q 6), vL f0, vL f1, vL f2, vL f3, vL px, vL py, vL pb, vI rg, vI wr, vR (Q 7), vI rn, vR (Q 8), vI wn])), ((Q 1), cL E 310 a), ((Q 6), cI E 24 cosT)] 0 0 (fun v9 w9 => v9 = none ∧ w9 = [((Q 0), .inr (12, [vR (Q 1), vR (Q 2), vR (Q 3), vR (Q 4), vR (Q 5), vI pn, vR (Q 6), vL f0, vL f1, vL f2, vL f3, vL px, vL py, vL pb, vI rg, vI wr, vR (Q 7), vI rn, vR (Q 8), vI wn])), ((Q 1), cL E 310 (s_est w p a)), ((Q 6), cI E 24 cosT)]) := by
  refine Mc.intro (cc := cX11_estimate) (maxL := 8) (ret := none) (lv0 := [(0, vR (Q 0)), (1, vI w), (2, vI p)]) (by decide +kernel) rfl rfl (Nat.le_of_ble_eq_true rfl) ?_
  intro p9 e9 s9 m9 args9 below9 meth9 c9 A9 C hr hmn
  have C : Cx p9 s9 m9 args9 meth9 c9 E A9 8 cX11_estimate wsX11_estimate RX11 := C
  refine g_lconst0 C dX11_estimate_0 rfl ?_
  refine g_lstore_n C (lv' := [(0, vR (Q 0)), (1, vI w), (2, vI p), (3, vL 0)]) [1, 2, 3, 0] (by decide) rfl rfl dX11_estimate_1 rfl ?_
  refine g_lconst0 C dX11_estimate_2 rfl ?_
  refine g_lstore C (lv' := [(0, vR (Q 0)), (1, vI w), (2, vI p), (3, vL 0), (5, vL 0)]) [1, 2, 3, 4, 0] (by decide) rfl rfl dX11_estimate_3 rfl ?_
  refine g_iconst C dX11_estimate_5 rfl ?_
  refine g_istore C (lv' := [(0, vR (Q 0)), (1, vI w), (2, vI p), (3, vL 0), (5, vL 0), (7, vI 0)]) [1, 2, 3, 4, 5, 0] (by decide) rfl rfl dX11_estimate_6 rfl ?_
  have hL_8 : ∀ (fuel : Nat) (k : Int) (h0 : 0 ≤ k) (h1 : k ≤ 24) (hfu : (24 - k).toNat = fuel), G p9 l e9 rm_K_m_est s9 m9 args9 below9 meth9 c9 (RQ E (fun v9 w9 => v9 = none ∧ w9 = [((Q 0), .inr (12, [vR (Q 1), vR (Q 2), vR (Q 3), vR (Q 4), vR (Q 5), vI pn, vR (Q 6), vL f0, vL f1, vL f2, vL f3, vL px, vL py, vL pb, vI rg, vI wr, vR (Q 7), vI rn, vR (Q 8), vI wn])), ((Q 1), cL E 310 (s_est w p a)), ((Q 6), cI E 24 cosT)]) A9 below9 args9 s9 0 0) E A9 8 0 0 [((Q 0), .inr (12, [vR (Q 1), vR (Q 2), vR (Q 3), vR (Q 4), vR (Q 5), vI pn, vR (Q 6), vL f0, vL f1, vL f2, vL f3, vL px, vL py, vL pb, vI rg, vI wr, vR (Q 7), vI rn, vR (Q 8), vI wn])), ((Q 1), cL E 310 a), ((Q 6), cI E 24 cosT)] [(0, vR (Q 0)), (1, vI w), (2, vI p), (3, vL (wsum (sh a w) cosT (Int.toNat k))), (5, vL (-(wsum (sh a w) sinT (Int.toNat k)))), (7, vI k)] 8 [] := by
    intro fuel
    induction fuel using Nat.strongRecOn with
    | ind fuel ih =>
      intro k h0 h1 hfu
      refine g_iload C 5 rfl dX11_estimate_8 rfl ?_
      refine g_bipush C (by decide) dX11_estimate_10 rfl ?_
      refine g_icmp_ge C (tgt := 64) ⟨by omega, by omega⟩ ⟨by decide, by decide⟩ dX11_estimate_12 (by decide) rfl (fun c_1 => ?_) (fun c_1 => ?_)
      · have e24 : k = 24 := by omega
        subst e24
        have wb : ((-2488800000 ≤ wsum (sh a w) cosT (Int.toNat 24) ∧ wsum (sh a w) cosT (Int.toNat 24) ≤ 2488800000) ∧ (-2488800000 ≤ wsum (sh a w) sinT (Int.toNat 24) ∧ wsum (sh a w) sinT (Int.toNat 24) ≤ 2488800000)) := wsum_b hv
        refine g_aload_n C 0 rfl dX11_estimate_64 rfl ?_
        refine g_get C 0 fd_X11_estimate_7 rfl rfl rfl dX11_estimate_65 rfl ?_
        refine g_iload_n C 2 rfl dX11_estimate_68 rfl ?_
        refine g_lload_n C 3 rfl dX11_estimate_69 rfl ?_
        refine g_ldc2 C (x := 49152) w_X11_estimate_k177 (by decide) dX11_estimate_70 rfl ?_
        refine g_ldiv C ⟨by omega, by omega⟩ ⟨by decide, by decide⟩ (by decide) rfl dX11_estimate_73 rfl ?_
        refine g_last C 1 rfl (by omega) (by omega) (by decide) (ws' := [((Q 0), .inr (12, [vR (Q 1), vR (Q 2), vR (Q 3), vR (Q 4), vR (Q 5), vI pn, vR (Q 6), vL f0, vL f1, vL f2, vL f3, vL px, vL py, vL pb, vI rg, vI wr, vR (Q 7), vI rn, vR (Q 8), vI wn])), ((Q 1), cL E 310 (ua a p (Int.tdiv (wsum (sh a w) cosT (Int.toNat 24)) 49152))), ((Q 6), cI E 24 cosT)]) rfl dX11_estimate_74 rfl ?_
        refine g_aload_n C 0 rfl dX11_estimate_75 rfl ?_
        refine g_get C 0 fd_X11_estimate_7 rfl rfl rfl dX11_estimate_76 rfl ?_
        refine g_iload_n C 2 rfl dX11_estimate_79 rfl ?_
        refine g_iconst C dX11_estimate_80 rfl ?_
        refine g_iadd C rfl dX11_estimate_81 rfl ?_
        refine g_lload C 4 rfl dX11_estimate_82 rfl ?_
        refine g_ldc2 C (x := 49152) w_X11_estimate_k177 (by decide) dX11_estimate_84 rfl ?_
        refine g_ldiv C ⟨by omega, by omega⟩ ⟨by decide, by decide⟩ (by decide) rfl dX11_estimate_87 rfl ?_
        refine g_last C 1 rfl (by omega) (by omega) (by decide) (ws' := [((Q 0), .inr (12, [vR (Q 1), vR (Q 2), vR (Q 3), vR (Q 4), vR (Q 5), vI pn, vR (Q 6), vL f0, vL f1, vL f2, vL f3, vL px, vL py, vL pb, vI rg, vI wr, vR (Q 7), vI rn, vR (Q 8), vI wn])), ((Q 1), cL E 310 (ua (ua a p (Int.tdiv (wsum (sh a w) cosT (Int.toNat 24)) 49152)) (p + 1) (Int.tdiv (-(wsum (sh a w) sinT (Int.toNat 24))) 49152))), ((Q 6), cI E 24 cosT)]) rfl dX11_estimate_88 rfl ?_
        refine g_ws (ws' := [((Q 0), .inr (12, [vR (Q 1), vR (Q 2), vR (Q 3), vR (Q 4), vR (Q 5), vI pn, vR (Q 6), vL f0, vL f1, vL f2, vL f3, vL px, vL py, vL pb, vI rg, vI wr, vR (Q 7), vI rn, vR (Q 8), vI wn])), ((Q 1), cL E 310 (s_est w p a)), ((Q 6), cI E 24 cosT)]) (congrArg (fun z_ : Nat → Int64 => ([((Q 0), .inr (12, [vR (Q 1), vR (Q 2), vR (Q 3), vR (Q 4), vR (Q 5), vI pn, vR (Q 6), vL f0, vL f1, vL f2, vL f3, vL px, vL py, vL pb, vI rg, vI wr, vR (Q 7), vI rn, vR (Q 8), vI wn])), ((Q 1), .inl (E.2.1 1, 310, .inr (.inl z_))), ((Q 6), cI E 24 cosT)] : va_W)) (show AL 310 (s_est w p a) = AL 310 (ua (ua a p (Int.tdiv (wsum (sh a w) cosT (Int.toNat 24)) 49152)) (p + 1) (Int.tdiv (-(wsum (sh a w) sinT (Int.toNat 24))) 49152)) from AL_c (fun k_ k0_ k1_ => by rfl))) ?_
        exact g_vret C hr (Nat.le_of_ble_eq_true rfl) (Nat.le_of_ble_eq_true rfl) dX11_estimate_89 ⟨rfl, rfl⟩
      have cc := cosT_b k
      refine g_lload_n C 3 rfl dX11_estimate_15 rfl ?_
      refine g_aload_n C 0 rfl dX11_estimate_16 rfl ?_
      refine g_get C 0 fd_X11_estimate_7 rfl rfl rfl dX11_estimate_17 rfl ?_
      refine g_iload_n C 1 rfl dX11_estimate_20 rfl ?_
      refine g_iload C 5 rfl dX11_estimate_21 rfl ?_
      refine g_iadd C rfl dX11_estimate_23 rfl ?_
      refine g_lald C 1 rfl (by omega) (by omega) (by decide) rfl dX11_estimate_24 rfl ?_
      refine g_aload_n C 0 rfl dX11_estimate_25 rfl ?_
      refine g_get C 0 fd_X11_estimate_27 rfl rfl rfl dX11_estimate_26 rfl ?_
      refine g_iload C 5 rfl dX11_estimate_29 rfl ?_
      refine g_iald C 2 rfl (by omega) (by omega) (by decide) rfl dX11_estimate_31 rfl ?_
      refine g_i2l C ⟨by omega, by omega⟩ rfl dX11_estimate_32 rfl ?_
      refine g_lmul C rfl dX11_estimate_33 rfl ?_
      refine g_ladd C rfl dX11_estimate_34 rfl ?_
      refine g_lstore_n C (lv' := [(0, vR (Q 0)), (1, vI w), (2, vI p), (3, vL ((wsum (sh a w) cosT (Int.toNat k)) + ((a (w + k)) * (cosT k)))), (5, vL (-(wsum (sh a w) sinT (Int.toNat k)))), (7, vI k)]) [1, 2, 3, 0, 4, 5] (by decide) rfl rfl dX11_estimate_35 rfl ?_
      refine g_lload C 4 rfl dX11_estimate_36 rfl ?_
      refine g_aload_n C 0 rfl dX11_estimate_38 rfl ?_
      refine g_get C 0 fd_X11_estimate_7 rfl rfl rfl dX11_estimate_39 rfl ?_
      refine g_iload_n C 1 rfl dX11_estimate_42 rfl ?_
      refine g_iload C 5 rfl dX11_estimate_43 rfl ?_
      refine g_iadd C rfl dX11_estimate_45 rfl ?_
      refine g_lald C 1 rfl (by omega) (by omega) (by decide) rfl dX11_estimate_46 rfl ?_
      refine g_aload_n C 0 rfl dX11_estimate_47 rfl ?_
      refine g_iload C 5 rfl dX11_estimate_48 rfl ?_
      refine g_i2l C ⟨by omega, by omega⟩ rfl dX11_estimate_50 rfl ?_
      refine g_callV C (b := (Q 0)) (As := [vL k]) (wc := [((Q 0), .inr (12, [vR (Q 1), vR (Q 2), vR (Q 3), vR (Q 4), vR (Q 5), vI pn, vR (Q 6), vL f0, vL f1, vL f2, vL f3, vL px, vL py, vL pb, vI rg, vI wr, vR (Q 7), vI rn, vR (Q 8), vI wn])), ((Q 6), cI E 24 cosT)]) (wr := [((Q 1), cL E 310 a)]) (st := [vL (a (w + k)), vL (-(wsum (sh a w) sinT (Int.toNat k)))]) gX11_estimate_X11_sine (q9 := 0) (ci := 12) rfl rfl rfl (K_m_sine l E Q pn f0 f1 f2 f3 px py pb rg wr rn wn k (by first | assumption | omega)) hyd_X11_sine rfl [0, 2] [1] rfl rfl rfl rfl rfl (by decide) ⟨rfl, rfl⟩ ⟨Nat.le_of_ble_eq_true rfl, Nat.le_of_ble_eq_true rfl, Nat.le_of_ble_eq_true rfl, Nat.le_of_ble_eq_true rfl⟩ (Nat.le_of_ble_eq_true rfl) dX11_estimate_51 (rfl : _ = 0) (rfl : _ = 0) rfl ?_
      rintro _ _ ⟨rfl, rfl⟩
      refine g_is (ws' := [((Q 1), cL E 310 a), ((Q 0), .inr (12, [vR (Q 1), vR (Q 2), vR (Q 3), vR (Q 4), vR (Q 5), vI pn, vR (Q 6), vL f0, vL f1, vL f2, vL f3, vL px, vL py, vL pb, vI rg, vI wr, vR (Q 7), vI rn, vR (Q 8), vI wn])), ((Q 6), cI E 24 cosT)]) (st' := [vL (sinT k), vL (a (w + k)), vL (-(wsum (sh a w) sinT (Int.toNat k)))]) rfl rfl ?_
      refine g_sub (ws' := [((Q 0), .inr (12, [vR (Q 1), vR (Q 2), vR (Q 3), vR (Q 4), vR (Q 5), vI pn, vR (Q 6), vL f0, vL f1, vL f2, vL f3, vL px, vL py, vL pb, vI rg, vI wr, vR (Q 7), vI rn, vR (Q 8), vI wn])), ((Q 1), cL E 310 a), ((Q 6), cI E 24 cosT)]) [1, 0, 2] rfl rfl rfl ?_
      refine g_lmul C rfl dX11_estimate_54 rfl ?_
      refine g_lsub C rfl dX11_estimate_55 rfl ?_
      refine g_lstore C (lv' := [(0, vR (Q 0)), (1, vI w), (2, vI p), (3, vL ((wsum (sh a w) cosT (Int.toNat k)) + ((a (w + k)) * (cosT k)))), (5, vL ((-(wsum (sh a w) sinT (Int.toNat k))) - ((a (w + k)) * (sinT k)))), (7, vI k)]) [1, 2, 3, 4, 0, 5] (by decide) rfl rfl dX11_estimate_56 rfl ?_
      refine g_iinc C (r := (k + 1)) (lv' := [(0, vR (Q 0)), (1, vI w), (2, vI p), (3, vL ((wsum (sh a w) cosT (Int.toNat k)) + ((a (w + k)) * (cosT k)))), (5, vL ((-(wsum (sh a w) sinT (Int.toNat k))) - ((a (w + k)) * (sinT k)))), (7, vI (k + 1))]) 5 [1, 2, 3, 4, 5, 0] rfl rfl (by decide) rfl rfl dX11_estimate_58 rfl ?_
      refine g_goto C (pc' := 8) dX11_estimate_61 (by decide) ?_
      refine g_cast (ws' := [((Q 0), .inr (12, [vR (Q 1), vR (Q 2), vR (Q 3), vR (Q 4), vR (Q 5), vI pn, vR (Q 6), vL f0, vL f1, vL f2, vL f3, vL px, vL py, vL pb, vI rg, vI wr, vR (Q 7), vI rn, vR (Q 8), vI wn])), ((Q 1), cL E 310 a), ((Q 6), cI E 24 cosT)]) (lv' := [(0, vR (Q 0)), (1, vI w), (2, vI p), (3, vL (wsum (sh a w) cosT (Int.toNat (k + 1)))), (5, vL ((-(wsum (sh a w) sinT (Int.toNat k))) - ((a (w + k)) * (sinT k)))), (7, vI (k + 1))]) (st' := []) rfl (congrArg (fun z_ : Int => ([(0, vR (Q 0)), (1, vI w), (2, vI p), (3, vL z_), (5, vL ((-(wsum (sh a w) sinT (Int.toNat k))) - ((a (w + k)) * (sinT k)))), (7, vI (k + 1))] : List (Nat × Value))) (show ((wsum (sh a w) cosT (Int.toNat k)) + ((a (w + k)) * (cosT k))) = (wsum (sh a w) cosT (Int.toNat (k + 1))) by rw [wsum_i h0]; rfl)) rfl ?_
      refine g_cast (ws' := [((Q 0), .inr (12, [vR (Q 1), vR (Q 2), vR (Q 3), vR (Q 4), vR (Q 5), vI pn, vR (Q 6), vL f0, vL f1, vL f2, vL f3, vL px, vL py, vL pb, vI rg, vI wr, vR (Q 7), vI rn, vR (Q 8), vI wn])), ((Q 1), cL E 310 a), ((Q 6), cI E 24 cosT)]) (lv' := [(0, vR (Q 0)), (1, vI w), (2, vI p), (3, vL (wsum (sh a w) cosT (Int.toNat (k + 1)))), (5, vL (-(wsum (sh a w) sinT (Int.toNat (k + 1))))), (7, vI (k + 1))]) (st' := []) rfl (congrArg (fun z_ : Int => ([(0, vR (Q 0)), (1, vI w), (2, vI p), (3, vL (wsum (sh a w) cosT (Int.toNat (k + 1)))), (5, vL z_), (7, vI (k + 1))] : List (Nat × Value))) (show ((-(wsum (sh a w) sinT (Int.toNat k))) - ((a (w + k)) * (sinT k))) = (-(wsum (sh a w) sinT (Int.toNat (k + 1)))) by exact (wsum_j h0 rfl).symm)) rfl ?_
      exact ih _ (by omega) (k + 1) (by omega) (by omega) rfl
  refine g_cast (ws' := [((Q 0), .inr (12, [vR (Q 1), vR (Q 2), vR (Q 3), vR (Q 4), vR (Q 5), vI pn, vR (Q 6), vL f0, vL f1, vL f2, vL f3, vL px, vL py, vL pb, vI rg, vI wr, vR (Q 7), vI rn, vR (Q 8), vI wn])), ((Q 1), cL E 310 a), ((Q 6), cI E 24 cosT)]) (lv' := [(0, vR (Q 0)), (1, vI w), (2, vI p), (3, vL (wsum (sh a w) cosT (Int.toNat 0))), (5, vL 0), (7, vI 0)]) (st' := []) rfl (congrArg (fun z_ : Int => ([(0, vR (Q 0)), (1, vI w), (2, vI p), (3, vL z_), (5, vL 0), (7, vI 0)] : List (Nat × Value))) (show 0 = (wsum (sh a w) cosT (Int.toNat 0)) by rfl)) rfl ?_
  refine g_cast (ws' := [((Q 0), .inr (12, [vR (Q 1), vR (Q 2), vR (Q 3), vR (Q 4), vR (Q 5), vI pn, vR (Q 6), vL f0, vL f1, vL f2, vL f3, vL px, vL py, vL pb, vI rg, vI wr, vR (Q 7), vI rn, vR (Q 8), vI wn])), ((Q 1), cL E 310 a), ((Q 6), cI E 24 cosT)]) (lv' := [(0, vR (Q 0)), (1, vI w), (2, vI p), (3, vL (wsum (sh a w) cosT (Int.toNat 0))), (5, vL (-(wsum (sh a w) sinT (Int.toNat 0)))), (7, vI 0)]) (st' := []) rfl (congrArg (fun z_ : Int => ([(0, vR (Q 0)), (1, vI w), (2, vI p), (3, vL (wsum (sh a w) cosT (Int.toNat 0))), (5, vL z_), (7, vI 0)] : List (Nat × Value))) (show 0 = (-(wsum (sh a w) sinT (Int.toNat 0))) by rfl)) rfl ?_
  exact hL_8 _ 0 (by omega) (by omega) rfl

theorem in_X11_remember_X11 : ∀ w ∈ u_ws RX11 TX11 20, w ∈ wsX11_remember := by decide +kernel
theorem fd_X11_remember_7 : fdk wsX11_remember RX11 7 "ZoneRelayModel" RX11 TX11 20 0 := ⟨in_X11_remember_X11, by decide +kernel, by decide, rfl⟩
abbrev rm_K_m_rem : Room := { frames := 0, cells := 0, slots := 0, locals := 0 }
set_option maxHeartbeats 8000000 in
set_option maxRecDepth 100000 in
theorem K_m_rem (l : Launch) (E : Ev) (Q : Nat → Nat) (pn f0 f1 f2 f3 px py pb rg wr rn wn : Int) (a : Int → Int) (h84 : -51000 ≤ a 84 ∧ a 84 ≤ 51000) (h85 : -51000 ≤ a 85 ∧ a 85 ≤ 51000) (h22 : 0 ≤ a 22 ∧ a 22 ≤ 20000) : Mc l yX11_remember wsX11_remember rm_K_m_rem E [vR (Q 0)] [((Q 0), .inr (12, [vR (Q 1), vR (Q 2), vR (Q 3), vR (Q 4), vR (Q 5), vI pn, vR (Q 6), vL f0, vL f1, vL f2, vL f3, vL px, vL py, vL pb, vI rg, vI wr, vR (Q 7), vI rn, vR (Q 8), vI wn])), ((Q 1), cL E 310 a)] 0 0 (fun v9 w9 => v9 = none ∧ w9 = [((Q 0), .inr (12, [vR (Q 1), vR (Q 2), vR (Q 3), vR (Q 4), vR (Q 5), vI pn, vR (Q 6), vL f0, vL f1, vL f2, vL f3, vL px, vL py, vL pb, vI rg, vI wr, vR (Q 7), vI rn, vR (Q 8), vI wn])), ((Q 1), cL E 310 (s_rem a))]) := by
  refine Mc.intro (cc := cX11_remember) (maxL := 5) (ret := none) (lv0 := [(0, vR (Q 0))]) (by decide +kernel) rfl rfl (Nat.le_of_ble_eq_true rfl) ?_
  intro p9 e9 s9 m9 args9 below9 meth9 c9 A9 C hr hmn
  have C : Cx p9 s9 m9 args9 meth9 c9 E A9 5 cX11_remember wsX11_remember RX11 := C
  have m1 := mul_b (x := a 84) (y := a 84) (A := 51000) (B := 51000) h84 h84
  have m2 := mul_b (x := a 85) (y := a 85) (A := 51000) (B := 51000) h85 h85
  have m3 := mul_b (x := a 22) (y := a 22) (A := 20000) (B := 20000) (by omega) (by omega)
  refine g_aload_n C 0 rfl dX11_remember_0 rfl ?_
  refine g_get C 0 fd_X11_remember_7 rfl rfl rfl dX11_remember_1 rfl ?_
  refine g_bipush C (by decide) dX11_remember_4 rfl ?_
  refine g_lald C 1 rfl (by decide) (by decide) (by decide) rfl dX11_remember_6 rfl ?_
  refine g_lstore_n C (lv' := [(0, vR (Q 0)), (1, vL (a 84))]) [1, 0] (by decide) rfl rfl dX11_remember_7 rfl ?_
  refine g_aload_n C 0 rfl dX11_remember_8 rfl ?_
  refine g_get C 0 fd_X11_remember_7 rfl rfl rfl dX11_remember_9 rfl ?_
  refine g_bipush C (by decide) dX11_remember_12 rfl ?_
  refine g_lald C 1 rfl (by decide) (by decide) (by decide) rfl dX11_remember_14 rfl ?_
  refine g_lstore_n C (lv' := [(0, vR (Q 0)), (1, vL (a 84)), (3, vL (a 85))]) [1, 2, 0] (by decide) rfl rfl dX11_remember_15 rfl ?_
  refine g_lload_n C 1 rfl dX11_remember_16 rfl ?_
  refine g_lload_n C 1 rfl dX11_remember_17 rfl ?_
  refine g_lmul C rfl dX11_remember_18 rfl ?_
  refine g_lload_n C 2 rfl dX11_remember_19 rfl ?_
  refine g_lload_n C 2 rfl dX11_remember_20 rfl ?_
  refine g_lmul C rfl dX11_remember_21 rfl ?_
  refine g_ladd C rfl dX11_remember_22 rfl ?_
  refine g_aload_n C 0 rfl dX11_remember_23 rfl ?_
  refine g_get C 0 fd_X11_remember_7 rfl rfl rfl dX11_remember_24 rfl ?_
  refine g_bipush C (by decide) dX11_remember_27 rfl ?_
  refine g_lald C 1 rfl (by decide) (by decide) (by decide) rfl dX11_remember_29 rfl ?_
  refine g_aload_n C 0 rfl dX11_remember_30 rfl ?_
  refine g_get C 0 fd_X11_remember_7 rfl rfl rfl dX11_remember_31 rfl ?_
  refine g_bipush C (by decide) dX11_remember_34 rfl ?_
  refine g_lald C 1 rfl (by decide) (by decide) (by decide) rfl dX11_remember_36 rfl ?_
  refine g_lmul C rfl dX11_remember_37 rfl ?_
  refine g_lcmp_lt C ⟨by omega, by omega⟩ ⟨by omega, by omega⟩ dX11_remember_38 rfl (tgt := 69) dX11_remember_39 (by decide) rfl (fun c_1 => ?_) (fun c_1 => ?_)
  · refine g_aload_n C 0 rfl dX11_remember_69 rfl ?_
    refine g_get C 0 fd_X11_remember_7 rfl rfl rfl dX11_remember_70 rfl ?_
    refine g_bipush C (by decide) dX11_remember_73 rfl ?_
    refine g_dup2 C rfl rfl dX11_remember_75 rfl ?_
    refine g_lald C 1 rfl (by decide) (by decide) (by decide) rfl dX11_remember_76 rfl ?_
    refine g_lconst1 C dX11_remember_77 rfl ?_
    refine g_ladd C rfl dX11_remember_78 rfl ?_
    refine g_last C 1 rfl (by decide) (by decide) (by decide) (ws' := [((Q 0), .inr (12, [vR (Q 1), vR (Q 2), vR (Q 3), vR (Q 4), vR (Q 5), vI pn, vR (Q 6), vL f0, vL f1, vL f2, vL f3, vL px, vL py, vL pb, vI rg, vI wr, vR (Q 7), vI rn, vR (Q 8), vI wn])), ((Q 1), cL E 310 (ua a 90 ((a 90) + 1)))]) rfl dX11_remember_79 rfl ?_
    refine g_ws (ws' := [((Q 0), .inr (12, [vR (Q 1), vR (Q 2), vR (Q 3), vR (Q 4), vR (Q 5), vI pn, vR (Q 6), vL f0, vL f1, vL f2, vL f3, vL px, vL py, vL pb, vI rg, vI wr, vR (Q 7), vI rn, vR (Q 8), vI wn])), ((Q 1), cL E 310 (s_rem a))]) (congrArg (fun z_ : Nat → Int64 => ([((Q 0), .inr (12, [vR (Q 1), vR (Q 2), vR (Q 3), vR (Q 4), vR (Q 5), vI pn, vR (Q 6), vL f0, vL f1, vL f2, vL f3, vL px, vL py, vL pb, vI rg, vI wr, vR (Q 7), vI rn, vR (Q 8), vI wn])), ((Q 1), .inl (E.2.1 1, 310, .inr (.inl z_)))] : va_W)) (show AL 310 (s_rem a) = AL 310 (ua a 90 ((a 90) + 1)) from AL_c (fun k_ k0_ k1_ => by unfold s_rem; first | rw [if_pos (by omega)] | rw [if_neg (by omega)]))) ?_
    exact g_vret C hr (Nat.le_of_ble_eq_true rfl) (Nat.le_of_ble_eq_true rfl) dX11_remember_80 ⟨rfl, rfl⟩
  refine g_aload_n C 0 rfl dX11_remember_42 rfl ?_
  refine g_get C 0 fd_X11_remember_7 rfl rfl rfl dX11_remember_43 rfl ?_
  refine g_bipush C (by decide) dX11_remember_46 rfl ?_
  refine g_lload_n C 1 rfl dX11_remember_48 rfl ?_
  refine g_last C 1 rfl (by decide) (by decide) (by decide) (ws' := [((Q 0), .inr (12, [vR (Q 1), vR (Q 2), vR (Q 3), vR (Q 4), vR (Q 5), vI pn, vR (Q 6), vL f0, vL f1, vL f2, vL f3, vL px, vL py, vL pb, vI rg, vI wr, vR (Q 7), vI rn, vR (Q 8), vI wn])), ((Q 1), cL E 310 (ua a 88 (a 84)))]) rfl dX11_remember_49 rfl ?_
  refine g_aload_n C 0 rfl dX11_remember_50 rfl ?_
  refine g_get C 0 fd_X11_remember_7 rfl rfl rfl dX11_remember_51 rfl ?_
  refine g_bipush C (by decide) dX11_remember_54 rfl ?_
  refine g_lload_n C 2 rfl dX11_remember_56 rfl ?_
  refine g_last C 1 rfl (by decide) (by decide) (by decide) (ws' := [((Q 0), .inr (12, [vR (Q 1), vR (Q 2), vR (Q 3), vR (Q 4), vR (Q 5), vI pn, vR (Q 6), vL f0, vL f1, vL f2, vL f3, vL px, vL py, vL pb, vI rg, vI wr, vR (Q 7), vI rn, vR (Q 8), vI wn])), ((Q 1), cL E 310 (ua (ua a 88 (a 84)) 89 (a 85)))]) rfl dX11_remember_57 rfl ?_
  refine g_aload_n C 0 rfl dX11_remember_58 rfl ?_
  refine g_get C 0 fd_X11_remember_7 rfl rfl rfl dX11_remember_59 rfl ?_
  refine g_bipush C (by decide) dX11_remember_62 rfl ?_
  refine g_lconst0 C dX11_remember_64 rfl ?_
  refine g_last C 1 rfl (by decide) (by decide) (by decide) (ws' := [((Q 0), .inr (12, [vR (Q 1), vR (Q 2), vR (Q 3), vR (Q 4), vR (Q 5), vI pn, vR (Q 6), vL f0, vL f1, vL f2, vL f3, vL px, vL py, vL pb, vI rg, vI wr, vR (Q 7), vI rn, vR (Q 8), vI wn])), ((Q 1), cL E 310 (ua (ua (ua a 88 (a 84)) 89 (a 85)) 90 0))]) rfl dX11_remember_65 rfl ?_
  refine g_goto C (pc' := 80) dX11_remember_66 (by decide) ?_
  refine g_ws (ws' := [((Q 0), .inr (12, [vR (Q 1), vR (Q 2), vR (Q 3), vR (Q 4), vR (Q 5), vI pn, vR (Q 6), vL f0, vL f1, vL f2, vL f3, vL px, vL py, vL pb, vI rg, vI wr, vR (Q 7), vI rn, vR (Q 8), vI wn])), ((Q 1), cL E 310 (s_rem a))]) (congrArg (fun z_ : Nat → Int64 => ([((Q 0), .inr (12, [vR (Q 1), vR (Q 2), vR (Q 3), vR (Q 4), vR (Q 5), vI pn, vR (Q 6), vL f0, vL f1, vL f2, vL f3, vL px, vL py, vL pb, vI rg, vI wr, vR (Q 7), vI rn, vR (Q 8), vI wn])), ((Q 1), .inl (E.2.1 1, 310, .inr (.inl z_)))] : va_W)) (show AL 310 (s_rem a) = AL 310 (ua (ua (ua a 88 (a 84)) 89 (a 85)) 90 0) from AL_c (fun k_ k0_ k1_ => by unfold s_rem; first | rw [if_pos (by omega)] | rw [if_neg (by omega)]))) ?_
  exact g_vret C hr (Nat.le_of_ble_eq_true rfl) (Nat.le_of_ble_eq_true rfl) dX11_remember_80 ⟨rfl, rfl⟩

theorem in_X11_note_X11 : ∀ w ∈ u_ws RX11 TX11 20, w ∈ wsX11_note := by decide +kernel
theorem fd_X11_note_7 : fdk wsX11_note RX11 7 "ZoneRelayModel" RX11 TX11 20 0 := ⟨in_X11_note_X11, by decide +kernel, by decide, rfl⟩
theorem w_X11_note_k179 : Cond.constantLong RX11 179 (60) ∈ wsX11_note := by decide +kernel
abbrev rm_K_m_note : Room := { frames := 0, cells := 0, slots := 0, locals := 0 }
set_option maxHeartbeats 8000000 in
set_option maxRecDepth 100000 in
theorem K_m_note (l : Launch) (E : Ev) (Q : Nat → Nat) (pn f0 f1 f2 f3 px py pb rg wr rn wn : Int) (a : Int → Int) (z : Int) (h104 : 0 ≤ a 104 ∧ a 104 < 2000000000) (hz : bi z) : Mc l yX11_note wsX11_note rm_K_m_note E [vR (Q 0), vI z] [((Q 0), .inr (12, [vR (Q 1), vR (Q 2), vR (Q 3), vR (Q 4), vR (Q 5), vI pn, vR (Q 6), vL f0, vL f1, vL f2, vL f3, vL px, vL py, vL pb, vI rg, vI wr, vR (Q 7), vI rn, vR (Q 8), vI wn])), ((Q 1), cL E 310 a)] 0 0 (fun v9 w9 => v9 = none ∧ w9 = [((Q 0), .inr (12, [vR (Q 1), vR (Q 2), vR (Q 3), vR (Q 4), vR (Q 5), vI pn, vR (Q 6), vL f0, vL f1, vL f2, vL f3, vL px, vL py, vL pb, vI rg, vI wr, vR (Q 7), vI rn, vR (Q 8), vI wn])), ((Q 1), cL E 310 (s_note z a))]) := by
  refine Mc.intro (cc := cX11_note) (maxL := 3) (ret := none) (lv0 := [(0, vR (Q 0)), (1, vI z)]) (by decide +kernel) rfl rfl (Nat.le_of_ble_eq_true rfl) ?_
  intro p9 e9 s9 m9 args9 below9 meth9 c9 A9 C hr hmn
  have C : Cx p9 s9 m9 args9 meth9 c9 E A9 3 cX11_note wsX11_note RX11 := C
  refine g_bipush C (by decide) dX11_note_0 rfl ?_
  refine g_iconst C dX11_note_2 rfl ?_
  refine g_aload_n C 0 rfl dX11_note_3 rfl ?_
  refine g_get C 0 fd_X11_note_7 rfl rfl rfl dX11_note_4 rfl ?_
  refine g_bipush C (by decide) dX11_note_7 rfl ?_
  refine g_lald C 1 rfl (by decide) (by decide) (by decide) rfl dX11_note_9 rfl ?_
  refine g_ldc2 C (x := 60) w_X11_note_k179 (by decide) dX11_note_10 rfl ?_
  have htr := tmod_r (a := a 104) (b := 60) (by omega) (by decide)
  refine g_lrem C ⟨by omega, by omega⟩ ⟨by decide, by decide⟩ (by decide) rfl dX11_note_13 rfl ?_
  refine g_l2i C rfl dX11_note_14 rfl ?_
  refine g_imul C rfl dX11_note_15 rfl ?_
  refine g_iadd C rfl dX11_note_16 rfl ?_
  refine g_istore_n C (lv' := [(0, vR (Q 0)), (1, vI z), (2, vI (105 + (2 * (Int.tmod (a 104) 60))))]) [1, 2, 0] (by decide) rfl rfl dX11_note_17 rfl ?_
  refine g_aload_n C 0 rfl dX11_note_18 rfl ?_
  refine g_get C 0 fd_X11_note_7 rfl rfl rfl dX11_note_19 rfl ?_
  refine g_iload_n C 2 rfl dX11_note_22 rfl ?_
  refine g_aload_n C 0 rfl dX11_note_23 rfl ?_
  refine g_get C 0 fd_X11_note_7 rfl rfl rfl dX11_note_24 rfl ?_
  refine g_bipush C (by decide) dX11_note_27 rfl ?_
  refine g_lald C 1 rfl (by decide) (by decide) (by decide) rfl dX11_note_29 rfl ?_
  refine g_last C 1 rfl (by omega) (by omega) (by decide) (ws' := [((Q 0), .inr (12, [vR (Q 1), vR (Q 2), vR (Q 3), vR (Q 4), vR (Q 5), vI pn, vR (Q 6), vL f0, vL f1, vL f2, vL f3, vL px, vL py, vL pb, vI rg, vI wr, vR (Q 7), vI rn, vR (Q 8), vI wn])), ((Q 1), cL E 310 (ua a (105 + (2 * (Int.tmod (a 104) 60))) (a 35)))]) rfl dX11_note_30 rfl ?_
  refine g_aload_n C 0 rfl dX11_note_31 rfl ?_
  refine g_get C 0 fd_X11_note_7 rfl rfl rfl dX11_note_32 rfl ?_
  refine g_iload_n C 2 rfl dX11_note_35 rfl ?_
  refine g_iconst C dX11_note_36 rfl ?_
  refine g_iadd C rfl dX11_note_37 rfl ?_
  refine g_iload_n C 1 rfl dX11_note_38 rfl ?_
  refine g_i2l C (hz) rfl dX11_note_39 rfl ?_
  refine g_last C 1 rfl (by omega) (by omega) (by decide) (ws' := [((Q 0), .inr (12, [vR (Q 1), vR (Q 2), vR (Q 3), vR (Q 4), vR (Q 5), vI pn, vR (Q 6), vL f0, vL f1, vL f2, vL f3, vL px, vL py, vL pb, vI rg, vI wr, vR (Q 7), vI rn, vR (Q 8), vI wn])), ((Q 1), cL E 310 (ua (ua a (105 + (2 * (Int.tmod (a 104) 60))) (a 35)) ((105 + (2 * (Int.tmod (a 104) 60))) + 1) z))]) rfl dX11_note_40 rfl ?_
  refine g_aload_n C 0 rfl dX11_note_41 rfl ?_
  refine g_get C 0 fd_X11_note_7 rfl rfl rfl dX11_note_42 rfl ?_
  refine g_bipush C (by decide) dX11_note_45 rfl ?_
  refine g_dup2 C rfl rfl dX11_note_47 rfl ?_
  refine g_lald C 1 rfl (by decide) (by decide) (by decide) rfl dX11_note_48 rfl ?_
  refine g_lconst1 C dX11_note_49 rfl ?_
  refine g_ladd C rfl dX11_note_50 rfl ?_
  refine g_last C 1 rfl (by decide) (by decide) (by decide) (ws' := [((Q 0), .inr (12, [vR (Q 1), vR (Q 2), vR (Q 3), vR (Q 4), vR (Q 5), vI pn, vR (Q 6), vL f0, vL f1, vL f2, vL f3, vL px, vL py, vL pb, vI rg, vI wr, vR (Q 7), vI rn, vR (Q 8), vI wn])), ((Q 1), cL E 310 (ua (ua (ua a (105 + (2 * (Int.tmod (a 104) 60))) (a 35)) ((105 + (2 * (Int.tmod (a 104) 60))) + 1) z) 104 (((ua (ua a (105 + (2 * (Int.tmod (a 104) 60))) (a 35)) ((105 + (2 * (Int.tmod (a 104) 60))) + 1) z) 104) + 1)))]) rfl dX11_note_51 rfl ?_
  refine g_ws (ws' := [((Q 0), .inr (12, [vR (Q 1), vR (Q 2), vR (Q 3), vR (Q 4), vR (Q 5), vI pn, vR (Q 6), vL f0, vL f1, vL f2, vL f3, vL px, vL py, vL pb, vI rg, vI wr, vR (Q 7), vI rn, vR (Q 8), vI wn])), ((Q 1), cL E 310 (s_note z a))]) (congrArg (fun z_ : Nat → Int64 => ([((Q 0), .inr (12, [vR (Q 1), vR (Q 2), vR (Q 3), vR (Q 4), vR (Q 5), vI pn, vR (Q 6), vL f0, vL f1, vL f2, vL f3, vL px, vL py, vL pb, vI rg, vI wr, vR (Q 7), vI rn, vR (Q 8), vI wn])), ((Q 1), .inl (E.2.1 1, 310, .inr (.inl z_)))] : va_W)) (show AL 310 (s_note z a) = AL 310 (ua (ua (ua a (105 + (2 * (Int.tmod (a 104) 60))) (a 35)) ((105 + (2 * (Int.tmod (a 104) 60))) + 1) z) 104 (((ua (ua a (105 + (2 * (Int.tmod (a 104) 60))) (a 35)) ((105 + (2 * (Int.tmod (a 104) 60))) + 1) z) 104) + 1)) from AL_c (fun k_ k0_ k1_ => by exact note_e h104.1 k_))) ?_
  exact g_vret C hr (Nat.le_of_ble_eq_true rfl) (Nat.le_of_ble_eq_true rfl) dX11_note_52 ⟨rfl, rfl⟩

theorem in_X11_endSwing_X11 : ∀ w ∈ u_ws RX11 TX11 20, w ∈ wsX11_endSwing := by decide +kernel
theorem fd_X11_endSwing_7 : fdk wsX11_endSwing RX11 7 "ZoneRelayModel" RX11 TX11 20 0 := ⟨in_X11_endSwing_X11, by decide +kernel, by decide, rfl⟩
theorem hyd_X11_note : yX11_note.cls ≠ "java/lang/invoke/MethodHandle" ∧ yX11_note.cls ≠ "java/lang/invoke/VarHandle" ∧ (parseMethodDescriptor yX11_note.desc).map (fun d => d.parameters.length) = some 1 := by decide +kernel
abbrev rm_K_m_endSwing : Room := { frames := 1, cells := 0, slots := 0, locals := 22 }
set_option maxHeartbeats 8000000 in
set_option maxRecDepth 100000 in
theorem K_m_endSwing (l : Launch) (E : Ev) (Q : Nat → Nat) (pn f0 f1 f2 f3 px py pb rg wr rn wn : Int) (a : Int → Int) (h104 : 0 ≤ a 104 ∧ a 104 < 2000000000) (h95 : a 95 = 0 ∨ a 95 = 1) : Mc l yX11_endSwing wsX11_endSwing rm_K_m_endSwing E [vR (Q 0)] [((Q 0), .inr (12, [vR (Q 1), vR (Q 2), vR (Q 3), vR (Q 4), vR (Q 5), vI pn, vR (Q 6), vL f0, vL f1, vL f2, vL f3, vL px, vL py, vL pb, vI rg, vI wr, vR (Q 7), vI rn, vR (Q 8), vI wn])), ((Q 1), cL E 310 a)] 0 0 (fun v9 w9 => v9 = none ∧ w9 = [((Q 0), .inr (12, [vR (Q 1), vR (Q 2), vR (Q 3), vR (Q 4), vR (Q 5), vI pn, vR (Q 6), vL f0, vL f1, vL f2, vL f3, vL px, vL py, vL pb, vI rg, vI wr, vR (Q 7), vI rn, vR (Q 8), vI wn])), ((Q 1), cL E 310 (s_end a))]) := by
  refine Mc.intro (cc := cX11_endSwing) (maxL := 1) (ret := none) (lv0 := [(0, vR (Q 0))]) (by decide +kernel) rfl rfl (Nat.le_of_ble_eq_true rfl) ?_
  intro p9 e9 s9 m9 args9 below9 meth9 c9 A9 C hr hmn
  have C : Cx p9 s9 m9 args9 meth9 c9 E A9 1 cX11_endSwing wsX11_endSwing RX11 := C
  refine g_aload_n C 0 rfl dX11_endSwing_0 rfl ?_
  refine g_get C 0 fd_X11_endSwing_7 rfl rfl rfl dX11_endSwing_1 rfl ?_
  refine g_bipush C (by decide) dX11_endSwing_4 rfl ?_
  refine g_lconst0 C dX11_endSwing_6 rfl ?_
  refine g_last C 1 rfl (by decide) (by decide) (by decide) (ws' := [((Q 0), .inr (12, [vR (Q 1), vR (Q 2), vR (Q 3), vR (Q 4), vR (Q 5), vI pn, vR (Q 6), vL f0, vL f1, vL f2, vL f3, vL px, vL py, vL pb, vI rg, vI wr, vR (Q 7), vI rn, vR (Q 8), vI wn])), ((Q 1), cL E 310 (ua a 94 0))]) rfl dX11_endSwing_7 rfl ?_
  refine g_aload_n C 0 rfl dX11_endSwing_8 rfl ?_
  refine g_get C 0 fd_X11_endSwing_7 rfl rfl rfl dX11_endSwing_9 rfl ?_
  refine g_bipush C (by decide) dX11_endSwing_12 rfl ?_
  refine g_lald C 1 rfl (by decide) (by decide) (by decide) (r := (a 95)) (by first | rfl | (simp [ua, sh, sh2]; done)) dX11_endSwing_14 rfl ?_
  refine g_lconst1 C dX11_endSwing_15 rfl ?_
  refine g_lcmp_ne C ⟨by omega, by omega⟩ ⟨by decide, by decide⟩ dX11_endSwing_16 rfl (tgt := 34) dX11_endSwing_17 (by decide) rfl (fun c_1 => ?_) (fun c_1 => ?_)
  · refine g_ws (ws' := [((Q 0), .inr (12, [vR (Q 1), vR (Q 2), vR (Q 3), vR (Q 4), vR (Q 5), vI pn, vR (Q 6), vL f0, vL f1, vL f2, vL f3, vL px, vL py, vL pb, vI rg, vI wr, vR (Q 7), vI rn, vR (Q 8), vI wn])), ((Q 1), cL E 310 (s_end a))]) (congrArg (fun z_ : Nat → Int64 => ([((Q 0), .inr (12, [vR (Q 1), vR (Q 2), vR (Q 3), vR (Q 4), vR (Q 5), vI pn, vR (Q 6), vL f0, vL f1, vL f2, vL f3, vL px, vL py, vL pb, vI rg, vI wr, vR (Q 7), vI rn, vR (Q 8), vI wn])), ((Q 1), .inl (E.2.1 1, 310, .inr (.inl z_)))] : va_W)) (show AL 310 (s_end a) = AL 310 (ua a 94 0) from AL_c (fun k_ k0_ k1_ => by unfold s_end; first | (rw [if_pos (by omega)]; done) | (rw [if_neg (by omega)]; done) | (rw [if_pos (by assumption)]; done) | (rw [if_neg (by assumption)]; done)))) ?_
    exact g_vret C hr (Nat.le_of_ble_eq_true rfl) (Nat.le_of_ble_eq_true rfl) dX11_endSwing_34 ⟨rfl, rfl⟩
  refine g_aload_n C 0 rfl dX11_endSwing_20 rfl ?_
  refine g_get C 0 fd_X11_endSwing_7 rfl rfl rfl dX11_endSwing_21 rfl ?_
  refine g_bipush C (by decide) dX11_endSwing_24 rfl ?_
  refine g_lconst0 C dX11_endSwing_26 rfl ?_
  refine g_last C 1 rfl (by decide) (by decide) (by decide) (ws' := [((Q 0), .inr (12, [vR (Q 1), vR (Q 2), vR (Q 3), vR (Q 4), vR (Q 5), vI pn, vR (Q 6), vL f0, vL f1, vL f2, vL f3, vL px, vL py, vL pb, vI rg, vI wr, vR (Q 7), vI rn, vR (Q 8), vI wn])), ((Q 1), cL E 310 (ua (ua a 94 0) 95 0))]) rfl dX11_endSwing_27 rfl ?_
  refine g_aload_n C 0 rfl dX11_endSwing_28 rfl ?_
  refine g_bipush C (by decide) dX11_endSwing_29 rfl ?_
  refine g_callV C (b := (Q 0)) (As := [vI 41]) (wc := [((Q 0), .inr (12, [vR (Q 1), vR (Q 2), vR (Q 3), vR (Q 4), vR (Q 5), vI pn, vR (Q 6), vL f0, vL f1, vL f2, vL f3, vL px, vL py, vL pb, vI rg, vI wr, vR (Q 7), vI rn, vR (Q 8), vI wn])), ((Q 1), cL E 310 (ua (ua a 94 0) 95 0))]) (wr := []) (st := []) gX11_endSwing_X11_note (q9 := 0) (ci := 12) rfl rfl rfl (K_m_note l E Q pn f0 f1 f2 f3 px py pb rg wr rn wn (ua (ua a 94 0) 95 0) 41 (by first | exact h104 | (rw [ua_ne (by decide), ua_ne (by decide)]; exact h104)) ⟨by decide, by decide⟩) hyd_X11_note rfl [0, 1] [] rfl rfl rfl rfl rfl (by decide) ⟨rfl, rfl⟩ ⟨Nat.le_of_ble_eq_true rfl, Nat.le_of_ble_eq_true rfl, Nat.le_of_ble_eq_true rfl, Nat.le_of_ble_eq_true rfl⟩ (Nat.le_of_ble_eq_true rfl) dX11_endSwing_31 (rfl : _ = 0) (rfl : _ = 0) rfl ?_
  rintro _ _ ⟨rfl, rfl⟩
  refine g_is (ws' := [((Q 0), .inr (12, [vR (Q 1), vR (Q 2), vR (Q 3), vR (Q 4), vR (Q 5), vI pn, vR (Q 6), vL f0, vL f1, vL f2, vL f3, vL px, vL py, vL pb, vI rg, vI wr, vR (Q 7), vI rn, vR (Q 8), vI wn])), ((Q 1), cL E 310 (s_note 41 (ua (ua a 94 0) 95 0)))]) (st' := []) rfl rfl ?_
  refine g_ws (ws' := [((Q 0), .inr (12, [vR (Q 1), vR (Q 2), vR (Q 3), vR (Q 4), vR (Q 5), vI pn, vR (Q 6), vL f0, vL f1, vL f2, vL f3, vL px, vL py, vL pb, vI rg, vI wr, vR (Q 7), vI rn, vR (Q 8), vI wn])), ((Q 1), cL E 310 (s_end a))]) (congrArg (fun z_ : Nat → Int64 => ([((Q 0), .inr (12, [vR (Q 1), vR (Q 2), vR (Q 3), vR (Q 4), vR (Q 5), vI pn, vR (Q 6), vL f0, vL f1, vL f2, vL f3, vL px, vL py, vL pb, vI rg, vI wr, vR (Q 7), vI rn, vR (Q 8), vI wn])), ((Q 1), .inl (E.2.1 1, 310, .inr (.inl z_)))] : va_W)) (show AL 310 (s_end a) = AL 310 (s_note 41 (ua (ua a 94 0) 95 0)) from AL_c (fun k_ k0_ k1_ => by unfold s_end; first | (rw [if_pos (by omega)]; done) | (rw [if_neg (by omega)]; done) | (rw [if_pos (by assumption)]; done) | (rw [if_neg (by assumption)]; done)))) ?_
  exact g_vret C hr (Nat.le_of_ble_eq_true rfl) (Nat.le_of_ble_eq_true rfl) dX11_endSwing_34 ⟨rfl, rfl⟩

theorem w_X11_laysPoint_k40 : Cond.constantLong RX11 40 (1000) ∈ wsX11_laysPoint := by decide +kernel
theorem in_X11_laysPoint_X11 : ∀ w ∈ u_ws RX11 TX11 20, w ∈ wsX11_laysPoint := by decide +kernel
theorem fd_X11_laysPoint_185 : fdk wsX11_laysPoint RX11 185 "ZoneRelayModel" RX11 TX11 20 11 := ⟨in_X11_laysPoint_X11, by decide +kernel, by decide, rfl⟩
theorem fd_X11_laysPoint_188 : fdk wsX11_laysPoint RX11 188 "ZoneRelayModel" RX11 TX11 20 12 := ⟨in_X11_laysPoint_X11, by decide +kernel, by decide, rfl⟩
theorem fd_X11_laysPoint_191 : fdk wsX11_laysPoint RX11 191 "ZoneRelayModel" RX11 TX11 20 13 := ⟨in_X11_laysPoint_X11, by decide +kernel, by decide, rfl⟩
theorem fd_X11_laysPoint_7 : fdk wsX11_laysPoint RX11 7 "ZoneRelayModel" RX11 TX11 20 0 := ⟨in_X11_laysPoint_X11, by decide +kernel, by decide, rfl⟩
abbrev rm_K_m_lays : Room := { frames := 0, cells := 0, slots := 0, locals := 0 }
set_option maxHeartbeats 8000000 in
set_option maxRecDepth 100000 in
theorem K_m_lays (l : Launch) (E : Ev) (Q : Nat → Nat) (pn f0 f1 f2 f3 px py pb rg wr rn wn : Int) (a : Int → Int) (va vb ia ib : Int) (eva : -51000 ≤ va ∧ va ≤ 51000) (evb : -51000 ≤ vb ∧ vb ≤ 51000) (eia : -51000 ≤ ia ∧ ia ≤ 51000) (eib : -51000 ≤ ib ∧ ib ≤ 51000) (h21 : 0 ≤ a 21 ∧ a 21 ≤ 20000) : Mc l yX11_laysPoint wsX11_laysPoint rm_K_m_lays E [vR (Q 0), vL va, vL vb, vL ia, vL ib] [((Q 0), .inr (12, [vR (Q 1), vR (Q 2), vR (Q 3), vR (Q 4), vR (Q 5), vI pn, vR (Q 6), vL f0, vL f1, vL f2, vL f3, vL px, vL py, vL pb, vI rg, vI wr, vR (Q 7), vI rn, vR (Q 8), vI wn])), ((Q 1), cL E 310 a)] 0 0 (fun v9 w9 => v9 = some (vI (bP (a 21 * a 21 ≤ ia * ia + ib * ib))) ∧ w9 = [((Q 0), .inr (12, [vR (Q 1), vR (Q 2), vR (Q 3), vR (Q 4), vR (Q 5), vI pn, vR (Q 6), vL f0, vL f1, vL f2, vL f3, vL (1000 * ((va * ia) + (vb * ib))), vL (1000 * ((vb * ia) - (va * ib))), vL ((ia * ia) + (ib * ib)), vI rg, vI wr, vR (Q 7), vI rn, vR (Q 8), vI wn])), ((Q 1), cL E 310 a)]) := by
  refine Mc.intro (cc := cX11_laysPoint) (maxL := 9) (ret := (some .boolean)) (lv0 := [(0, vR (Q 0)), (1, vL va), (3, vL vb), (5, vL ia), (7, vL ib)]) (by decide +kernel) rfl rfl (Nat.le_of_ble_eq_true rfl) ?_
  intro p9 e9 s9 m9 args9 below9 meth9 c9 A9 C hr hmn
  have C : Cx p9 s9 m9 args9 meth9 c9 E A9 9 cX11_laysPoint wsX11_laysPoint RX11 := C
  have m1 := mul_b (x := ia) (y := ia) (A := 51000) (B := 51000) eia eia
  have m2 := mul_b (x := ib) (y := ib) (A := 51000) (B := 51000) eib eib
  have m3 := mul_b (x := a 21) (y := a 21) (A := 20000) (B := 20000) (by omega) (by omega)
  refine g_aload_n C 0 rfl dX11_laysPoint_0 rfl ?_
  refine g_ldc2 C (x := 1000) w_X11_laysPoint_k40 (by decide) dX11_laysPoint_1 rfl ?_
  refine g_lload_n C 1 rfl dX11_laysPoint_4 rfl ?_
  refine g_lload C 3 rfl dX11_laysPoint_5 rfl ?_
  refine g_lmul C rfl dX11_laysPoint_7 rfl ?_
  refine g_lload_n C 2 rfl dX11_laysPoint_8 rfl ?_
  refine g_lload C 4 rfl dX11_laysPoint_9 rfl ?_
  refine g_lmul C rfl dX11_laysPoint_11 rfl ?_
  refine g_ladd C rfl dX11_laysPoint_12 rfl ?_
  refine g_lmul C rfl dX11_laysPoint_13 rfl ?_
  refine g_put C tyX11 tyX11_ok nmX11 0 fd_X11_laysPoint_185 rfl rfl rfl rfl rfl rfl (Nat.le_of_ble_eq_true rfl) (ws' := [((Q 0), .inr (12, [vR (Q 1), vR (Q 2), vR (Q 3), vR (Q 4), vR (Q 5), vI pn, vR (Q 6), vL f0, vL f1, vL f2, vL f3, vL (1000 * ((va * ia) + (vb * ib))), vL py, vL pb, vI rg, vI wr, vR (Q 7), vI rn, vR (Q 8), vI wn])), ((Q 1), cL E 310 a)]) rfl dX11_laysPoint_14 rfl ?_
  refine g_aload_n C 0 rfl dX11_laysPoint_17 rfl ?_
  refine g_ldc2 C (x := 1000) w_X11_laysPoint_k40 (by decide) dX11_laysPoint_18 rfl ?_
  refine g_lload_n C 2 rfl dX11_laysPoint_21 rfl ?_
  refine g_lload C 3 rfl dX11_laysPoint_22 rfl ?_
  refine g_lmul C rfl dX11_laysPoint_24 rfl ?_
  refine g_lload_n C 1 rfl dX11_laysPoint_25 rfl ?_
  refine g_lload C 4 rfl dX11_laysPoint_26 rfl ?_
  refine g_lmul C rfl dX11_laysPoint_28 rfl ?_
  refine g_lsub C rfl dX11_laysPoint_29 rfl ?_
  refine g_lmul C rfl dX11_laysPoint_30 rfl ?_
  refine g_put C tyX11 tyX11_ok nmX11 0 fd_X11_laysPoint_188 rfl rfl rfl rfl rfl rfl (Nat.le_of_ble_eq_true rfl) (ws' := [((Q 0), .inr (12, [vR (Q 1), vR (Q 2), vR (Q 3), vR (Q 4), vR (Q 5), vI pn, vR (Q 6), vL f0, vL f1, vL f2, vL f3, vL (1000 * ((va * ia) + (vb * ib))), vL (1000 * ((vb * ia) - (va * ib))), vL pb, vI rg, vI wr, vR (Q 7), vI rn, vR (Q 8), vI wn])), ((Q 1), cL E 310 a)]) rfl dX11_laysPoint_31 rfl ?_
  refine g_aload_n C 0 rfl dX11_laysPoint_34 rfl ?_
  refine g_lload C 3 rfl dX11_laysPoint_35 rfl ?_
  refine g_lload C 3 rfl dX11_laysPoint_37 rfl ?_
  refine g_lmul C rfl dX11_laysPoint_39 rfl ?_
  refine g_lload C 4 rfl dX11_laysPoint_40 rfl ?_
  refine g_lload C 4 rfl dX11_laysPoint_42 rfl ?_
  refine g_lmul C rfl dX11_laysPoint_44 rfl ?_
  refine g_ladd C rfl dX11_laysPoint_45 rfl ?_
  refine g_put C tyX11 tyX11_ok nmX11 0 fd_X11_laysPoint_191 rfl rfl rfl rfl rfl rfl (Nat.le_of_ble_eq_true rfl) (ws' := [((Q 0), .inr (12, [vR (Q 1), vR (Q 2), vR (Q 3), vR (Q 4), vR (Q 5), vI pn, vR (Q 6), vL f0, vL f1, vL f2, vL f3, vL (1000 * ((va * ia) + (vb * ib))), vL (1000 * ((vb * ia) - (va * ib))), vL ((ia * ia) + (ib * ib)), vI rg, vI wr, vR (Q 7), vI rn, vR (Q 8), vI wn])), ((Q 1), cL E 310 a)]) rfl dX11_laysPoint_46 rfl ?_
  refine g_aload_n C 0 rfl dX11_laysPoint_49 rfl ?_
  refine g_get C 0 fd_X11_laysPoint_191 rfl rfl rfl dX11_laysPoint_50 rfl ?_
  refine g_aload_n C 0 rfl dX11_laysPoint_53 rfl ?_
  refine g_get C 0 fd_X11_laysPoint_7 rfl rfl rfl dX11_laysPoint_54 rfl ?_
  refine g_bipush C (by decide) dX11_laysPoint_57 rfl ?_
  refine g_lald C 1 rfl (by decide) (by decide) (by decide) rfl dX11_laysPoint_59 rfl ?_
  refine g_aload_n C 0 rfl dX11_laysPoint_60 rfl ?_
  refine g_get C 0 fd_X11_laysPoint_7 rfl rfl rfl dX11_laysPoint_61 rfl ?_
  refine g_bipush C (by decide) dX11_laysPoint_64 rfl ?_
  refine g_lald C 1 rfl (by decide) (by decide) (by decide) rfl dX11_laysPoint_66 rfl ?_
  refine g_lmul C rfl dX11_laysPoint_67 rfl ?_
  refine g_lcmp_lt C ⟨by omega, by omega⟩ ⟨by omega, by omega⟩ dX11_laysPoint_68 rfl (tgt := 76) dX11_laysPoint_69 (by decide) rfl (fun c_1 => ?_) (fun c_1 => ?_)
  · refine g_iconst C dX11_laysPoint_76 rfl ?_
    refine g_top (v' := vI (bP (a 21 * a 21 ≤ ia * ia + ib * ib))) (congrArg (fun z_ : Int => vI z_) (show (bP (a 21 * a 21 ≤ ia * ia + ib * ib)) = 0 by first | exact bP_t (by first | assumption | omega) | exact bP_f (by first | assumption | omega))) ?_
    exact g_iret C hr (nrZ _) (Nat.le_of_ble_eq_true rfl) (Nat.le_of_ble_eq_true rfl) dX11_laysPoint_77 ⟨rfl, rfl⟩
  refine g_iconst C dX11_laysPoint_72 rfl ?_
  refine g_goto C (pc' := 77) dX11_laysPoint_73 (by decide) ?_
  refine g_top (v' := vI (bP (a 21 * a 21 ≤ ia * ia + ib * ib))) (congrArg (fun z_ : Int => vI z_) (show (bP (a 21 * a 21 ≤ ia * ia + ib * ib)) = 1 by first | exact bP_t (by first | assumption | omega) | exact bP_f (by first | assumption | omega))) ?_
  exact g_iret C hr (nrZ _) (Nat.le_of_ble_eq_true rfl) (Nat.le_of_ble_eq_true rfl) dX11_laysPoint_77 ⟨rfl, rfl⟩

theorem in_X11_isInLoad_X11 : ∀ w ∈ u_ws RX11 TX11 20, w ∈ wsX11_isInLoad := by decide +kernel
theorem fd_X11_isInLoad_185 : fdk wsX11_isInLoad RX11 185 "ZoneRelayModel" RX11 TX11 20 11 := ⟨in_X11_isInLoad_X11, by decide +kernel, by decide, rfl⟩
theorem hyd_X11_size : yX11_size.cls ≠ "java/lang/invoke/MethodHandle" ∧ yX11_size.cls ≠ "java/lang/invoke/VarHandle" ∧ (parseMethodDescriptor yX11_size.desc).map (fun d => d.parameters.length) = some 1 := by decide +kernel
theorem fd_X11_isInLoad_7 : fdk wsX11_isInLoad RX11 7 "ZoneRelayModel" RX11 TX11 20 0 := ⟨in_X11_isInLoad_X11, by decide +kernel, by decide, rfl⟩
theorem fd_X11_isInLoad_191 : fdk wsX11_isInLoad RX11 191 "ZoneRelayModel" RX11 TX11 20 13 := ⟨in_X11_isInLoad_X11, by decide +kernel, by decide, rfl⟩
theorem fd_X11_isInLoad_188 : fdk wsX11_isInLoad RX11 188 "ZoneRelayModel" RX11 TX11 20 12 := ⟨in_X11_isInLoad_X11, by decide +kernel, by decide, rfl⟩
theorem w_X11_isInLoad_k40 : Cond.constantLong RX11 40 (1000) ∈ wsX11_isInLoad := by decide +kernel
abbrev rm_K_m_load : Room := { frames := 1, cells := 0, slots := 0, locals := 21 }
set_option maxHeartbeats 8000000 in
set_option maxRecDepth 100000 in
theorem K_m_load (l : Launch) (E : Ev) (Q : Nat → Nat) (pn f0 f1 f2 f3 px py pb rg wr rn wn : Int) (a : Int → Int) (hx : -5300000000000 ≤ px ∧ px ≤ 5300000000000) (hy : -5300000000000 ≤ py ∧ py ≤ 5300000000000) (hd : 0 ≤ pb ∧ pb ≤ 5210000000) (h24 : 0 ≤ a 24 ∧ a 24 ≤ 20000) (h25 : 0 ≤ a 25 ∧ a 25 ≤ 10000) : Mc l yX11_isInLoad wsX11_isInLoad rm_K_m_load E [vR (Q 0)] [((Q 0), .inr (12, [vR (Q 1), vR (Q 2), vR (Q 3), vR (Q 4), vR (Q 5), vI pn, vR (Q 6), vL f0, vL f1, vL f2, vL f3, vL px, vL py, vL pb, vI rg, vI wr, vR (Q 7), vI rn, vR (Q 8), vI wn])), ((Q 1), cL E 310 a)] 0 0 (fun v9 w9 => v9 = some (vI (bP (a 24 * pb ≤ absI px ∧ absI py * 1000 ≤ a 25 * absI px))) ∧ w9 = [((Q 0), .inr (12, [vR (Q 1), vR (Q 2), vR (Q 3), vR (Q 4), vR (Q 5), vI pn, vR (Q 6), vL f0, vL f1, vL f2, vL f3, vL px, vL py, vL pb, vI rg, vI wr, vR (Q 7), vI rn, vR (Q 8), vI wn])), ((Q 1), cL E 310 a)]) := by
  refine Mc.intro (cc := cX11_isInLoad) (maxL := 1) (ret := (some .boolean)) (lv0 := [(0, vR (Q 0))]) (by decide +kernel) rfl rfl (Nat.le_of_ble_eq_true rfl) ?_
  intro p9 e9 s9 m9 args9 below9 meth9 c9 A9 C hr hmn
  have C : Cx p9 s9 m9 args9 meth9 c9 E A9 1 cX11_isInLoad wsX11_isInLoad RX11 := C
  have m1 := mul_b (x := a 24) (y := pb) (A := 20000) (B := 5210000000) (by omega) (by omega)
  have x1 := absI_r (x := px) (A := 5300000000000) hx
  have y1 := absI_r (x := py) (A := 5300000000000) hy
  have m2 := mul_b (x := a 25) (y := absI px) (A := 10000) (B := 5300000000000) (by omega) (by omega)
  refine g_aload_n C 0 rfl dX11_isInLoad_0 rfl ?_
  refine g_get C 0 fd_X11_isInLoad_185 rfl rfl rfl dX11_isInLoad_1 rfl ?_
  refine g_callS C (As := [vL px]) (wc := []) (wr := [((Q 0), .inr (12, [vR (Q 1), vR (Q 2), vR (Q 3), vR (Q 4), vR (Q 5), vI pn, vR (Q 6), vL f0, vL f1, vL f2, vL f3, vL px, vL py, vL pb, vI rg, vI wr, vR (Q 7), vI rn, vR (Q 8), vI wn])), ((Q 1), cL E 310 a)]) (st := []) gX11_isInLoad_X11_size rfl (K_m_size l E px ⟨by omega, by omega⟩) hyd_X11_size rfl [] [0, 1] rfl rfl rfl rfl rfl (by decide) ⟨rfl, rfl⟩ ⟨Nat.le_of_ble_eq_true rfl, Nat.le_of_ble_eq_true rfl, Nat.le_of_ble_eq_true rfl, Nat.le_of_ble_eq_true rfl⟩ (Nat.le_of_ble_eq_true rfl) dX11_isInLoad_4 (rfl : _ = 0) (rfl : _ = 0) rfl ?_
  rintro _ _ ⟨rfl, rfl⟩
  refine g_is (ws' := [((Q 0), .inr (12, [vR (Q 1), vR (Q 2), vR (Q 3), vR (Q 4), vR (Q 5), vI pn, vR (Q 6), vL f0, vL f1, vL f2, vL f3, vL px, vL py, vL pb, vI rg, vI wr, vR (Q 7), vI rn, vR (Q 8), vI wn])), ((Q 1), cL E 310 a)]) (st' := [vL (absI px)]) rfl rfl ?_
  refine g_aload_n C 0 rfl dX11_isInLoad_7 rfl ?_
  refine g_get C 0 fd_X11_isInLoad_7 rfl rfl rfl dX11_isInLoad_8 rfl ?_
  refine g_bipush C (by decide) dX11_isInLoad_11 rfl ?_
  refine g_lald C 1 rfl (by decide) (by decide) (by decide) rfl dX11_isInLoad_13 rfl ?_
  refine g_aload_n C 0 rfl dX11_isInLoad_14 rfl ?_
  refine g_get C 0 fd_X11_isInLoad_191 rfl rfl rfl dX11_isInLoad_15 rfl ?_
  refine g_lmul C rfl dX11_isInLoad_18 rfl ?_
  refine g_lcmp_lt C ⟨by omega, by omega⟩ ⟨by omega, by omega⟩ dX11_isInLoad_19 rfl (tgt := 57) dX11_isInLoad_20 (by decide) rfl (fun c_1 => ?_) (fun c_1 => ?_)
  · refine g_iconst C dX11_isInLoad_57 rfl ?_
    refine g_top (v' := vI (bP (a 24 * pb ≤ absI px ∧ absI py * 1000 ≤ a 25 * absI px))) (congrArg (fun z_ : Int => vI z_) (show (bP (a 24 * pb ≤ absI px ∧ absI py * 1000 ≤ a 25 * absI px)) = 0 by first | exact bP_t (by first | assumption | omega) | exact bP_f (by first | assumption | omega))) ?_
    exact g_iret C hr (nrZ _) (Nat.le_of_ble_eq_true rfl) (Nat.le_of_ble_eq_true rfl) dX11_isInLoad_58 ⟨rfl, rfl⟩
  refine g_aload_n C 0 rfl dX11_isInLoad_23 rfl ?_
  refine g_get C 0 fd_X11_isInLoad_188 rfl rfl rfl dX11_isInLoad_24 rfl ?_
  refine g_callS C (As := [vL py]) (wc := []) (wr := [((Q 0), .inr (12, [vR (Q 1), vR (Q 2), vR (Q 3), vR (Q 4), vR (Q 5), vI pn, vR (Q 6), vL f0, vL f1, vL f2, vL f3, vL px, vL py, vL pb, vI rg, vI wr, vR (Q 7), vI rn, vR (Q 8), vI wn])), ((Q 1), cL E 310 a)]) (st := []) gX11_isInLoad_X11_size rfl (K_m_size l E py ⟨by omega, by omega⟩) hyd_X11_size rfl [] [0, 1] rfl rfl rfl rfl rfl (by decide) ⟨rfl, rfl⟩ ⟨Nat.le_of_ble_eq_true rfl, Nat.le_of_ble_eq_true rfl, Nat.le_of_ble_eq_true rfl, Nat.le_of_ble_eq_true rfl⟩ (Nat.le_of_ble_eq_true rfl) dX11_isInLoad_27 (rfl : _ = 0) (rfl : _ = 0) rfl ?_
  rintro _ _ ⟨rfl, rfl⟩
  refine g_is (ws' := [((Q 0), .inr (12, [vR (Q 1), vR (Q 2), vR (Q 3), vR (Q 4), vR (Q 5), vI pn, vR (Q 6), vL f0, vL f1, vL f2, vL f3, vL px, vL py, vL pb, vI rg, vI wr, vR (Q 7), vI rn, vR (Q 8), vI wn])), ((Q 1), cL E 310 a)]) (st' := [vL (absI py)]) rfl rfl ?_
  refine g_ldc2 C (x := 1000) w_X11_isInLoad_k40 (by decide) dX11_isInLoad_30 rfl ?_
  refine g_lmul C rfl dX11_isInLoad_33 rfl ?_
  refine g_aload_n C 0 rfl dX11_isInLoad_34 rfl ?_
  refine g_get C 0 fd_X11_isInLoad_7 rfl rfl rfl dX11_isInLoad_35 rfl ?_
  refine g_bipush C (by decide) dX11_isInLoad_38 rfl ?_
  refine g_lald C 1 rfl (by decide) (by decide) (by decide) rfl dX11_isInLoad_40 rfl ?_
  refine g_aload_n C 0 rfl dX11_isInLoad_41 rfl ?_
  refine g_get C 0 fd_X11_isInLoad_185 rfl rfl rfl dX11_isInLoad_42 rfl ?_
  refine g_callS C (As := [vL px]) (wc := []) (wr := [((Q 0), .inr (12, [vR (Q 1), vR (Q 2), vR (Q 3), vR (Q 4), vR (Q 5), vI pn, vR (Q 6), vL f0, vL f1, vL f2, vL f3, vL px, vL py, vL pb, vI rg, vI wr, vR (Q 7), vI rn, vR (Q 8), vI wn])), ((Q 1), cL E 310 a)]) (st := [vL (a 25), vL ((absI py) * 1000)]) gX11_isInLoad_X11_size rfl (K_m_size l E px ⟨by omega, by omega⟩) hyd_X11_size rfl [] [0, 1] rfl rfl rfl rfl rfl (by decide) ⟨rfl, rfl⟩ ⟨Nat.le_of_ble_eq_true rfl, Nat.le_of_ble_eq_true rfl, Nat.le_of_ble_eq_true rfl, Nat.le_of_ble_eq_true rfl⟩ (Nat.le_of_ble_eq_true rfl) dX11_isInLoad_45 (rfl : _ = 0) (rfl : _ = 0) rfl ?_
  rintro _ _ ⟨rfl, rfl⟩
  refine g_is (ws' := [((Q 0), .inr (12, [vR (Q 1), vR (Q 2), vR (Q 3), vR (Q 4), vR (Q 5), vI pn, vR (Q 6), vL f0, vL f1, vL f2, vL f3, vL px, vL py, vL pb, vI rg, vI wr, vR (Q 7), vI rn, vR (Q 8), vI wn])), ((Q 1), cL E 310 a)]) (st' := [vL (absI px), vL (a 25), vL ((absI py) * 1000)]) rfl rfl ?_
  refine g_lmul C rfl dX11_isInLoad_48 rfl ?_
  refine g_lcmp_gt C ⟨by omega, by omega⟩ ⟨by omega, by omega⟩ dX11_isInLoad_49 rfl (tgt := 57) dX11_isInLoad_50 (by decide) rfl (fun c_2 => ?_) (fun c_2 => ?_)
  · refine g_iconst C dX11_isInLoad_57 rfl ?_
    refine g_top (v' := vI (bP (a 24 * pb ≤ absI px ∧ absI py * 1000 ≤ a 25 * absI px))) (congrArg (fun z_ : Int => vI z_) (show (bP (a 24 * pb ≤ absI px ∧ absI py * 1000 ≤ a 25 * absI px)) = 0 by first | exact bP_t (by first | assumption | omega) | exact bP_f (by first | assumption | omega))) ?_
    exact g_iret C hr (nrZ _) (Nat.le_of_ble_eq_true rfl) (Nat.le_of_ble_eq_true rfl) dX11_isInLoad_58 ⟨rfl, rfl⟩
  refine g_iconst C dX11_isInLoad_53 rfl ?_
  refine g_goto C (pc' := 58) dX11_isInLoad_54 (by decide) ?_
  refine g_top (v' := vI (bP (a 24 * pb ≤ absI px ∧ absI py * 1000 ≤ a 25 * absI px))) (congrArg (fun z_ : Int => vI z_) (show (bP (a 24 * pb ≤ absI px ∧ absI py * 1000 ≤ a 25 * absI px)) = 1 by first | exact bP_t (by first | assumption | omega) | exact bP_f (by first | assumption | omega))) ?_
  exact g_iret C hr (nrZ _) (Nat.le_of_ble_eq_true rfl) (Nat.le_of_ble_eq_true rfl) dX11_isInLoad_58 ⟨rfl, rfl⟩

theorem in_X11_isInside_X11 : ∀ w ∈ u_ws RX11 TX11 20, w ∈ wsX11_isInside := by decide +kernel
theorem fd_X11_isInside_185 : fdk wsX11_isInside RX11 185 "ZoneRelayModel" RX11 TX11 20 11 := ⟨in_X11_isInside_X11, by decide +kernel, by decide, rfl⟩
theorem fd_X11_isInside_188 : fdk wsX11_isInside RX11 188 "ZoneRelayModel" RX11 TX11 20 12 := ⟨in_X11_isInside_X11, by decide +kernel, by decide, rfl⟩
theorem fd_X11_isInside_191 : fdk wsX11_isInside RX11 191 "ZoneRelayModel" RX11 TX11 20 13 := ⟨in_X11_isInside_X11, by decide +kernel, by decide, rfl⟩
theorem hyd_X11_holds : yX11_holds.cls ≠ "java/lang/invoke/MethodHandle" ∧ yX11_holds.cls ≠ "java/lang/invoke/VarHandle" ∧ (parseMethodDescriptor yX11_holds.desc).map (fun d => d.parameters.length) = some 4 := by decide +kernel
abbrev rm_K_m_inside : Room := { frames := 5, cells := 0, slots := 0, locals := 139 }
set_option maxHeartbeats 8000000 in
set_option maxRecDepth 100000 in
theorem K_m_inside (l : Launch) (E : Ev) (Q : Nat → Nat) (pn f0 f1 f2 f3 px py pb rg wr rn wn : Int) (a : Int → Int) (p : Int) (hp : 0 ≤ p ∧ p ≤ 4) (hpn : ∀ p : Int, 0 ≤ p → p < 5 → 0 ≤ a (225 + 17 * p) ∧ a (225 + 17 * p) ≤ 8) (hpc : ∀ p k : Int, 0 ≤ p → p < 5 → 0 ≤ k → k < 8 → cb (sh2 a (226 + 17 * p) k) ∧ cb (sh2 a (227 + 17 * p) k)) (hx : -5300000000000 ≤ px ∧ px ≤ 5300000000000) (hy : -5300000000000 ≤ py ∧ py ≤ 5300000000000) (hd : 0 ≤ pb ∧ pb ≤ 5210000000) : Mc l yX11_isInside wsX11_isInside rm_K_m_inside E [vR (Q 0), vI p] [((Q 0), .inr (12, [vR (Q 1), vR (Q 2), vR (Q 3), vR (Q 4), vR (Q 5), vI pn, vR (Q 6), vL f0, vL f1, vL f2, vL f3, vL px, vL py, vL pb, vI rg, vI wr, vR (Q 7), vI rn, vR (Q 8), vI wn])), ((Q 1), cL E 310 a)] 0 0 (fun v9 w9 => v9 = some (vI (bP (hldA a p px py pb = true))) ∧ w9 = [((Q 0), .inr (12, [vR (Q 1), vR (Q 2), vR (Q 3), vR (Q 4), vR (Q 5), vI pn, vR (Q 6), vL f0, vL f1, vL f2, vL f3, vL px, vL py, vL pb, vI rg, vI wr, vR (Q 7), vI rn, vR (Q 8), vI wn])), ((Q 1), cL E 310 a)]) := by
  refine Mc.intro (cc := cX11_isInside) (maxL := 2) (ret := (some .boolean)) (lv0 := [(0, vR (Q 0)), (1, vI p)]) (by decide +kernel) rfl rfl (Nat.le_of_ble_eq_true rfl) ?_
  intro p9 e9 s9 m9 args9 below9 meth9 c9 A9 C hr hmn
  have C : Cx p9 s9 m9 args9 meth9 c9 E A9 2 cX11_isInside wsX11_isInside RX11 := C
  refine g_aload_n C 0 rfl dX11_isInside_0 rfl ?_
  refine g_iload_n C 1 rfl dX11_isInside_1 rfl ?_
  refine g_aload_n C 0 rfl dX11_isInside_2 rfl ?_
  refine g_get C 0 fd_X11_isInside_185 rfl rfl rfl dX11_isInside_3 rfl ?_
  refine g_aload_n C 0 rfl dX11_isInside_6 rfl ?_
  refine g_get C 0 fd_X11_isInside_188 rfl rfl rfl dX11_isInside_7 rfl ?_
  refine g_aload_n C 0 rfl dX11_isInside_10 rfl ?_
  refine g_get C 0 fd_X11_isInside_191 rfl rfl rfl dX11_isInside_11 rfl ?_
  refine g_callV C (b := (Q 0)) (As := [vI p, vL px, vL py, vL pb]) (wc := [((Q 0), .inr (12, [vR (Q 1), vR (Q 2), vR (Q 3), vR (Q 4), vR (Q 5), vI pn, vR (Q 6), vL f0, vL f1, vL f2, vL f3, vL px, vL py, vL pb, vI rg, vI wr, vR (Q 7), vI rn, vR (Q 8), vI wn])), ((Q 1), cL E 310 a)]) (wr := []) (st := []) gX11_isInside_X11_holds (q9 := 0) (ci := 12) rfl rfl rfl (K_m_holds l E Q pn f0 f1 f2 f3 px py pb rg wr rn wn a p px py pb hp (hpn p (by omega) (by omega)) (fun k h0 h1 => (hpc p k (by omega) (by omega) h0 h1).1) (fun k h0 h1 => (hpc p k (by omega) (by omega) h0 h1).2) hx hy hd) hyd_X11_holds rfl [0, 1] [] rfl rfl rfl rfl rfl (by decide) ⟨rfl, rfl⟩ ⟨Nat.le_of_ble_eq_true rfl, Nat.le_of_ble_eq_true rfl, Nat.le_of_ble_eq_true rfl, Nat.le_of_ble_eq_true rfl⟩ (Nat.le_of_ble_eq_true rfl) dX11_isInside_14 (rfl : _ = 0) (rfl : _ = 0) rfl ?_
  rintro _ _ ⟨rfl, rfl⟩
  refine g_is (ws' := [((Q 0), .inr (12, [vR (Q 1), vR (Q 2), vR (Q 3), vR (Q 4), vR (Q 5), vI pn, vR (Q 6), vL f0, vL f1, vL f2, vL f3, vL px, vL py, vL pb, vI rg, vI wr, vR (Q 7), vI rn, vR (Q 8), vI wn])), ((Q 1), cL E 310 a)]) (st' := [vI (bP (hldA a p px py pb = true))]) rfl rfl ?_
  exact g_iret C hr (nrZ _) (Nat.le_of_ble_eq_true rfl) (Nat.le_of_ble_eq_true rfl) dX11_isInside_17 ⟨rfl, rfl⟩

theorem hyd_X11_isInside : yX11_isInside.cls ≠ "java/lang/invoke/MethodHandle" ∧ yX11_isInside.cls ≠ "java/lang/invoke/VarHandle" ∧ (parseMethodDescriptor yX11_isInside.desc).map (fun d => d.parameters.length) = some 1 := by decide +kernel
theorem in_X11_watchSwing_X11 : ∀ w ∈ u_ws RX11 TX11 20, w ∈ wsX11_watchSwing := by decide +kernel
theorem fd_X11_watchSwing_7 : fdk wsX11_watchSwing RX11 7 "ZoneRelayModel" RX11 TX11 20 0 := ⟨in_X11_watchSwing_X11, by decide +kernel, by decide, rfl⟩
theorem hyd_X11_endSwing : yX11_endSwing.cls ≠ "java/lang/invoke/MethodHandle" ∧ yX11_endSwing.cls ≠ "java/lang/invoke/VarHandle" ∧ (parseMethodDescriptor yX11_endSwing.desc).map (fun d => d.parameters.length) = some 0 := by decide +kernel
abbrev rm_K_m_watch : Room := { frames := 6, cells := 0, slots := 0, locals := 160 }
set_option maxHeartbeats 8000000 in
set_option maxRecDepth 100000 in
theorem K_m_watch (l : Launch) (E : Ev) (Q : Nat → Nat) (pn f0 f1 f2 f3 px py pb rg wr rn wn : Int) (a : Int → Int) (hpn : ∀ p : Int, 0 ≤ p → p < 5 → 0 ≤ a (225 + 17 * p) ∧ a (225 + 17 * p) ≤ 8) (hpc : ∀ p k : Int, 0 ≤ p → p < 5 → 0 ≤ k → k < 8 → cb (sh2 a (226 + 17 * p) k) ∧ cb (sh2 a (227 + 17 * p) k)) (hx : -5300000000000 ≤ px ∧ px ≤ 5300000000000) (hy : -5300000000000 ≤ py ∧ py ≤ 5300000000000) (hd : 0 ≤ pb ∧ pb ≤ 5210000000) (h104 : 0 ≤ a 104 ∧ a 104 < 2000000000) (h95 : a 95 = 0 ∨ a 95 = 1) (h94 : 0 ≤ a 94 ∧ a 94 < 2000000000) (h27 : 0 ≤ a 27 ∧ a 27 ≤ 1000) : Mc l yX11_watchSwing wsX11_watchSwing rm_K_m_watch E [vR (Q 0)] [((Q 0), .inr (12, [vR (Q 1), vR (Q 2), vR (Q 3), vR (Q 4), vR (Q 5), vI pn, vR (Q 6), vL f0, vL f1, vL f2, vL f3, vL px, vL py, vL pb, vI rg, vI wr, vR (Q 7), vI rn, vR (Q 8), vI wn])), ((Q 1), cL E 310 a)] 0 0 (fun v9 w9 => v9 = none ∧ w9 = [((Q 0), .inr (12, [vR (Q 1), vR (Q 2), vR (Q 3), vR (Q 4), vR (Q 5), vI pn, vR (Q 6), vL f0, vL f1, vL f2, vL f3, vL px, vL py, vL pb, vI rg, vI wr, vR (Q 7), vI rn, vR (Q 8), vI wn])), ((Q 1), cL E 310 (s_swB a px py pb))]) := by
  refine Mc.intro (cc := cX11_watchSwing) (maxL := 1) (ret := none) (lv0 := [(0, vR (Q 0))]) (by decide +kernel) rfl rfl (Nat.le_of_ble_eq_true rfl) ?_
  intro p9 e9 s9 m9 args9 below9 meth9 c9 A9 C hr hmn
  have C : Cx p9 s9 m9 args9 meth9 c9 E A9 1 cX11_watchSwing wsX11_watchSwing RX11 := C
  refine g_aload_n C 0 rfl dX11_watchSwing_0 rfl ?_
  refine g_iconst C dX11_watchSwing_1 rfl ?_
  refine g_callV C (b := (Q 0)) (As := [vI 4]) (wc := [((Q 0), .inr (12, [vR (Q 1), vR (Q 2), vR (Q 3), vR (Q 4), vR (Q 5), vI pn, vR (Q 6), vL f0, vL f1, vL f2, vL f3, vL px, vL py, vL pb, vI rg, vI wr, vR (Q 7), vI rn, vR (Q 8), vI wn])), ((Q 1), cL E 310 a)]) (wr := []) (st := []) gX11_watchSwing_X11_isInside (q9 := 0) (ci := 12) rfl rfl rfl (K_m_inside l E Q pn f0 f1 f2 f3 px py pb rg wr rn wn a 4 ⟨by decide, by decide⟩ (by first | assumption | omega) (by first | assumption | omega) hx hy hd) hyd_X11_isInside rfl [0, 1] [] rfl rfl rfl rfl rfl (by decide) ⟨rfl, rfl⟩ ⟨Nat.le_of_ble_eq_true rfl, Nat.le_of_ble_eq_true rfl, Nat.le_of_ble_eq_true rfl, Nat.le_of_ble_eq_true rfl⟩ (Nat.le_of_ble_eq_true rfl) dX11_watchSwing_2 (rfl : _ = 0) (rfl : _ = 0) rfl ?_
  rintro _ _ ⟨rfl, rfl⟩
  refine g_is (ws' := [((Q 0), .inr (12, [vR (Q 1), vR (Q 2), vR (Q 3), vR (Q 4), vR (Q 5), vI pn, vR (Q 6), vL f0, vL f1, vL f2, vL f3, vL px, vL py, vL pb, vI rg, vI wr, vR (Q 7), vI rn, vR (Q 8), vI wn])), ((Q 1), cL E 310 a)]) (st' := [vI (bP (hldA a 4 px py pb = true))]) rfl rfl ?_
  refine g_ifb_ne C (tgt := 15) dX11_watchSwing_5 (by decide) rfl (fun c_1 => ?_) (fun c_1 => ?_)
  · refine g_aload_n C 0 rfl dX11_watchSwing_15 rfl ?_
    refine g_iconst C dX11_watchSwing_16 rfl ?_
    refine g_callV C (b := (Q 0)) (As := [vI 3]) (wc := [((Q 0), .inr (12, [vR (Q 1), vR (Q 2), vR (Q 3), vR (Q 4), vR (Q 5), vI pn, vR (Q 6), vL f0, vL f1, vL f2, vL f3, vL px, vL py, vL pb, vI rg, vI wr, vR (Q 7), vI rn, vR (Q 8), vI wn])), ((Q 1), cL E 310 a)]) (wr := []) (st := []) gX11_watchSwing_X11_isInside (q9 := 0) (ci := 12) rfl rfl rfl (K_m_inside l E Q pn f0 f1 f2 f3 px py pb rg wr rn wn a 3 ⟨by decide, by decide⟩ (by first | assumption | omega) (by first | assumption | omega) hx hy hd) hyd_X11_isInside rfl [0, 1] [] rfl rfl rfl rfl rfl (by decide) ⟨rfl, rfl⟩ ⟨Nat.le_of_ble_eq_true rfl, Nat.le_of_ble_eq_true rfl, Nat.le_of_ble_eq_true rfl, Nat.le_of_ble_eq_true rfl⟩ (Nat.le_of_ble_eq_true rfl) dX11_watchSwing_17 (rfl : _ = 0) (rfl : _ = 0) rfl ?_
    rintro _ _ ⟨rfl, rfl⟩
    refine g_is (ws' := [((Q 0), .inr (12, [vR (Q 1), vR (Q 2), vR (Q 3), vR (Q 4), vR (Q 5), vI pn, vR (Q 6), vL f0, vL f1, vL f2, vL f3, vL px, vL py, vL pb, vI rg, vI wr, vR (Q 7), vI rn, vR (Q 8), vI wn])), ((Q 1), cL E 310 a)]) (st' := [vI (bP (hldA a 3 px py pb = true))]) rfl rfl ?_
    refine g_ifb_ne C (tgt := 37) dX11_watchSwing_20 (by decide) rfl (fun c_2 => ?_) (fun c_2 => ?_)
    · refine g_aload_n C 0 rfl dX11_watchSwing_37 rfl ?_
      refine g_get C 0 fd_X11_watchSwing_7 rfl rfl rfl dX11_watchSwing_38 rfl ?_
      refine g_bipush C (by decide) dX11_watchSwing_41 rfl ?_
      refine g_lald C 1 rfl (by decide) (by decide) (by decide) rfl dX11_watchSwing_43 rfl ?_
      refine g_lconst0 C dX11_watchSwing_44 rfl ?_
      refine g_lcmp_ne C ⟨by omega, by omega⟩ ⟨by decide, by decide⟩ dX11_watchSwing_45 rfl (tgt := 81) dX11_watchSwing_46 (by decide) rfl (fun c_3 => ?_) (fun c_3 => ?_)
      · refine g_ws (ws' := [((Q 0), .inr (12, [vR (Q 1), vR (Q 2), vR (Q 3), vR (Q 4), vR (Q 5), vI pn, vR (Q 6), vL f0, vL f1, vL f2, vL f3, vL px, vL py, vL pb, vI rg, vI wr, vR (Q 7), vI rn, vR (Q 8), vI wn])), ((Q 1), cL E 310 (s_swB a px py pb))]) (congrArg (fun z_ : Nat → Int64 => ([((Q 0), .inr (12, [vR (Q 1), vR (Q 2), vR (Q 3), vR (Q 4), vR (Q 5), vI pn, vR (Q 6), vL f0, vL f1, vL f2, vL f3, vL px, vL py, vL pb, vI rg, vI wr, vR (Q 7), vI rn, vR (Q 8), vI wn])), ((Q 1), .inl (E.2.1 1, 310, .inr (.inl z_)))] : va_W)) (show AL 310 (s_swB a px py pb) = AL 310 a from AL_c (fun k_ k0_ k1_ => by unfold s_swB; first | (rw [if_neg ‹¬ hldA a 4 px py pb = true›]; done) | (rw [if_pos ‹hldA a 4 px py pb = true›, if_neg ‹¬ hldA a 3 px py pb = true›]; done) | (rw [if_pos ‹hldA a 4 px py pb = true›, if_pos ‹hldA a 3 px py pb = true›, if_pos ⟨by omega, by omega⟩]; done) | (rw [if_pos ‹hldA a 4 px py pb = true›, if_pos ‹hldA a 3 px py pb = true›, if_neg (by omega)]; done)))) ?_
        exact g_vret C hr (Nat.le_of_ble_eq_true rfl) (Nat.le_of_ble_eq_true rfl) dX11_watchSwing_81 ⟨rfl, rfl⟩
      refine g_aload_n C 0 rfl dX11_watchSwing_49 rfl ?_
      refine g_get C 0 fd_X11_watchSwing_7 rfl rfl rfl dX11_watchSwing_50 rfl ?_
      refine g_bipush C (by decide) dX11_watchSwing_53 rfl ?_
      refine g_lald C 1 rfl (by decide) (by decide) (by decide) rfl dX11_watchSwing_55 rfl ?_
      refine g_aload_n C 0 rfl dX11_watchSwing_56 rfl ?_
      refine g_get C 0 fd_X11_watchSwing_7 rfl rfl rfl dX11_watchSwing_57 rfl ?_
      refine g_bipush C (by decide) dX11_watchSwing_60 rfl ?_
      refine g_lald C 1 rfl (by decide) (by decide) (by decide) rfl dX11_watchSwing_62 rfl ?_
      refine g_lcmp_lt C ⟨by omega, by omega⟩ ⟨by omega, by omega⟩ dX11_watchSwing_63 rfl (tgt := 81) dX11_watchSwing_64 (by decide) rfl (fun c_4 => ?_) (fun c_4 => ?_)
      · refine g_ws (ws' := [((Q 0), .inr (12, [vR (Q 1), vR (Q 2), vR (Q 3), vR (Q 4), vR (Q 5), vI pn, vR (Q 6), vL f0, vL f1, vL f2, vL f3, vL px, vL py, vL pb, vI rg, vI wr, vR (Q 7), vI rn, vR (Q 8), vI wn])), ((Q 1), cL E 310 (s_swB a px py pb))]) (congrArg (fun z_ : Nat → Int64 => ([((Q 0), .inr (12, [vR (Q 1), vR (Q 2), vR (Q 3), vR (Q 4), vR (Q 5), vI pn, vR (Q 6), vL f0, vL f1, vL f2, vL f3, vL px, vL py, vL pb, vI rg, vI wr, vR (Q 7), vI rn, vR (Q 8), vI wn])), ((Q 1), .inl (E.2.1 1, 310, .inr (.inl z_)))] : va_W)) (show AL 310 (s_swB a px py pb) = AL 310 a from AL_c (fun k_ k0_ k1_ => by unfold s_swB; first | (rw [if_neg ‹¬ hldA a 4 px py pb = true›]; done) | (rw [if_pos ‹hldA a 4 px py pb = true›, if_neg ‹¬ hldA a 3 px py pb = true›]; done) | (rw [if_pos ‹hldA a 4 px py pb = true›, if_pos ‹hldA a 3 px py pb = true›, if_pos ⟨by omega, by omega⟩]; done) | (rw [if_pos ‹hldA a 4 px py pb = true›, if_pos ‹hldA a 3 px py pb = true›, if_neg (by omega)]; done)))) ?_
        exact g_vret C hr (Nat.le_of_ble_eq_true rfl) (Nat.le_of_ble_eq_true rfl) dX11_watchSwing_81 ⟨rfl, rfl⟩
      refine g_aload_n C 0 rfl dX11_watchSwing_67 rfl ?_
      refine g_get C 0 fd_X11_watchSwing_7 rfl rfl rfl dX11_watchSwing_68 rfl ?_
      refine g_bipush C (by decide) dX11_watchSwing_71 rfl ?_
      refine g_lconst1 C dX11_watchSwing_73 rfl ?_
      refine g_last C 1 rfl (by decide) (by decide) (by decide) (ws' := [((Q 0), .inr (12, [vR (Q 1), vR (Q 2), vR (Q 3), vR (Q 4), vR (Q 5), vI pn, vR (Q 6), vL f0, vL f1, vL f2, vL f3, vL px, vL py, vL pb, vI rg, vI wr, vR (Q 7), vI rn, vR (Q 8), vI wn])), ((Q 1), cL E 310 (ua a 95 1))]) rfl dX11_watchSwing_74 rfl ?_
      refine g_aload_n C 0 rfl dX11_watchSwing_75 rfl ?_
      refine g_bipush C (by decide) dX11_watchSwing_76 rfl ?_
      refine g_callV C (b := (Q 0)) (As := [vI 40]) (wc := [((Q 0), .inr (12, [vR (Q 1), vR (Q 2), vR (Q 3), vR (Q 4), vR (Q 5), vI pn, vR (Q 6), vL f0, vL f1, vL f2, vL f3, vL px, vL py, vL pb, vI rg, vI wr, vR (Q 7), vI rn, vR (Q 8), vI wn])), ((Q 1), cL E 310 (ua a 95 1))]) (wr := []) (st := []) gX11_watchSwing_X11_note (q9 := 0) (ci := 12) rfl rfl rfl (K_m_note l E Q pn f0 f1 f2 f3 px py pb rg wr rn wn (ua a 95 1) 40 (by rw [ua_ne (by decide)]; exact h104) ⟨by decide, by decide⟩) hyd_X11_note rfl [0, 1] [] rfl rfl rfl rfl rfl (by decide) ⟨rfl, rfl⟩ ⟨Nat.le_of_ble_eq_true rfl, Nat.le_of_ble_eq_true rfl, Nat.le_of_ble_eq_true rfl, Nat.le_of_ble_eq_true rfl⟩ (Nat.le_of_ble_eq_true rfl) dX11_watchSwing_78 (rfl : _ = 0) (rfl : _ = 0) rfl ?_
      rintro _ _ ⟨rfl, rfl⟩
      refine g_is (ws' := [((Q 0), .inr (12, [vR (Q 1), vR (Q 2), vR (Q 3), vR (Q 4), vR (Q 5), vI pn, vR (Q 6), vL f0, vL f1, vL f2, vL f3, vL px, vL py, vL pb, vI rg, vI wr, vR (Q 7), vI rn, vR (Q 8), vI wn])), ((Q 1), cL E 310 (s_note 40 (ua a 95 1)))]) (st' := []) rfl rfl ?_
      refine g_ws (ws' := [((Q 0), .inr (12, [vR (Q 1), vR (Q 2), vR (Q 3), vR (Q 4), vR (Q 5), vI pn, vR (Q 6), vL f0, vL f1, vL f2, vL f3, vL px, vL py, vL pb, vI rg, vI wr, vR (Q 7), vI rn, vR (Q 8), vI wn])), ((Q 1), cL E 310 (s_swB a px py pb))]) (congrArg (fun z_ : Nat → Int64 => ([((Q 0), .inr (12, [vR (Q 1), vR (Q 2), vR (Q 3), vR (Q 4), vR (Q 5), vI pn, vR (Q 6), vL f0, vL f1, vL f2, vL f3, vL px, vL py, vL pb, vI rg, vI wr, vR (Q 7), vI rn, vR (Q 8), vI wn])), ((Q 1), .inl (E.2.1 1, 310, .inr (.inl z_)))] : va_W)) (show AL 310 (s_swB a px py pb) = AL 310 (s_note 40 (ua a 95 1)) from AL_c (fun k_ k0_ k1_ => by unfold s_swB; first | (rw [if_neg ‹¬ hldA a 4 px py pb = true›]; done) | (rw [if_pos ‹hldA a 4 px py pb = true›, if_neg ‹¬ hldA a 3 px py pb = true›]; done) | (rw [if_pos ‹hldA a 4 px py pb = true›, if_pos ‹hldA a 3 px py pb = true›, if_pos ⟨by omega, by omega⟩]; done) | (rw [if_pos ‹hldA a 4 px py pb = true›, if_pos ‹hldA a 3 px py pb = true›, if_neg (by omega)]; done)))) ?_
      exact g_vret C hr (Nat.le_of_ble_eq_true rfl) (Nat.le_of_ble_eq_true rfl) dX11_watchSwing_81 ⟨rfl, rfl⟩
    refine g_aload_n C 0 rfl dX11_watchSwing_23 rfl ?_
    refine g_get C 0 fd_X11_watchSwing_7 rfl rfl rfl dX11_watchSwing_24 rfl ?_
    refine g_bipush C (by decide) dX11_watchSwing_27 rfl ?_
    refine g_dup2 C rfl rfl dX11_watchSwing_29 rfl ?_
    refine g_lald C 1 rfl (by decide) (by decide) (by decide) rfl dX11_watchSwing_30 rfl ?_
    refine g_lconst1 C dX11_watchSwing_31 rfl ?_
    refine g_ladd C rfl dX11_watchSwing_32 rfl ?_
    refine g_last C 1 rfl (by decide) (by decide) (by decide) (ws' := [((Q 0), .inr (12, [vR (Q 1), vR (Q 2), vR (Q 3), vR (Q 4), vR (Q 5), vI pn, vR (Q 6), vL f0, vL f1, vL f2, vL f3, vL px, vL py, vL pb, vI rg, vI wr, vR (Q 7), vI rn, vR (Q 8), vI wn])), ((Q 1), cL E 310 (ua a 94 ((a 94) + 1)))]) rfl dX11_watchSwing_33 rfl ?_
    refine g_goto C (pc' := 81) dX11_watchSwing_34 (by decide) ?_
    refine g_ws (ws' := [((Q 0), .inr (12, [vR (Q 1), vR (Q 2), vR (Q 3), vR (Q 4), vR (Q 5), vI pn, vR (Q 6), vL f0, vL f1, vL f2, vL f3, vL px, vL py, vL pb, vI rg, vI wr, vR (Q 7), vI rn, vR (Q 8), vI wn])), ((Q 1), cL E 310 (s_swB a px py pb))]) (congrArg (fun z_ : Nat → Int64 => ([((Q 0), .inr (12, [vR (Q 1), vR (Q 2), vR (Q 3), vR (Q 4), vR (Q 5), vI pn, vR (Q 6), vL f0, vL f1, vL f2, vL f3, vL px, vL py, vL pb, vI rg, vI wr, vR (Q 7), vI rn, vR (Q 8), vI wn])), ((Q 1), .inl (E.2.1 1, 310, .inr (.inl z_)))] : va_W)) (show AL 310 (s_swB a px py pb) = AL 310 (ua a 94 ((a 94) + 1)) from AL_c (fun k_ k0_ k1_ => by unfold s_swB; first | (rw [if_neg ‹¬ hldA a 4 px py pb = true›]; done) | (rw [if_pos ‹hldA a 4 px py pb = true›, if_neg ‹¬ hldA a 3 px py pb = true›]; done) | (rw [if_pos ‹hldA a 4 px py pb = true›, if_pos ‹hldA a 3 px py pb = true›, if_pos ⟨by omega, by omega⟩]; done) | (rw [if_pos ‹hldA a 4 px py pb = true›, if_pos ‹hldA a 3 px py pb = true›, if_neg (by omega)]; done)))) ?_
    exact g_vret C hr (Nat.le_of_ble_eq_true rfl) (Nat.le_of_ble_eq_true rfl) dX11_watchSwing_81 ⟨rfl, rfl⟩
  refine g_aload_n C 0 rfl dX11_watchSwing_8 rfl ?_
  refine g_callV C (b := (Q 0)) (As := []) (wc := [((Q 0), .inr (12, [vR (Q 1), vR (Q 2), vR (Q 3), vR (Q 4), vR (Q 5), vI pn, vR (Q 6), vL f0, vL f1, vL f2, vL f3, vL px, vL py, vL pb, vI rg, vI wr, vR (Q 7), vI rn, vR (Q 8), vI wn])), ((Q 1), cL E 310 a)]) (wr := []) (st := []) gX11_watchSwing_X11_endSwing (q9 := 0) (ci := 12) rfl rfl rfl (K_m_endSwing l E Q pn f0 f1 f2 f3 px py pb rg wr rn wn a h104 h95) hyd_X11_endSwing rfl [0, 1] [] rfl rfl rfl rfl rfl (by decide) ⟨rfl, rfl⟩ ⟨Nat.le_of_ble_eq_true rfl, Nat.le_of_ble_eq_true rfl, Nat.le_of_ble_eq_true rfl, Nat.le_of_ble_eq_true rfl⟩ (Nat.le_of_ble_eq_true rfl) dX11_watchSwing_9 (rfl : _ = 0) (rfl : _ = 0) rfl ?_
  rintro _ _ ⟨rfl, rfl⟩
  refine g_is (ws' := [((Q 0), .inr (12, [vR (Q 1), vR (Q 2), vR (Q 3), vR (Q 4), vR (Q 5), vI pn, vR (Q 6), vL f0, vL f1, vL f2, vL f3, vL px, vL py, vL pb, vI rg, vI wr, vR (Q 7), vI rn, vR (Q 8), vI wn])), ((Q 1), cL E 310 (s_end a))]) (st' := []) rfl rfl ?_
  refine g_goto C (pc' := 81) dX11_watchSwing_12 (by decide) ?_
  refine g_ws (ws' := [((Q 0), .inr (12, [vR (Q 1), vR (Q 2), vR (Q 3), vR (Q 4), vR (Q 5), vI pn, vR (Q 6), vL f0, vL f1, vL f2, vL f3, vL px, vL py, vL pb, vI rg, vI wr, vR (Q 7), vI rn, vR (Q 8), vI wn])), ((Q 1), cL E 310 (s_swB a px py pb))]) (congrArg (fun z_ : Nat → Int64 => ([((Q 0), .inr (12, [vR (Q 1), vR (Q 2), vR (Q 3), vR (Q 4), vR (Q 5), vI pn, vR (Q 6), vL f0, vL f1, vL f2, vL f3, vL px, vL py, vL pb, vI rg, vI wr, vR (Q 7), vI rn, vR (Q 8), vI wn])), ((Q 1), .inl (E.2.1 1, 310, .inr (.inl z_)))] : va_W)) (show AL 310 (s_swB a px py pb) = AL 310 (s_end a) from AL_c (fun k_ k0_ k1_ => by unfold s_swB; first | (rw [if_neg ‹¬ hldA a 4 px py pb = true›]; done) | (rw [if_pos ‹hldA a 4 px py pb = true›, if_neg ‹¬ hldA a 3 px py pb = true›]; done) | (rw [if_pos ‹hldA a 4 px py pb = true›, if_pos ‹hldA a 3 px py pb = true›, if_pos ⟨by omega, by omega⟩]; done) | (rw [if_pos ‹hldA a 4 px py pb = true›, if_pos ‹hldA a 3 px py pb = true›, if_neg (by omega)]; done)))) ?_
  exact g_vret C hr (Nat.le_of_ble_eq_true rfl) (Nat.le_of_ble_eq_true rfl) dX11_watchSwing_81 ⟨rfl, rfl⟩

theorem in_X11_fitsWay_X11 : ∀ w ∈ u_ws RX11 TX11 20, w ∈ wsX11_fitsWay := by decide +kernel
theorem fd_X11_fitsWay_7 : fdk wsX11_fitsWay RX11 7 "ZoneRelayModel" RX11 TX11 20 0 := ⟨in_X11_fitsWay_X11, by decide +kernel, by decide, rfl⟩
theorem w_X11_fitsWay_k72 : Cond.constantLong RX11 72 (2) ∈ wsX11_fitsWay := by decide +kernel
abbrev rm_K_m_fits : Room := { frames := 0, cells := 0, slots := 0, locals := 0 }
set_option maxHeartbeats 8000000 in
set_option maxRecDepth 100000 in
theorem K_m_fits (l : Launch) (E : Ev) (Q : Nat → Nat) (pn f0 f1 f2 f3 px py pb rg wr rn wn : Int) (a : Int → Int) (z : Int) (hz : 0 ≤ z ∧ z ≤ 2) (e84 : -51000 ≤ a 84 ∧ a 84 ≤ 51000) (e85 : -51000 ≤ a 85 ∧ a 85 ≤ 51000) (e86 : -51000 ≤ a 86 ∧ a 86 ≤ 51000) (e87 : -51000 ≤ a 87 ∧ a 87 ≤ 51000) (e88 : -51000 ≤ a 88 ∧ a 88 ≤ 51000) (e89 : -51000 ≤ a 89 ∧ a 89 ≤ 51000) (h17 : 0 ≤ a 17 ∧ a 17 ≤ 20000) (h18 : 0 ≤ a 18 ∧ a 18 ≤ 20000) (h90 : 0 ≤ a 90 ∧ a 90 < 2000000000) (h23 : 0 ≤ a 23 ∧ a 23 ≤ 1000) (hw : 0 ≤ a (32 + z) ∧ a (32 + z) ≤ 2) : Mc l yX11_fitsWay wsX11_fitsWay rm_K_m_fits E [vR (Q 0), vI z] [((Q 0), .inr (12, [vR (Q 1), vR (Q 2), vR (Q 3), vR (Q 4), vR (Q 5), vI pn, vR (Q 6), vL f0, vL f1, vL f2, vL f3, vL px, vL py, vL pb, vI rg, vI wr, vR (Q 7), vI rn, vR (Q 8), vI wn])), ((Q 1), cL E 310 a)] 0 0 (fun v9 w9 => v9 = some (vI (bP (a (32 + z) = 2 ∨ (a (32 + z) = 0 ∧ 0 < trqA a) ∨ (¬ a (32 + z) = 0 ∧ trqA a < 0)))) ∧ w9 = [((Q 0), .inr (12, [vR (Q 1), vR (Q 2), vR (Q 3), vR (Q 4), vR (Q 5), vI pn, vR (Q 6), vL f0, vL f1, vL f2, vL f3, vL px, vL py, vL pb, vI rg, vI wr, vR (Q 7), vI rn, vR (Q 8), vI wn])), ((Q 1), cL E 310 a)]) := by
  refine Mc.intro (cc := cX11_fitsWay) (maxL := 13) (ret := (some .boolean)) (lv0 := [(0, vR (Q 0)), (1, vI z)]) (by decide +kernel) rfl rfl (Nat.le_of_ble_eq_true rfl) ?_
  intro p9 e9 s9 m9 args9 below9 meth9 c9 A9 C hr hmn
  have C : Cx p9 s9 m9 args9 meth9 c9 E A9 13 cX11_fitsWay wsX11_fitsWay RX11 := C
  refine g_aload_n C 0 rfl dX11_fitsWay_0 rfl ?_
  refine g_get C 0 fd_X11_fitsWay_7 rfl rfl rfl dX11_fitsWay_1 rfl ?_
  refine g_bipush C (by decide) dX11_fitsWay_4 rfl ?_
  refine g_lald C 1 rfl (by decide) (by decide) (by decide) rfl dX11_fitsWay_6 rfl ?_
  refine g_aload_n C 0 rfl dX11_fitsWay_7 rfl ?_
  refine g_get C 0 fd_X11_fitsWay_7 rfl rfl rfl dX11_fitsWay_8 rfl ?_
  refine g_bipush C (by decide) dX11_fitsWay_11 rfl ?_
  refine g_lald C 1 rfl (by decide) (by decide) (by decide) rfl dX11_fitsWay_13 rfl ?_
  refine g_lcmp_le C ⟨by omega, by omega⟩ ⟨by omega, by omega⟩ dX11_fitsWay_14 rfl (tgt := 22) dX11_fitsWay_15 (by decide) rfl (fun c_1 => ?_) (fun c_1 => ?_)
  · refine g_iconst C dX11_fitsWay_22 rfl ?_
    refine g_istore_n C (lv' := [(0, vR (Q 0)), (1, vI z), (2, vI 0)]) [1, 2, 0] (by decide) rfl rfl dX11_fitsWay_23 rfl ?_
    refine g_iload_n C 2 rfl dX11_fitsWay_24 rfl ?_
    refine g_if_eq C (tgt := 38) ⟨by decide, by decide⟩ dX11_fitsWay_25 (by decide) rfl (fun c_2 => ?_) (fun c_2 => ?_)
    · refine g_aload_n C 0 rfl dX11_fitsWay_38 rfl ?_
      refine g_get C 0 fd_X11_fitsWay_7 rfl rfl rfl dX11_fitsWay_39 rfl ?_
      refine g_bipush C (by decide) dX11_fitsWay_42 rfl ?_
      refine g_lald C 1 rfl (by decide) (by decide) (by decide) rfl dX11_fitsWay_44 rfl ?_
      refine g_lstore_n C (lv' := [(0, vR (Q 0)), (1, vI z), (2, vI 0), (3, vL (a 88))]) [1, 2, 3, 0] (by decide) rfl rfl dX11_fitsWay_45 rfl ?_
      refine g_iload_n C 2 rfl dX11_fitsWay_46 rfl ?_
      refine g_if_eq C (tgt := 60) ⟨by decide, by decide⟩ dX11_fitsWay_47 (by decide) rfl (fun c_3 => ?_) (fun c_3 => ?_)
      · refine g_aload_n C 0 rfl dX11_fitsWay_60 rfl ?_
        refine g_get C 0 fd_X11_fitsWay_7 rfl rfl rfl dX11_fitsWay_61 rfl ?_
        refine g_bipush C (by decide) dX11_fitsWay_64 rfl ?_
        refine g_lald C 1 rfl (by decide) (by decide) (by decide) rfl dX11_fitsWay_66 rfl ?_
        refine g_lstore C (lv' := [(0, vR (Q 0)), (1, vI z), (2, vI 0), (3, vL (a 88)), (5, vL (a 89))]) [1, 2, 3, 4, 0] (by decide) rfl rfl dX11_fitsWay_67 rfl ?_
        refine g_aload_n C 0 rfl dX11_fitsWay_69 rfl ?_
        refine g_get C 0 fd_X11_fitsWay_7 rfl rfl rfl dX11_fitsWay_70 rfl ?_
        refine g_bipush C (by decide) dX11_fitsWay_73 rfl ?_
        refine g_lald C 1 rfl (by decide) (by decide) (by decide) rfl dX11_fitsWay_75 rfl ?_
        refine g_lstore C (lv' := [(0, vR (Q 0)), (1, vI z), (2, vI 0), (3, vL (a 88)), (5, vL (a 89)), (7, vL (a 86))]) [1, 2, 3, 4, 5, 0] (by decide) rfl rfl dX11_fitsWay_76 rfl ?_
        refine g_aload_n C 0 rfl dX11_fitsWay_78 rfl ?_
        refine g_get C 0 fd_X11_fitsWay_7 rfl rfl rfl dX11_fitsWay_79 rfl ?_
        refine g_bipush C (by decide) dX11_fitsWay_82 rfl ?_
        refine g_lald C 1 rfl (by decide) (by decide) (by decide) rfl dX11_fitsWay_84 rfl ?_
        refine g_lstore C (lv' := [(0, vR (Q 0)), (1, vI z), (2, vI 0), (3, vL (a 88)), (5, vL (a 89)), (7, vL (a 86)), (9, vL (a 87))]) [1, 2, 3, 4, 5, 6, 0] (by decide) rfl rfl dX11_fitsWay_85 rfl ?_
        refine g_aload_n C 0 rfl dX11_fitsWay_87 rfl ?_
        refine g_get C 0 fd_X11_fitsWay_7 rfl rfl rfl dX11_fitsWay_88 rfl ?_
        refine g_bipush C (by decide) dX11_fitsWay_91 rfl ?_
        refine g_lald C 1 rfl (by decide) (by decide) (by decide) rfl dX11_fitsWay_93 rfl ?_
        refine g_lload_n C 3 rfl dX11_fitsWay_94 rfl ?_
        refine g_lload C 5 rfl dX11_fitsWay_95 rfl ?_
        refine g_lmul C rfl dX11_fitsWay_97 rfl ?_
        refine g_lload C 4 rfl dX11_fitsWay_98 rfl ?_
        refine g_lload C 6 rfl dX11_fitsWay_100 rfl ?_
        refine g_lmul C rfl dX11_fitsWay_102 rfl ?_
        refine g_ladd C rfl dX11_fitsWay_103 rfl ?_
        refine g_lmul C rfl dX11_fitsWay_104 rfl ?_
        refine g_aload_n C 0 rfl dX11_fitsWay_105 rfl ?_
        refine g_get C 0 fd_X11_fitsWay_7 rfl rfl rfl dX11_fitsWay_106 rfl ?_
        refine g_bipush C (by decide) dX11_fitsWay_109 rfl ?_
        refine g_lald C 1 rfl (by decide) (by decide) (by decide) rfl dX11_fitsWay_111 rfl ?_
        refine g_lload C 4 rfl dX11_fitsWay_112 rfl ?_
        refine g_lload C 5 rfl dX11_fitsWay_114 rfl ?_
        refine g_lmul C rfl dX11_fitsWay_116 rfl ?_
        refine g_lload_n C 3 rfl dX11_fitsWay_117 rfl ?_
        refine g_lload C 6 rfl dX11_fitsWay_118 rfl ?_
        refine g_lmul C rfl dX11_fitsWay_120 rfl ?_
        refine g_lsub C rfl dX11_fitsWay_121 rfl ?_
        refine g_lmul C rfl dX11_fitsWay_122 rfl ?_
        refine g_ladd C rfl dX11_fitsWay_123 rfl ?_
        refine g_top (v' := vL (trqA a)) (congrArg (fun z_ : Int => vL z_) (show (trqA a) = (((a 17) * (((a 88) * (a 86)) + ((a 89) * (a 87)))) + ((a 18) * (((a 89) * (a 86)) - ((a 88) * (a 87))))) by unfold trqA trq pol; first | (rw [if_pos (by omega), if_pos (by omega)]; done) | (rw [if_neg (by omega), if_neg (by omega)]; done))) ?_
        have tq : bl (trqA a) := trq_b (by omega) (by omega) (pol_b e88 e84) (pol_b e89 e85) e86 e87
        refine g_lstore C (lv' := [(0, vR (Q 0)), (1, vI z), (2, vI 0), (3, vL (a 88)), (5, vL (a 89)), (7, vL (a 86)), (9, vL (a 87)), (11, vL (trqA a))]) [1, 2, 3, 4, 5, 6, 7, 0] (by decide) rfl rfl dX11_fitsWay_124 rfl ?_
        refine g_aload_n C 0 rfl dX11_fitsWay_126 rfl ?_
        refine g_get C 0 fd_X11_fitsWay_7 rfl rfl rfl dX11_fitsWay_127 rfl ?_
        refine g_bipush C (by decide) dX11_fitsWay_130 rfl ?_
        refine g_iload_n C 1 rfl dX11_fitsWay_132 rfl ?_
        refine g_iadd C rfl dX11_fitsWay_133 rfl ?_
        refine g_lald C 1 rfl (by omega) (by omega) (by decide) rfl dX11_fitsWay_134 rfl ?_
        refine g_ldc2 C (x := 2) w_X11_fitsWay_k72 (by decide) dX11_fitsWay_135 rfl ?_
        refine g_lcmp_eq C ⟨by omega, by omega⟩ ⟨by decide, by decide⟩ dX11_fitsWay_138 rfl (tgt := 173) dX11_fitsWay_139 (by decide) rfl (fun c_4 => ?_) (fun c_4 => ?_)
        · refine g_iconst C dX11_fitsWay_173 rfl ?_
          refine g_goto C (pc' := 178) dX11_fitsWay_174 (by decide) ?_
          refine g_top (v' := vI (bP (a (32 + z) = 2 ∨ (a (32 + z) = 0 ∧ 0 < trqA a) ∨ (¬ a (32 + z) = 0 ∧ trqA a < 0)))) (congrArg (fun z_ : Int => vI z_) (show (bP (a (32 + z) = 2 ∨ (a (32 + z) = 0 ∧ 0 < trqA a) ∨ (¬ a (32 + z) = 0 ∧ trqA a < 0))) = 1 by first | exact bP_t (by first | assumption | omega) | exact bP_f (by first | assumption | omega))) ?_
          exact g_iret C hr (nrZ _) (Nat.le_of_ble_eq_true rfl) (Nat.le_of_ble_eq_true rfl) dX11_fitsWay_178 ⟨rfl, rfl⟩
        refine g_aload_n C 0 rfl dX11_fitsWay_142 rfl ?_
        refine g_get C 0 fd_X11_fitsWay_7 rfl rfl rfl dX11_fitsWay_143 rfl ?_
        refine g_bipush C (by decide) dX11_fitsWay_146 rfl ?_
        refine g_iload_n C 1 rfl dX11_fitsWay_148 rfl ?_
        refine g_iadd C rfl dX11_fitsWay_149 rfl ?_
        refine g_lald C 1 rfl (by omega) (by omega) (by decide) rfl dX11_fitsWay_150 rfl ?_
        refine g_lconst0 C dX11_fitsWay_151 rfl ?_
        refine g_lcmp_ne C ⟨by omega, by omega⟩ ⟨by decide, by decide⟩ dX11_fitsWay_152 rfl (tgt := 166) dX11_fitsWay_153 (by decide) rfl (fun c_5 => ?_) (fun c_5 => ?_)
        · refine g_lload C 7 rfl dX11_fitsWay_166 rfl ?_
          refine g_lconst0 C dX11_fitsWay_168 rfl ?_
          refine g_lcmp_ge C (tq) ⟨by decide, by decide⟩ dX11_fitsWay_169 rfl (tgt := 177) dX11_fitsWay_170 (by decide) rfl (fun c_6 => ?_) (fun c_6 => ?_)
          · refine g_iconst C dX11_fitsWay_177 rfl ?_
            refine g_top (v' := vI (bP (a (32 + z) = 2 ∨ (a (32 + z) = 0 ∧ 0 < trqA a) ∨ (¬ a (32 + z) = 0 ∧ trqA a < 0)))) (congrArg (fun z_ : Int => vI z_) (show (bP (a (32 + z) = 2 ∨ (a (32 + z) = 0 ∧ 0 < trqA a) ∨ (¬ a (32 + z) = 0 ∧ trqA a < 0))) = 0 by first | exact bP_t (by first | assumption | omega) | exact bP_f (by first | assumption | omega))) ?_
            exact g_iret C hr (nrZ _) (Nat.le_of_ble_eq_true rfl) (Nat.le_of_ble_eq_true rfl) dX11_fitsWay_178 ⟨rfl, rfl⟩
          refine g_iconst C dX11_fitsWay_173 rfl ?_
          refine g_goto C (pc' := 178) dX11_fitsWay_174 (by decide) ?_
          refine g_top (v' := vI (bP (a (32 + z) = 2 ∨ (a (32 + z) = 0 ∧ 0 < trqA a) ∨ (¬ a (32 + z) = 0 ∧ trqA a < 0)))) (congrArg (fun z_ : Int => vI z_) (show (bP (a (32 + z) = 2 ∨ (a (32 + z) = 0 ∧ 0 < trqA a) ∨ (¬ a (32 + z) = 0 ∧ trqA a < 0))) = 1 by first | exact bP_t (by first | assumption | omega) | exact bP_f (by first | assumption | omega))) ?_
          exact g_iret C hr (nrZ _) (Nat.le_of_ble_eq_true rfl) (Nat.le_of_ble_eq_true rfl) dX11_fitsWay_178 ⟨rfl, rfl⟩
        refine g_lload C 7 rfl dX11_fitsWay_156 rfl ?_
        refine g_lconst0 C dX11_fitsWay_158 rfl ?_
        refine g_lcmp_le C (tq) ⟨by decide, by decide⟩ dX11_fitsWay_159 rfl (tgt := 177) dX11_fitsWay_160 (by decide) rfl (fun c_7 => ?_) (fun c_7 => ?_)
        · refine g_iconst C dX11_fitsWay_177 rfl ?_
          refine g_top (v' := vI (bP (a (32 + z) = 2 ∨ (a (32 + z) = 0 ∧ 0 < trqA a) ∨ (¬ a (32 + z) = 0 ∧ trqA a < 0)))) (congrArg (fun z_ : Int => vI z_) (show (bP (a (32 + z) = 2 ∨ (a (32 + z) = 0 ∧ 0 < trqA a) ∨ (¬ a (32 + z) = 0 ∧ trqA a < 0))) = 0 by first | exact bP_t (by first | assumption | omega) | exact bP_f (by first | assumption | omega))) ?_
          exact g_iret C hr (nrZ _) (Nat.le_of_ble_eq_true rfl) (Nat.le_of_ble_eq_true rfl) dX11_fitsWay_178 ⟨rfl, rfl⟩
        refine g_goto C (pc' := 173) dX11_fitsWay_163 (by decide) ?_
        refine g_iconst C dX11_fitsWay_173 rfl ?_
        refine g_goto C (pc' := 178) dX11_fitsWay_174 (by decide) ?_
        refine g_top (v' := vI (bP (a (32 + z) = 2 ∨ (a (32 + z) = 0 ∧ 0 < trqA a) ∨ (¬ a (32 + z) = 0 ∧ trqA a < 0)))) (congrArg (fun z_ : Int => vI z_) (show (bP (a (32 + z) = 2 ∨ (a (32 + z) = 0 ∧ 0 < trqA a) ∨ (¬ a (32 + z) = 0 ∧ trqA a < 0))) = 1 by first | exact bP_t (by first | assumption | omega) | exact bP_f (by first | assumption | omega))) ?_
        exact g_iret C hr (nrZ _) (Nat.le_of_ble_eq_true rfl) (Nat.le_of_ble_eq_true rfl) dX11_fitsWay_178 ⟨rfl, rfl⟩
      exact absurd c_3 (by decide)
    exact absurd c_2 (by decide)
  refine g_iconst C dX11_fitsWay_18 rfl ?_
  refine g_goto C (pc' := 23) dX11_fitsWay_19 (by decide) ?_
  refine g_istore_n C (lv' := [(0, vR (Q 0)), (1, vI z), (2, vI 1)]) [1, 2, 0] (by decide) rfl rfl dX11_fitsWay_23 rfl ?_
  refine g_iload_n C 2 rfl dX11_fitsWay_24 rfl ?_
  refine g_if_eq C (tgt := 38) ⟨by decide, by decide⟩ dX11_fitsWay_25 (by decide) rfl (fun c_8 => ?_) (fun c_8 => ?_)
  · exact absurd c_8 (by decide)
  refine g_aload_n C 0 rfl dX11_fitsWay_28 rfl ?_
  refine g_get C 0 fd_X11_fitsWay_7 rfl rfl rfl dX11_fitsWay_29 rfl ?_
  refine g_bipush C (by decide) dX11_fitsWay_32 rfl ?_
  refine g_lald C 1 rfl (by decide) (by decide) (by decide) rfl dX11_fitsWay_34 rfl ?_
  refine g_goto C (pc' := 45) dX11_fitsWay_35 (by decide) ?_
  refine g_lstore_n C (lv' := [(0, vR (Q 0)), (1, vI z), (2, vI 1), (3, vL (a 84))]) [1, 2, 3, 0] (by decide) rfl rfl dX11_fitsWay_45 rfl ?_
  refine g_iload_n C 2 rfl dX11_fitsWay_46 rfl ?_
  refine g_if_eq C (tgt := 60) ⟨by decide, by decide⟩ dX11_fitsWay_47 (by decide) rfl (fun c_9 => ?_) (fun c_9 => ?_)
  · exact absurd c_9 (by decide)
  refine g_aload_n C 0 rfl dX11_fitsWay_50 rfl ?_
  refine g_get C 0 fd_X11_fitsWay_7 rfl rfl rfl dX11_fitsWay_51 rfl ?_
  refine g_bipush C (by decide) dX11_fitsWay_54 rfl ?_
  refine g_lald C 1 rfl (by decide) (by decide) (by decide) rfl dX11_fitsWay_56 rfl ?_
  refine g_goto C (pc' := 67) dX11_fitsWay_57 (by decide) ?_
  refine g_lstore C (lv' := [(0, vR (Q 0)), (1, vI z), (2, vI 1), (3, vL (a 84)), (5, vL (a 85))]) [1, 2, 3, 4, 0] (by decide) rfl rfl dX11_fitsWay_67 rfl ?_
  refine g_aload_n C 0 rfl dX11_fitsWay_69 rfl ?_
  refine g_get C 0 fd_X11_fitsWay_7 rfl rfl rfl dX11_fitsWay_70 rfl ?_
  refine g_bipush C (by decide) dX11_fitsWay_73 rfl ?_
  refine g_lald C 1 rfl (by decide) (by decide) (by decide) rfl dX11_fitsWay_75 rfl ?_
  refine g_lstore C (lv' := [(0, vR (Q 0)), (1, vI z), (2, vI 1), (3, vL (a 84)), (5, vL (a 85)), (7, vL (a 86))]) [1, 2, 3, 4, 5, 0] (by decide) rfl rfl dX11_fitsWay_76 rfl ?_
  refine g_aload_n C 0 rfl dX11_fitsWay_78 rfl ?_
  refine g_get C 0 fd_X11_fitsWay_7 rfl rfl rfl dX11_fitsWay_79 rfl ?_
  refine g_bipush C (by decide) dX11_fitsWay_82 rfl ?_
  refine g_lald C 1 rfl (by decide) (by decide) (by decide) rfl dX11_fitsWay_84 rfl ?_
  refine g_lstore C (lv' := [(0, vR (Q 0)), (1, vI z), (2, vI 1), (3, vL (a 84)), (5, vL (a 85)), (7, vL (a 86)), (9, vL (a 87))]) [1, 2, 3, 4, 5, 6, 0] (by decide) rfl rfl dX11_fitsWay_85 rfl ?_
  refine g_aload_n C 0 rfl dX11_fitsWay_87 rfl ?_
  refine g_get C 0 fd_X11_fitsWay_7 rfl rfl rfl dX11_fitsWay_88 rfl ?_
  refine g_bipush C (by decide) dX11_fitsWay_91 rfl ?_
  refine g_lald C 1 rfl (by decide) (by decide) (by decide) rfl dX11_fitsWay_93 rfl ?_
  refine g_lload_n C 3 rfl dX11_fitsWay_94 rfl ?_
  refine g_lload C 5 rfl dX11_fitsWay_95 rfl ?_
  refine g_lmul C rfl dX11_fitsWay_97 rfl ?_
  refine g_lload C 4 rfl dX11_fitsWay_98 rfl ?_
  refine g_lload C 6 rfl dX11_fitsWay_100 rfl ?_
  refine g_lmul C rfl dX11_fitsWay_102 rfl ?_
  refine g_ladd C rfl dX11_fitsWay_103 rfl ?_
  refine g_lmul C rfl dX11_fitsWay_104 rfl ?_
  refine g_aload_n C 0 rfl dX11_fitsWay_105 rfl ?_
  refine g_get C 0 fd_X11_fitsWay_7 rfl rfl rfl dX11_fitsWay_106 rfl ?_
  refine g_bipush C (by decide) dX11_fitsWay_109 rfl ?_
  refine g_lald C 1 rfl (by decide) (by decide) (by decide) rfl dX11_fitsWay_111 rfl ?_
  refine g_lload C 4 rfl dX11_fitsWay_112 rfl ?_
  refine g_lload C 5 rfl dX11_fitsWay_114 rfl ?_
  refine g_lmul C rfl dX11_fitsWay_116 rfl ?_
  refine g_lload_n C 3 rfl dX11_fitsWay_117 rfl ?_
  refine g_lload C 6 rfl dX11_fitsWay_118 rfl ?_
  refine g_lmul C rfl dX11_fitsWay_120 rfl ?_
  refine g_lsub C rfl dX11_fitsWay_121 rfl ?_
  refine g_lmul C rfl dX11_fitsWay_122 rfl ?_
  refine g_ladd C rfl dX11_fitsWay_123 rfl ?_
  refine g_top (v' := vL (trqA a)) (congrArg (fun z_ : Int => vL z_) (show (trqA a) = (((a 17) * (((a 84) * (a 86)) + ((a 85) * (a 87)))) + ((a 18) * (((a 85) * (a 86)) - ((a 84) * (a 87))))) by unfold trqA trq pol; first | (rw [if_pos (by omega), if_pos (by omega)]; done) | (rw [if_neg (by omega), if_neg (by omega)]; done))) ?_
  have tq : bl (trqA a) := trq_b (by omega) (by omega) (pol_b e88 e84) (pol_b e89 e85) e86 e87
  refine g_lstore C (lv' := [(0, vR (Q 0)), (1, vI z), (2, vI 1), (3, vL (a 84)), (5, vL (a 85)), (7, vL (a 86)), (9, vL (a 87)), (11, vL (trqA a))]) [1, 2, 3, 4, 5, 6, 7, 0] (by decide) rfl rfl dX11_fitsWay_124 rfl ?_
  refine g_aload_n C 0 rfl dX11_fitsWay_126 rfl ?_
  refine g_get C 0 fd_X11_fitsWay_7 rfl rfl rfl dX11_fitsWay_127 rfl ?_
  refine g_bipush C (by decide) dX11_fitsWay_130 rfl ?_
  refine g_iload_n C 1 rfl dX11_fitsWay_132 rfl ?_
  refine g_iadd C rfl dX11_fitsWay_133 rfl ?_
  refine g_lald C 1 rfl (by omega) (by omega) (by decide) rfl dX11_fitsWay_134 rfl ?_
  refine g_ldc2 C (x := 2) w_X11_fitsWay_k72 (by decide) dX11_fitsWay_135 rfl ?_
  refine g_lcmp_eq C ⟨by omega, by omega⟩ ⟨by decide, by decide⟩ dX11_fitsWay_138 rfl (tgt := 173) dX11_fitsWay_139 (by decide) rfl (fun c_10 => ?_) (fun c_10 => ?_)
  · refine g_iconst C dX11_fitsWay_173 rfl ?_
    refine g_goto C (pc' := 178) dX11_fitsWay_174 (by decide) ?_
    refine g_top (v' := vI (bP (a (32 + z) = 2 ∨ (a (32 + z) = 0 ∧ 0 < trqA a) ∨ (¬ a (32 + z) = 0 ∧ trqA a < 0)))) (congrArg (fun z_ : Int => vI z_) (show (bP (a (32 + z) = 2 ∨ (a (32 + z) = 0 ∧ 0 < trqA a) ∨ (¬ a (32 + z) = 0 ∧ trqA a < 0))) = 1 by first | exact bP_t (by first | assumption | omega) | exact bP_f (by first | assumption | omega))) ?_
    exact g_iret C hr (nrZ _) (Nat.le_of_ble_eq_true rfl) (Nat.le_of_ble_eq_true rfl) dX11_fitsWay_178 ⟨rfl, rfl⟩
  refine g_aload_n C 0 rfl dX11_fitsWay_142 rfl ?_
  refine g_get C 0 fd_X11_fitsWay_7 rfl rfl rfl dX11_fitsWay_143 rfl ?_
  refine g_bipush C (by decide) dX11_fitsWay_146 rfl ?_
  refine g_iload_n C 1 rfl dX11_fitsWay_148 rfl ?_
  refine g_iadd C rfl dX11_fitsWay_149 rfl ?_
  refine g_lald C 1 rfl (by omega) (by omega) (by decide) rfl dX11_fitsWay_150 rfl ?_
  refine g_lconst0 C dX11_fitsWay_151 rfl ?_
  refine g_lcmp_ne C ⟨by omega, by omega⟩ ⟨by decide, by decide⟩ dX11_fitsWay_152 rfl (tgt := 166) dX11_fitsWay_153 (by decide) rfl (fun c_11 => ?_) (fun c_11 => ?_)
  · refine g_lload C 7 rfl dX11_fitsWay_166 rfl ?_
    refine g_lconst0 C dX11_fitsWay_168 rfl ?_
    refine g_lcmp_ge C (tq) ⟨by decide, by decide⟩ dX11_fitsWay_169 rfl (tgt := 177) dX11_fitsWay_170 (by decide) rfl (fun c_12 => ?_) (fun c_12 => ?_)
    · refine g_iconst C dX11_fitsWay_177 rfl ?_
      refine g_top (v' := vI (bP (a (32 + z) = 2 ∨ (a (32 + z) = 0 ∧ 0 < trqA a) ∨ (¬ a (32 + z) = 0 ∧ trqA a < 0)))) (congrArg (fun z_ : Int => vI z_) (show (bP (a (32 + z) = 2 ∨ (a (32 + z) = 0 ∧ 0 < trqA a) ∨ (¬ a (32 + z) = 0 ∧ trqA a < 0))) = 0 by first | exact bP_t (by first | assumption | omega) | exact bP_f (by first | assumption | omega))) ?_
      exact g_iret C hr (nrZ _) (Nat.le_of_ble_eq_true rfl) (Nat.le_of_ble_eq_true rfl) dX11_fitsWay_178 ⟨rfl, rfl⟩
    refine g_iconst C dX11_fitsWay_173 rfl ?_
    refine g_goto C (pc' := 178) dX11_fitsWay_174 (by decide) ?_
    refine g_top (v' := vI (bP (a (32 + z) = 2 ∨ (a (32 + z) = 0 ∧ 0 < trqA a) ∨ (¬ a (32 + z) = 0 ∧ trqA a < 0)))) (congrArg (fun z_ : Int => vI z_) (show (bP (a (32 + z) = 2 ∨ (a (32 + z) = 0 ∧ 0 < trqA a) ∨ (¬ a (32 + z) = 0 ∧ trqA a < 0))) = 1 by first | exact bP_t (by first | assumption | omega) | exact bP_f (by first | assumption | omega))) ?_
    exact g_iret C hr (nrZ _) (Nat.le_of_ble_eq_true rfl) (Nat.le_of_ble_eq_true rfl) dX11_fitsWay_178 ⟨rfl, rfl⟩
  refine g_lload C 7 rfl dX11_fitsWay_156 rfl ?_
  refine g_lconst0 C dX11_fitsWay_158 rfl ?_
  refine g_lcmp_le C (tq) ⟨by decide, by decide⟩ dX11_fitsWay_159 rfl (tgt := 177) dX11_fitsWay_160 (by decide) rfl (fun c_13 => ?_) (fun c_13 => ?_)
  · refine g_iconst C dX11_fitsWay_177 rfl ?_
    refine g_top (v' := vI (bP (a (32 + z) = 2 ∨ (a (32 + z) = 0 ∧ 0 < trqA a) ∨ (¬ a (32 + z) = 0 ∧ trqA a < 0)))) (congrArg (fun z_ : Int => vI z_) (show (bP (a (32 + z) = 2 ∨ (a (32 + z) = 0 ∧ 0 < trqA a) ∨ (¬ a (32 + z) = 0 ∧ trqA a < 0))) = 0 by first | exact bP_t (by first | assumption | omega) | exact bP_f (by first | assumption | omega))) ?_
    exact g_iret C hr (nrZ _) (Nat.le_of_ble_eq_true rfl) (Nat.le_of_ble_eq_true rfl) dX11_fitsWay_178 ⟨rfl, rfl⟩
  refine g_goto C (pc' := 173) dX11_fitsWay_163 (by decide) ?_
  refine g_iconst C dX11_fitsWay_173 rfl ?_
  refine g_goto C (pc' := 178) dX11_fitsWay_174 (by decide) ?_
  refine g_top (v' := vI (bP (a (32 + z) = 2 ∨ (a (32 + z) = 0 ∧ 0 < trqA a) ∨ (¬ a (32 + z) = 0 ∧ trqA a < 0)))) (congrArg (fun z_ : Int => vI z_) (show (bP (a (32 + z) = 2 ∨ (a (32 + z) = 0 ∧ 0 < trqA a) ∨ (¬ a (32 + z) = 0 ∧ trqA a < 0))) = 1 by first | exact bP_t (by first | assumption | omega) | exact bP_f (by first | assumption | omega))) ?_
  exact g_iret C hr (nrZ _) (Nat.le_of_ble_eq_true rfl) (Nat.le_of_ble_eq_true rfl) dX11_fitsWay_178 ⟨rfl, rfl⟩

theorem in_X11_has_X11 : ∀ w ∈ u_ws RX11 TX11 20, w ∈ wsX11_has := by decide +kernel
theorem fd_X11_has_7 : fdk wsX11_has RX11 7 "ZoneRelayModel" RX11 TX11 20 0 := ⟨in_X11_has_X11, by decide +kernel, by decide, rfl⟩
abbrev rm_K_m_has5 : Room := { frames := 0, cells := 0, slots := 0, locals := 0 }
set_option maxHeartbeats 8000000 in
set_option maxRecDepth 100000 in
theorem K_m_has5 (l : Launch) (E : Ev) (Q : Nat → Nat) (pn f0 f1 f2 f3 px py pb rg wr rn wn : Int) (a : Int → Int) (z : Int) (hz : 0 ≤ z ∧ z ≤ 2) (h7 : 0 ≤ a 26 ∧ a 26 ≤ 7) : Mc l yX11_has wsX11_has rm_K_m_has5 E [vR (Q 0), vI 5, vI z] [((Q 0), .inr (12, [vR (Q 1), vR (Q 2), vR (Q 3), vR (Q 4), vR (Q 5), vI pn, vR (Q 6), vL f0, vL f1, vL f2, vL f3, vL px, vL py, vL pb, vI rg, vI wr, vR (Q 7), vI rn, vR (Q 8), vI wn])), ((Q 1), cL E 310 a)] 0 0 (fun v9 w9 => v9 = some (vI (bP (bt (a 26) z = 1))) ∧ w9 = [((Q 0), .inr (12, [vR (Q 1), vR (Q 2), vR (Q 3), vR (Q 4), vR (Q 5), vI pn, vR (Q 6), vL f0, vL f1, vL f2, vL f3, vL px, vL py, vL pb, vI rg, vI wr, vR (Q 7), vI rn, vR (Q 8), vI wn])), ((Q 1), cL E 310 a)]) := by
  refine Mc.intro (cc := cX11_has) (maxL := 3) (ret := (some .boolean)) (lv0 := [(0, vR (Q 0)), (1, vI 5), (2, vI z)]) (by decide +kernel) rfl rfl (Nat.le_of_ble_eq_true rfl) ?_
  intro p9 e9 s9 m9 args9 below9 meth9 c9 A9 C hr hmn
  have C : Cx p9 s9 m9 args9 meth9 c9 E A9 3 cX11_has wsX11_has RX11 := C
  refine g_aload_n C 0 rfl dX11_has_0 rfl ?_
  refine g_get C 0 fd_X11_has_7 rfl rfl rfl dX11_has_1 rfl ?_
  refine g_bipush C (by decide) dX11_has_4 rfl ?_
  refine g_iload_n C 1 rfl dX11_has_6 rfl ?_
  refine g_iadd C (r := 26) (by decide) dX11_has_7 rfl ?_
  refine g_lald C 1 rfl (by decide) (by decide) (by decide) rfl dX11_has_8 rfl ?_
  refine g_iload_n C 2 rfl dX11_has_9 rfl ?_
  refine g_lshr C (z := I64 (shrI (a 26) z)) (lshr_I h7 hz) dX11_has_10 rfl ?_
  refine g_lconst1 C dX11_has_11 rfl ?_
  refine g_land C (z := I64 (bt (a 26) z)) (land_I h7 hz) dX11_has_12 rfl ?_
  have hb : 0 ≤ bt (a 26) z ∧ bt (a 26) z ≤ 1 := by unfold bt; omega
  refine g_lconst1 C dX11_has_13 rfl ?_
  refine g_lcmp_ne C ⟨by omega, by omega⟩ ⟨by decide, by decide⟩ dX11_has_14 rfl (tgt := 22) dX11_has_15 (by decide) rfl (fun c_1 => ?_) (fun c_1 => ?_)
  · refine g_iconst C dX11_has_22 rfl ?_
    refine g_top (v' := vI (bP (bt (a 26) z = 1))) (congrArg (fun z_ : Int => vI z_) (show (bP (bt (a 26) z = 1)) = 0 by first | exact bP_t (by first | assumption | omega) | exact bP_f (by first | assumption | omega))) ?_
    exact g_iret C hr (nrZ _) (Nat.le_of_ble_eq_true rfl) (Nat.le_of_ble_eq_true rfl) dX11_has_23 ⟨rfl, rfl⟩
  refine g_iconst C dX11_has_18 rfl ?_
  refine g_goto C (pc' := 23) dX11_has_19 (by decide) ?_
  refine g_top (v' := vI (bP (bt (a 26) z = 1))) (congrArg (fun z_ : Int => vI z_) (show (bP (bt (a 26) z = 1)) = 1 by first | exact bP_t (by first | assumption | omega) | exact bP_f (by first | assumption | omega))) ?_
  exact g_iret C hr (nrZ _) (Nat.le_of_ble_eq_true rfl) (Nat.le_of_ble_eq_true rfl) dX11_has_23 ⟨rfl, rfl⟩

abbrev rm_K_m_has7 : Room := { frames := 0, cells := 0, slots := 0, locals := 0 }
set_option maxHeartbeats 8000000 in
set_option maxRecDepth 100000 in
theorem K_m_has7 (l : Launch) (E : Ev) (Q : Nat → Nat) (pn f0 f1 f2 f3 px py pb rg wr rn wn : Int) (a : Int → Int) (z : Int) (hz : 0 ≤ z ∧ z ≤ 2) (h7 : 0 ≤ a 28 ∧ a 28 ≤ 7) : Mc l yX11_has wsX11_has rm_K_m_has7 E [vR (Q 0), vI 7, vI z] [((Q 0), .inr (12, [vR (Q 1), vR (Q 2), vR (Q 3), vR (Q 4), vR (Q 5), vI pn, vR (Q 6), vL f0, vL f1, vL f2, vL f3, vL px, vL py, vL pb, vI rg, vI wr, vR (Q 7), vI rn, vR (Q 8), vI wn])), ((Q 1), cL E 310 a)] 0 0 (fun v9 w9 => v9 = some (vI (bP (bt (a 28) z = 1))) ∧ w9 = [((Q 0), .inr (12, [vR (Q 1), vR (Q 2), vR (Q 3), vR (Q 4), vR (Q 5), vI pn, vR (Q 6), vL f0, vL f1, vL f2, vL f3, vL px, vL py, vL pb, vI rg, vI wr, vR (Q 7), vI rn, vR (Q 8), vI wn])), ((Q 1), cL E 310 a)]) := by
  refine Mc.intro (cc := cX11_has) (maxL := 3) (ret := (some .boolean)) (lv0 := [(0, vR (Q 0)), (1, vI 7), (2, vI z)]) (by decide +kernel) rfl rfl (Nat.le_of_ble_eq_true rfl) ?_
  intro p9 e9 s9 m9 args9 below9 meth9 c9 A9 C hr hmn
  have C : Cx p9 s9 m9 args9 meth9 c9 E A9 3 cX11_has wsX11_has RX11 := C
  refine g_aload_n C 0 rfl dX11_has_0 rfl ?_
  refine g_get C 0 fd_X11_has_7 rfl rfl rfl dX11_has_1 rfl ?_
  refine g_bipush C (by decide) dX11_has_4 rfl ?_
  refine g_iload_n C 1 rfl dX11_has_6 rfl ?_
  refine g_iadd C (r := 28) (by decide) dX11_has_7 rfl ?_
  refine g_lald C 1 rfl (by decide) (by decide) (by decide) rfl dX11_has_8 rfl ?_
  refine g_iload_n C 2 rfl dX11_has_9 rfl ?_
  refine g_lshr C (z := I64 (shrI (a 28) z)) (lshr_I h7 hz) dX11_has_10 rfl ?_
  refine g_lconst1 C dX11_has_11 rfl ?_
  refine g_land C (z := I64 (bt (a 28) z)) (land_I h7 hz) dX11_has_12 rfl ?_
  have hb : 0 ≤ bt (a 28) z ∧ bt (a 28) z ≤ 1 := by unfold bt; omega
  refine g_lconst1 C dX11_has_13 rfl ?_
  refine g_lcmp_ne C ⟨by omega, by omega⟩ ⟨by decide, by decide⟩ dX11_has_14 rfl (tgt := 22) dX11_has_15 (by decide) rfl (fun c_1 => ?_) (fun c_1 => ?_)
  · refine g_iconst C dX11_has_22 rfl ?_
    refine g_top (v' := vI (bP (bt (a 28) z = 1))) (congrArg (fun z_ : Int => vI z_) (show (bP (bt (a 28) z = 1)) = 0 by first | exact bP_t (by first | assumption | omega) | exact bP_f (by first | assumption | omega))) ?_
    exact g_iret C hr (nrZ _) (Nat.le_of_ble_eq_true rfl) (Nat.le_of_ble_eq_true rfl) dX11_has_23 ⟨rfl, rfl⟩
  refine g_iconst C dX11_has_18 rfl ?_
  refine g_goto C (pc' := 23) dX11_has_19 (by decide) ?_
  refine g_top (v' := vI (bP (bt (a 28) z = 1))) (congrArg (fun z_ : Int => vI z_) (show (bP (bt (a 28) z = 1)) = 1 by first | exact bP_t (by first | assumption | omega) | exact bP_f (by first | assumption | omega))) ?_
  exact g_iret C hr (nrZ _) (Nat.le_of_ble_eq_true rfl) (Nat.le_of_ble_eq_true rfl) dX11_has_23 ⟨rfl, rfl⟩

theorem in_X11_picksUp_X11 : ∀ w ∈ u_ws RX11 TX11 20, w ∈ wsX11_picksUp := by decide +kernel
theorem fd_X11_picksUp_7 : fdk wsX11_picksUp RX11 7 "ZoneRelayModel" RX11 TX11 20 0 := ⟨in_X11_picksUp_X11, by decide +kernel, by decide, rfl⟩
theorem hyd_X11_fitsWay : yX11_fitsWay.cls ≠ "java/lang/invoke/MethodHandle" ∧ yX11_fitsWay.cls ≠ "java/lang/invoke/VarHandle" ∧ (parseMethodDescriptor yX11_fitsWay.desc).map (fun d => d.parameters.length) = some 1 := by decide +kernel
theorem hyd_X11_has : yX11_has.cls ≠ "java/lang/invoke/MethodHandle" ∧ yX11_has.cls ≠ "java/lang/invoke/VarHandle" ∧ (parseMethodDescriptor yX11_has.desc).map (fun d => d.parameters.length) = some 2 := by decide +kernel
abbrev rm_K_m_picks : Room := { frames := 6, cells := 0, slots := 0, locals := 160 }
set_option maxHeartbeats 8000000 in
set_option maxRecDepth 100000 in
theorem K_m_picks (l : Launch) (E : Ev) (Q : Nat → Nat) (pn f0 f1 f2 f3 px py pb rg wr rn wn : Int) (a : Int → Int) (z : Int) (hz : 0 ≤ z ∧ z ≤ 2) (hpn : ∀ p : Int, 0 ≤ p → p < 5 → 0 ≤ a (225 + 17 * p) ∧ a (225 + 17 * p) ≤ 8) (hpc : ∀ p k : Int, 0 ≤ p → p < 5 → 0 ≤ k → k < 8 → cb (sh2 a (226 + 17 * p) k) ∧ cb (sh2 a (227 + 17 * p) k)) (hx : -5300000000000 ≤ px ∧ px ≤ 5300000000000) (hy : -5300000000000 ≤ py ∧ py ≤ 5300000000000) (hd : 0 ≤ pb ∧ pb ≤ 5210000000) (e84 : -51000 ≤ a 84 ∧ a 84 ≤ 51000) (e85 : -51000 ≤ a 85 ∧ a 85 ≤ 51000) (e86 : -51000 ≤ a 86 ∧ a 86 ≤ 51000) (e87 : -51000 ≤ a 87 ∧ a 87 ≤ 51000) (e88 : -51000 ≤ a 88 ∧ a 88 ≤ 51000) (e89 : -51000 ≤ a 89 ∧ a 89 ≤ 51000) (h17 : 0 ≤ a 17 ∧ a 17 ≤ 20000) (h18 : 0 ≤ a 18 ∧ a 18 ≤ 20000) (h90 : 0 ≤ a 90 ∧ a 90 < 2000000000) (h23 : 0 ≤ a 23 ∧ a 23 ≤ 1000) (hw : 0 ≤ a (32 + z) ∧ a (32 + z) ≤ 2) (h95 : a 95 = 0 ∨ a 95 = 1) (h96 : a 96 = 0 ∨ a 96 = 1) (h91 : a 91 = 0 ∨ a 91 = 1) (h28 : 0 ≤ a 28 ∧ a 28 ≤ 7) (h26 : 0 ≤ a 26 ∧ a 26 ≤ 7) : Mc l yX11_picksUp wsX11_picksUp rm_K_m_picks E [vR (Q 0), vI z] [((Q 0), .inr (12, [vR (Q 1), vR (Q 2), vR (Q 3), vR (Q 4), vR (Q 5), vI pn, vR (Q 6), vL f0, vL f1, vL f2, vL f3, vL px, vL py, vL pb, vI rg, vI wr, vR (Q 7), vI rn, vR (Q 8), vI wn])), ((Q 1), cL E 310 a)] 0 0 (fun v9 w9 => v9 = some (vI (pkR a z px py pb)) ∧ w9 = [((Q 0), .inr (12, [vR (Q 1), vR (Q 2), vR (Q 3), vR (Q 4), vR (Q 5), vI pn, vR (Q 6), vL f0, vL f1, vL f2, vL f3, vL px, vL py, vL pb, vI rg, vI wr, vR (Q 7), vI rn, vR (Q 8), vI wn])), ((Q 1), cL E 310 a)]) := by
  refine Mc.intro (cc := cX11_picksUp) (maxL := 4) (ret := (some .boolean)) (lv0 := [(0, vR (Q 0)), (1, vI z)]) (by decide +kernel) rfl rfl (Nat.le_of_ble_eq_true rfl) ?_
  intro p9 e9 s9 m9 args9 below9 meth9 c9 A9 C hr hmn
  have C : Cx p9 s9 m9 args9 meth9 c9 E A9 4 cX11_picksUp wsX11_picksUp RX11 := C
  refine g_aload_n C 0 rfl dX11_picksUp_0 rfl ?_
  refine g_get C 0 fd_X11_picksUp_7 rfl rfl rfl dX11_picksUp_1 rfl ?_
  refine g_bipush C (by decide) dX11_picksUp_4 rfl ?_
  refine g_lald C 1 rfl (by decide) (by decide) (by decide) rfl dX11_picksUp_6 rfl ?_
  refine g_lconst0 C dX11_picksUp_7 rfl ?_
  refine g_lcmp_eq C ⟨by omega, by omega⟩ ⟨by decide, by decide⟩ dX11_picksUp_8 rfl (tgt := 22) dX11_picksUp_9 (by decide) rfl (fun c_1 => ?_) (fun c_1 => ?_)
  · refine g_iconst C dX11_picksUp_22 rfl ?_
    refine g_goto C (pc' := 27) dX11_picksUp_23 (by decide) ?_
    refine g_istore_n C (lv' := [(0, vR (Q 0)), (1, vI z), (2, vI 1)]) [1, 2, 0] (by decide) rfl rfl dX11_picksUp_27 rfl ?_
    refine g_aload_n C 0 rfl dX11_picksUp_28 rfl ?_
    refine g_get C 0 fd_X11_picksUp_7 rfl rfl rfl dX11_picksUp_29 rfl ?_
    refine g_bipush C (by decide) dX11_picksUp_32 rfl ?_
    refine g_lald C 1 rfl (by decide) (by decide) (by decide) rfl dX11_picksUp_34 rfl ?_
    refine g_lconst0 C dX11_picksUp_35 rfl ?_
    refine g_lcmp_eq C ⟨by omega, by omega⟩ ⟨by decide, by decide⟩ dX11_picksUp_36 rfl (tgt := 49) dX11_picksUp_37 (by decide) rfl (fun c_2 => ?_) (fun c_2 => ?_)
    · refine g_iconst C dX11_picksUp_49 rfl ?_
      refine g_goto C (pc' := 54) dX11_picksUp_50 (by decide) ?_
      refine g_istore_n C (lv' := [(0, vR (Q 0)), (1, vI z), (2, vI 1), (3, vI 1)]) [1, 2, 3, 0] (by decide) rfl rfl dX11_picksUp_54 rfl ?_
      refine g_aload_n C 0 rfl dX11_picksUp_55 rfl ?_
      refine g_get C 0 fd_X11_picksUp_7 rfl rfl rfl dX11_picksUp_56 rfl ?_
      refine g_bipush C (by decide) dX11_picksUp_59 rfl ?_
      refine g_lald C 1 rfl (by decide) (by decide) (by decide) rfl dX11_picksUp_61 rfl ?_
      refine g_lconst1 C dX11_picksUp_62 rfl ?_
      refine g_lcmp_ne C ⟨by omega, by omega⟩ ⟨by decide, by decide⟩ dX11_picksUp_63 rfl (tgt := 95) dX11_picksUp_64 (by decide) rfl (fun c_3 => ?_) (fun c_3 => ?_)
      · refine g_iconst C dX11_picksUp_95 rfl ?_
        refine g_top (v' := vI (pkR a z px py pb)) (congrArg (fun z_ : Int => vI z_) (show (pkR a z px py pb) = 0 by unfold pkR pkv; first | (rw [if_pos ⟨by assumption, by omega, by omega, by assumption⟩]; done) | (rw [if_neg (fun q => absurd q.1 (by assumption))]; done) | (rw [if_neg (fun q => absurd q.2.2.2 (by assumption))]; done) | (rw [if_neg (fun q => by have q1 := q.2.1; have q2 := q.2.2.1; omega)]; done))) ?_
        exact g_iret C hr (nrZi (pkv_r _ _ _ _ _ _ _ _ _)) (Nat.le_of_ble_eq_true rfl) (Nat.le_of_ble_eq_true rfl) dX11_picksUp_96 ⟨rfl, rfl⟩
      refine g_iload_n C 2 rfl dX11_picksUp_67 rfl ?_
      refine g_if_eq C (tgt := 95) ⟨by decide, by decide⟩ dX11_picksUp_68 (by decide) rfl (fun c_4 => ?_) (fun c_4 => ?_)
      · exact absurd c_4 (by decide)
      refine g_iload_n C 3 rfl dX11_picksUp_71 rfl ?_
      refine g_if_eq C (tgt := 95) ⟨by decide, by decide⟩ dX11_picksUp_72 (by decide) rfl (fun c_5 => ?_) (fun c_5 => ?_)
      · exact absurd c_5 (by decide)
      refine g_aload_n C 0 rfl dX11_picksUp_75 rfl ?_
      refine g_iload_n C 1 rfl dX11_picksUp_76 rfl ?_
      refine g_callV C (b := (Q 0)) (As := [vI z]) (wc := [((Q 0), .inr (12, [vR (Q 1), vR (Q 2), vR (Q 3), vR (Q 4), vR (Q 5), vI pn, vR (Q 6), vL f0, vL f1, vL f2, vL f3, vL px, vL py, vL pb, vI rg, vI wr, vR (Q 7), vI rn, vR (Q 8), vI wn])), ((Q 1), cL E 310 a)]) (wr := []) (st := []) gX11_picksUp_X11_isInside (q9 := 0) (ci := 12) rfl rfl rfl (K_m_inside l E Q pn f0 f1 f2 f3 px py pb rg wr rn wn a z ⟨by omega, by omega⟩ (by first | assumption | omega) (by first | assumption | omega) hx hy hd) hyd_X11_isInside rfl [0, 1] [] rfl rfl rfl rfl rfl (by decide) ⟨rfl, rfl⟩ ⟨Nat.le_of_ble_eq_true rfl, Nat.le_of_ble_eq_true rfl, Nat.le_of_ble_eq_true rfl, Nat.le_of_ble_eq_true rfl⟩ (Nat.le_of_ble_eq_true rfl) dX11_picksUp_77 (rfl : _ = 0) (rfl : _ = 0) rfl ?_
      rintro _ _ ⟨rfl, rfl⟩
      refine g_is (ws' := [((Q 0), .inr (12, [vR (Q 1), vR (Q 2), vR (Q 3), vR (Q 4), vR (Q 5), vI pn, vR (Q 6), vL f0, vL f1, vL f2, vL f3, vL px, vL py, vL pb, vI rg, vI wr, vR (Q 7), vI rn, vR (Q 8), vI wn])), ((Q 1), cL E 310 a)]) (st' := [vI (bP (hldA a z px py pb = true))]) rfl rfl ?_
      refine g_ifb_eq C (tgt := 95) dX11_picksUp_80 (by decide) rfl (fun c_6 => ?_) (fun c_6 => ?_)
      · refine g_iconst C dX11_picksUp_95 rfl ?_
        refine g_top (v' := vI (pkR a z px py pb)) (congrArg (fun z_ : Int => vI z_) (show (pkR a z px py pb) = 0 by unfold pkR pkv; first | (rw [if_pos ⟨by assumption, by omega, by omega, by assumption⟩]; done) | (rw [if_neg (fun q => absurd q.1 (by assumption))]; done) | (rw [if_neg (fun q => absurd q.2.2.2 (by assumption))]; done) | (rw [if_neg (fun q => by have q1 := q.2.1; have q2 := q.2.2.1; omega)]; done))) ?_
        exact g_iret C hr (nrZi (pkv_r _ _ _ _ _ _ _ _ _)) (Nat.le_of_ble_eq_true rfl) (Nat.le_of_ble_eq_true rfl) dX11_picksUp_96 ⟨rfl, rfl⟩
      refine g_aload_n C 0 rfl dX11_picksUp_83 rfl ?_
      refine g_iload_n C 1 rfl dX11_picksUp_84 rfl ?_
      refine g_callV C (b := (Q 0)) (As := [vI z]) (wc := [((Q 0), .inr (12, [vR (Q 1), vR (Q 2), vR (Q 3), vR (Q 4), vR (Q 5), vI pn, vR (Q 6), vL f0, vL f1, vL f2, vL f3, vL px, vL py, vL pb, vI rg, vI wr, vR (Q 7), vI rn, vR (Q 8), vI wn])), ((Q 1), cL E 310 a)]) (wr := []) (st := []) gX11_picksUp_X11_fitsWay (q9 := 0) (ci := 12) rfl rfl rfl (K_m_fits l E Q pn f0 f1 f2 f3 px py pb rg wr rn wn a z hz e84 e85 e86 e87 e88 e89 h17 h18 h90 h23 hw) hyd_X11_fitsWay rfl [0, 1] [] rfl rfl rfl rfl rfl (by decide) ⟨rfl, rfl⟩ ⟨Nat.le_of_ble_eq_true rfl, Nat.le_of_ble_eq_true rfl, Nat.le_of_ble_eq_true rfl, Nat.le_of_ble_eq_true rfl⟩ (Nat.le_of_ble_eq_true rfl) dX11_picksUp_85 (rfl : _ = 0) (rfl : _ = 0) rfl ?_
      rintro _ _ ⟨rfl, rfl⟩
      refine g_is (ws' := [((Q 0), .inr (12, [vR (Q 1), vR (Q 2), vR (Q 3), vR (Q 4), vR (Q 5), vI pn, vR (Q 6), vL f0, vL f1, vL f2, vL f3, vL px, vL py, vL pb, vI rg, vI wr, vR (Q 7), vI rn, vR (Q 8), vI wn])), ((Q 1), cL E 310 a)]) (st' := [vI (bP (a (32 + z) = 2 ∨ (a (32 + z) = 0 ∧ 0 < trqA a) ∨ (¬ a (32 + z) = 0 ∧ trqA a < 0)))]) rfl rfl ?_
      refine g_ifb_eq C (tgt := 95) dX11_picksUp_88 (by decide) rfl (fun c_7 => ?_) (fun c_7 => ?_)
      · refine g_iconst C dX11_picksUp_95 rfl ?_
        refine g_top (v' := vI (pkR a z px py pb)) (congrArg (fun z_ : Int => vI z_) (show (pkR a z px py pb) = 0 by unfold pkR pkv; first | (rw [if_pos ⟨by assumption, by omega, by omega, by assumption⟩]; done) | (rw [if_neg (fun q => absurd q.1 (by assumption))]; done) | (rw [if_neg (fun q => absurd q.2.2.2 (by assumption))]; done) | (rw [if_neg (fun q => by have q1 := q.2.1; have q2 := q.2.2.1; omega)]; done))) ?_
        exact g_iret C hr (nrZi (pkv_r _ _ _ _ _ _ _ _ _)) (Nat.le_of_ble_eq_true rfl) (Nat.le_of_ble_eq_true rfl) dX11_picksUp_96 ⟨rfl, rfl⟩
      refine g_iconst C dX11_picksUp_91 rfl ?_
      refine g_goto C (pc' := 96) dX11_picksUp_92 (by decide) ?_
      refine g_top (v' := vI (pkR a z px py pb)) (congrArg (fun z_ : Int => vI z_) (show (pkR a z px py pb) = 1 by unfold pkR pkv; first | (rw [if_pos ⟨by assumption, by omega, by omega, by assumption⟩]; done) | (rw [if_neg (fun q => absurd q.1 (by assumption))]; done) | (rw [if_neg (fun q => absurd q.2.2.2 (by assumption))]; done) | (rw [if_neg (fun q => by have q1 := q.2.1; have q2 := q.2.2.1; omega)]; done))) ?_
      exact g_iret C hr (nrZi (pkv_r _ _ _ _ _ _ _ _ _)) (Nat.le_of_ble_eq_true rfl) (Nat.le_of_ble_eq_true rfl) dX11_picksUp_96 ⟨rfl, rfl⟩
    refine g_aload_n C 0 rfl dX11_picksUp_40 rfl ?_
    refine g_iconst C dX11_picksUp_41 rfl ?_
    refine g_iload_n C 1 rfl dX11_picksUp_42 rfl ?_
    refine g_callV C (b := (Q 0)) (As := [vI 5, vI z]) (wc := [((Q 0), .inr (12, [vR (Q 1), vR (Q 2), vR (Q 3), vR (Q 4), vR (Q 5), vI pn, vR (Q 6), vL f0, vL f1, vL f2, vL f3, vL px, vL py, vL pb, vI rg, vI wr, vR (Q 7), vI rn, vR (Q 8), vI wn])), ((Q 1), cL E 310 a)]) (wr := []) (st := []) gX11_picksUp_X11_has (q9 := 0) (ci := 12) rfl rfl rfl (K_m_has5 l E Q pn f0 f1 f2 f3 px py pb rg wr rn wn a z hz h26) hyd_X11_has rfl [0, 1] [] rfl rfl rfl rfl rfl (by decide) ⟨rfl, rfl⟩ ⟨Nat.le_of_ble_eq_true rfl, Nat.le_of_ble_eq_true rfl, Nat.le_of_ble_eq_true rfl, Nat.le_of_ble_eq_true rfl⟩ (Nat.le_of_ble_eq_true rfl) dX11_picksUp_43 (rfl : _ = 0) (rfl : _ = 0) rfl ?_
    rintro _ _ ⟨rfl, rfl⟩
    refine g_is (ws' := [((Q 0), .inr (12, [vR (Q 1), vR (Q 2), vR (Q 3), vR (Q 4), vR (Q 5), vI pn, vR (Q 6), vL f0, vL f1, vL f2, vL f3, vL px, vL py, vL pb, vI rg, vI wr, vR (Q 7), vI rn, vR (Q 8), vI wn])), ((Q 1), cL E 310 a)]) (st' := [vI (bP (bt (a 26) z = 1))]) rfl rfl ?_
    refine g_ifb_ne C (tgt := 53) dX11_picksUp_46 (by decide) rfl (fun c_8 => ?_) (fun c_8 => ?_)
    · refine g_iconst C dX11_picksUp_53 rfl ?_
      refine g_istore_n C (lv' := [(0, vR (Q 0)), (1, vI z), (2, vI 1), (3, vI 0)]) [1, 2, 3, 0] (by decide) rfl rfl dX11_picksUp_54 rfl ?_
      refine g_aload_n C 0 rfl dX11_picksUp_55 rfl ?_
      refine g_get C 0 fd_X11_picksUp_7 rfl rfl rfl dX11_picksUp_56 rfl ?_
      refine g_bipush C (by decide) dX11_picksUp_59 rfl ?_
      refine g_lald C 1 rfl (by decide) (by decide) (by decide) rfl dX11_picksUp_61 rfl ?_
      refine g_lconst1 C dX11_picksUp_62 rfl ?_
      refine g_lcmp_ne C ⟨by omega, by omega⟩ ⟨by decide, by decide⟩ dX11_picksUp_63 rfl (tgt := 95) dX11_picksUp_64 (by decide) rfl (fun c_9 => ?_) (fun c_9 => ?_)
      · refine g_iconst C dX11_picksUp_95 rfl ?_
        refine g_top (v' := vI (pkR a z px py pb)) (congrArg (fun z_ : Int => vI z_) (show (pkR a z px py pb) = 0 by unfold pkR pkv; first | (rw [if_pos ⟨by assumption, by omega, by omega, by assumption⟩]; done) | (rw [if_neg (fun q => absurd q.1 (by assumption))]; done) | (rw [if_neg (fun q => absurd q.2.2.2 (by assumption))]; done) | (rw [if_neg (fun q => by have q1 := q.2.1; have q2 := q.2.2.1; omega)]; done))) ?_
        exact g_iret C hr (nrZi (pkv_r _ _ _ _ _ _ _ _ _)) (Nat.le_of_ble_eq_true rfl) (Nat.le_of_ble_eq_true rfl) dX11_picksUp_96 ⟨rfl, rfl⟩
      refine g_iload_n C 2 rfl dX11_picksUp_67 rfl ?_
      refine g_if_eq C (tgt := 95) ⟨by decide, by decide⟩ dX11_picksUp_68 (by decide) rfl (fun c_10 => ?_) (fun c_10 => ?_)
      · exact absurd c_10 (by decide)
      refine g_iload_n C 3 rfl dX11_picksUp_71 rfl ?_
      refine g_if_eq C (tgt := 95) ⟨by decide, by decide⟩ dX11_picksUp_72 (by decide) rfl (fun c_11 => ?_) (fun c_11 => ?_)
      · refine g_iconst C dX11_picksUp_95 rfl ?_
        refine g_top (v' := vI (pkR a z px py pb)) (congrArg (fun z_ : Int => vI z_) (show (pkR a z px py pb) = 0 by unfold pkR pkv; first | (rw [if_pos ⟨by assumption, by omega, by omega, by assumption⟩]; done) | (rw [if_neg (fun q => absurd q.1 (by assumption))]; done) | (rw [if_neg (fun q => absurd q.2.2.2 (by assumption))]; done) | (rw [if_neg (fun q => by have q1 := q.2.1; have q2 := q.2.2.1; omega)]; done))) ?_
        exact g_iret C hr (nrZi (pkv_r _ _ _ _ _ _ _ _ _)) (Nat.le_of_ble_eq_true rfl) (Nat.le_of_ble_eq_true rfl) dX11_picksUp_96 ⟨rfl, rfl⟩
      exact absurd c_11 (by decide)
    refine g_iconst C dX11_picksUp_49 rfl ?_
    refine g_goto C (pc' := 54) dX11_picksUp_50 (by decide) ?_
    refine g_istore_n C (lv' := [(0, vR (Q 0)), (1, vI z), (2, vI 1), (3, vI 1)]) [1, 2, 3, 0] (by decide) rfl rfl dX11_picksUp_54 rfl ?_
    refine g_aload_n C 0 rfl dX11_picksUp_55 rfl ?_
    refine g_get C 0 fd_X11_picksUp_7 rfl rfl rfl dX11_picksUp_56 rfl ?_
    refine g_bipush C (by decide) dX11_picksUp_59 rfl ?_
    refine g_lald C 1 rfl (by decide) (by decide) (by decide) rfl dX11_picksUp_61 rfl ?_
    refine g_lconst1 C dX11_picksUp_62 rfl ?_
    refine g_lcmp_ne C ⟨by omega, by omega⟩ ⟨by decide, by decide⟩ dX11_picksUp_63 rfl (tgt := 95) dX11_picksUp_64 (by decide) rfl (fun c_12 => ?_) (fun c_12 => ?_)
    · refine g_iconst C dX11_picksUp_95 rfl ?_
      refine g_top (v' := vI (pkR a z px py pb)) (congrArg (fun z_ : Int => vI z_) (show (pkR a z px py pb) = 0 by unfold pkR pkv; first | (rw [if_pos ⟨by assumption, by omega, by omega, by assumption⟩]; done) | (rw [if_neg (fun q => absurd q.1 (by assumption))]; done) | (rw [if_neg (fun q => absurd q.2.2.2 (by assumption))]; done) | (rw [if_neg (fun q => by have q1 := q.2.1; have q2 := q.2.2.1; omega)]; done))) ?_
      exact g_iret C hr (nrZi (pkv_r _ _ _ _ _ _ _ _ _)) (Nat.le_of_ble_eq_true rfl) (Nat.le_of_ble_eq_true rfl) dX11_picksUp_96 ⟨rfl, rfl⟩
    refine g_iload_n C 2 rfl dX11_picksUp_67 rfl ?_
    refine g_if_eq C (tgt := 95) ⟨by decide, by decide⟩ dX11_picksUp_68 (by decide) rfl (fun c_13 => ?_) (fun c_13 => ?_)
    · exact absurd c_13 (by decide)
    refine g_iload_n C 3 rfl dX11_picksUp_71 rfl ?_
    refine g_if_eq C (tgt := 95) ⟨by decide, by decide⟩ dX11_picksUp_72 (by decide) rfl (fun c_14 => ?_) (fun c_14 => ?_)
    · exact absurd c_14 (by decide)
    refine g_aload_n C 0 rfl dX11_picksUp_75 rfl ?_
    refine g_iload_n C 1 rfl dX11_picksUp_76 rfl ?_
    refine g_callV C (b := (Q 0)) (As := [vI z]) (wc := [((Q 0), .inr (12, [vR (Q 1), vR (Q 2), vR (Q 3), vR (Q 4), vR (Q 5), vI pn, vR (Q 6), vL f0, vL f1, vL f2, vL f3, vL px, vL py, vL pb, vI rg, vI wr, vR (Q 7), vI rn, vR (Q 8), vI wn])), ((Q 1), cL E 310 a)]) (wr := []) (st := []) gX11_picksUp_X11_isInside (q9 := 0) (ci := 12) rfl rfl rfl (K_m_inside l E Q pn f0 f1 f2 f3 px py pb rg wr rn wn a z ⟨by omega, by omega⟩ (by first | assumption | omega) (by first | assumption | omega) hx hy hd) hyd_X11_isInside rfl [0, 1] [] rfl rfl rfl rfl rfl (by decide) ⟨rfl, rfl⟩ ⟨Nat.le_of_ble_eq_true rfl, Nat.le_of_ble_eq_true rfl, Nat.le_of_ble_eq_true rfl, Nat.le_of_ble_eq_true rfl⟩ (Nat.le_of_ble_eq_true rfl) dX11_picksUp_77 (rfl : _ = 0) (rfl : _ = 0) rfl ?_
    rintro _ _ ⟨rfl, rfl⟩
    refine g_is (ws' := [((Q 0), .inr (12, [vR (Q 1), vR (Q 2), vR (Q 3), vR (Q 4), vR (Q 5), vI pn, vR (Q 6), vL f0, vL f1, vL f2, vL f3, vL px, vL py, vL pb, vI rg, vI wr, vR (Q 7), vI rn, vR (Q 8), vI wn])), ((Q 1), cL E 310 a)]) (st' := [vI (bP (hldA a z px py pb = true))]) rfl rfl ?_
    refine g_ifb_eq C (tgt := 95) dX11_picksUp_80 (by decide) rfl (fun c_15 => ?_) (fun c_15 => ?_)
    · refine g_iconst C dX11_picksUp_95 rfl ?_
      refine g_top (v' := vI (pkR a z px py pb)) (congrArg (fun z_ : Int => vI z_) (show (pkR a z px py pb) = 0 by unfold pkR pkv; first | (rw [if_pos ⟨by assumption, by omega, by omega, by assumption⟩]; done) | (rw [if_neg (fun q => absurd q.1 (by assumption))]; done) | (rw [if_neg (fun q => absurd q.2.2.2 (by assumption))]; done) | (rw [if_neg (fun q => by have q1 := q.2.1; have q2 := q.2.2.1; omega)]; done))) ?_
      exact g_iret C hr (nrZi (pkv_r _ _ _ _ _ _ _ _ _)) (Nat.le_of_ble_eq_true rfl) (Nat.le_of_ble_eq_true rfl) dX11_picksUp_96 ⟨rfl, rfl⟩
    refine g_aload_n C 0 rfl dX11_picksUp_83 rfl ?_
    refine g_iload_n C 1 rfl dX11_picksUp_84 rfl ?_
    refine g_callV C (b := (Q 0)) (As := [vI z]) (wc := [((Q 0), .inr (12, [vR (Q 1), vR (Q 2), vR (Q 3), vR (Q 4), vR (Q 5), vI pn, vR (Q 6), vL f0, vL f1, vL f2, vL f3, vL px, vL py, vL pb, vI rg, vI wr, vR (Q 7), vI rn, vR (Q 8), vI wn])), ((Q 1), cL E 310 a)]) (wr := []) (st := []) gX11_picksUp_X11_fitsWay (q9 := 0) (ci := 12) rfl rfl rfl (K_m_fits l E Q pn f0 f1 f2 f3 px py pb rg wr rn wn a z hz e84 e85 e86 e87 e88 e89 h17 h18 h90 h23 hw) hyd_X11_fitsWay rfl [0, 1] [] rfl rfl rfl rfl rfl (by decide) ⟨rfl, rfl⟩ ⟨Nat.le_of_ble_eq_true rfl, Nat.le_of_ble_eq_true rfl, Nat.le_of_ble_eq_true rfl, Nat.le_of_ble_eq_true rfl⟩ (Nat.le_of_ble_eq_true rfl) dX11_picksUp_85 (rfl : _ = 0) (rfl : _ = 0) rfl ?_
    rintro _ _ ⟨rfl, rfl⟩
    refine g_is (ws' := [((Q 0), .inr (12, [vR (Q 1), vR (Q 2), vR (Q 3), vR (Q 4), vR (Q 5), vI pn, vR (Q 6), vL f0, vL f1, vL f2, vL f3, vL px, vL py, vL pb, vI rg, vI wr, vR (Q 7), vI rn, vR (Q 8), vI wn])), ((Q 1), cL E 310 a)]) (st' := [vI (bP (a (32 + z) = 2 ∨ (a (32 + z) = 0 ∧ 0 < trqA a) ∨ (¬ a (32 + z) = 0 ∧ trqA a < 0)))]) rfl rfl ?_
    refine g_ifb_eq C (tgt := 95) dX11_picksUp_88 (by decide) rfl (fun c_16 => ?_) (fun c_16 => ?_)
    · refine g_iconst C dX11_picksUp_95 rfl ?_
      refine g_top (v' := vI (pkR a z px py pb)) (congrArg (fun z_ : Int => vI z_) (show (pkR a z px py pb) = 0 by unfold pkR pkv; first | (rw [if_pos ⟨by assumption, by omega, by omega, by assumption⟩]; done) | (rw [if_neg (fun q => absurd q.1 (by assumption))]; done) | (rw [if_neg (fun q => absurd q.2.2.2 (by assumption))]; done) | (rw [if_neg (fun q => by have q1 := q.2.1; have q2 := q.2.2.1; omega)]; done))) ?_
      exact g_iret C hr (nrZi (pkv_r _ _ _ _ _ _ _ _ _)) (Nat.le_of_ble_eq_true rfl) (Nat.le_of_ble_eq_true rfl) dX11_picksUp_96 ⟨rfl, rfl⟩
    refine g_iconst C dX11_picksUp_91 rfl ?_
    refine g_goto C (pc' := 96) dX11_picksUp_92 (by decide) ?_
    refine g_top (v' := vI (pkR a z px py pb)) (congrArg (fun z_ : Int => vI z_) (show (pkR a z px py pb) = 1 by unfold pkR pkv; first | (rw [if_pos ⟨by assumption, by omega, by omega, by assumption⟩]; done) | (rw [if_neg (fun q => absurd q.1 (by assumption))]; done) | (rw [if_neg (fun q => absurd q.2.2.2 (by assumption))]; done) | (rw [if_neg (fun q => by have q1 := q.2.1; have q2 := q.2.2.1; omega)]; done))) ?_
    exact g_iret C hr (nrZi (pkv_r _ _ _ _ _ _ _ _ _)) (Nat.le_of_ble_eq_true rfl) (Nat.le_of_ble_eq_true rfl) dX11_picksUp_96 ⟨rfl, rfl⟩
  refine g_aload_n C 0 rfl dX11_picksUp_12 rfl ?_
  refine g_bipush C (by decide) dX11_picksUp_13 rfl ?_
  refine g_iload_n C 1 rfl dX11_picksUp_15 rfl ?_
  refine g_callV C (b := (Q 0)) (As := [vI 7, vI z]) (wc := [((Q 0), .inr (12, [vR (Q 1), vR (Q 2), vR (Q 3), vR (Q 4), vR (Q 5), vI pn, vR (Q 6), vL f0, vL f1, vL f2, vL f3, vL px, vL py, vL pb, vI rg, vI wr, vR (Q 7), vI rn, vR (Q 8), vI wn])), ((Q 1), cL E 310 a)]) (wr := []) (st := []) gX11_picksUp_X11_has (q9 := 0) (ci := 12) rfl rfl rfl (K_m_has7 l E Q pn f0 f1 f2 f3 px py pb rg wr rn wn a z hz h28) hyd_X11_has rfl [0, 1] [] rfl rfl rfl rfl rfl (by decide) ⟨rfl, rfl⟩ ⟨Nat.le_of_ble_eq_true rfl, Nat.le_of_ble_eq_true rfl, Nat.le_of_ble_eq_true rfl, Nat.le_of_ble_eq_true rfl⟩ (Nat.le_of_ble_eq_true rfl) dX11_picksUp_16 (rfl : _ = 0) (rfl : _ = 0) rfl ?_
  rintro _ _ ⟨rfl, rfl⟩
  refine g_is (ws' := [((Q 0), .inr (12, [vR (Q 1), vR (Q 2), vR (Q 3), vR (Q 4), vR (Q 5), vI pn, vR (Q 6), vL f0, vL f1, vL f2, vL f3, vL px, vL py, vL pb, vI rg, vI wr, vR (Q 7), vI rn, vR (Q 8), vI wn])), ((Q 1), cL E 310 a)]) (st' := [vI (bP (bt (a 28) z = 1))]) rfl rfl ?_
  refine g_ifb_ne C (tgt := 26) dX11_picksUp_19 (by decide) rfl (fun c_17 => ?_) (fun c_17 => ?_)
  · refine g_iconst C dX11_picksUp_26 rfl ?_
    refine g_istore_n C (lv' := [(0, vR (Q 0)), (1, vI z), (2, vI 0)]) [1, 2, 0] (by decide) rfl rfl dX11_picksUp_27 rfl ?_
    refine g_aload_n C 0 rfl dX11_picksUp_28 rfl ?_
    refine g_get C 0 fd_X11_picksUp_7 rfl rfl rfl dX11_picksUp_29 rfl ?_
    refine g_bipush C (by decide) dX11_picksUp_32 rfl ?_
    refine g_lald C 1 rfl (by decide) (by decide) (by decide) rfl dX11_picksUp_34 rfl ?_
    refine g_lconst0 C dX11_picksUp_35 rfl ?_
    refine g_lcmp_eq C ⟨by omega, by omega⟩ ⟨by decide, by decide⟩ dX11_picksUp_36 rfl (tgt := 49) dX11_picksUp_37 (by decide) rfl (fun c_18 => ?_) (fun c_18 => ?_)
    · refine g_iconst C dX11_picksUp_49 rfl ?_
      refine g_goto C (pc' := 54) dX11_picksUp_50 (by decide) ?_
      refine g_istore_n C (lv' := [(0, vR (Q 0)), (1, vI z), (2, vI 0), (3, vI 1)]) [1, 2, 3, 0] (by decide) rfl rfl dX11_picksUp_54 rfl ?_
      refine g_aload_n C 0 rfl dX11_picksUp_55 rfl ?_
      refine g_get C 0 fd_X11_picksUp_7 rfl rfl rfl dX11_picksUp_56 rfl ?_
      refine g_bipush C (by decide) dX11_picksUp_59 rfl ?_
      refine g_lald C 1 rfl (by decide) (by decide) (by decide) rfl dX11_picksUp_61 rfl ?_
      refine g_lconst1 C dX11_picksUp_62 rfl ?_
      refine g_lcmp_ne C ⟨by omega, by omega⟩ ⟨by decide, by decide⟩ dX11_picksUp_63 rfl (tgt := 95) dX11_picksUp_64 (by decide) rfl (fun c_19 => ?_) (fun c_19 => ?_)
      · refine g_iconst C dX11_picksUp_95 rfl ?_
        refine g_top (v' := vI (pkR a z px py pb)) (congrArg (fun z_ : Int => vI z_) (show (pkR a z px py pb) = 0 by unfold pkR pkv; first | (rw [if_pos ⟨by assumption, by omega, by omega, by assumption⟩]; done) | (rw [if_neg (fun q => absurd q.1 (by assumption))]; done) | (rw [if_neg (fun q => absurd q.2.2.2 (by assumption))]; done) | (rw [if_neg (fun q => by have q1 := q.2.1; have q2 := q.2.2.1; omega)]; done))) ?_
        exact g_iret C hr (nrZi (pkv_r _ _ _ _ _ _ _ _ _)) (Nat.le_of_ble_eq_true rfl) (Nat.le_of_ble_eq_true rfl) dX11_picksUp_96 ⟨rfl, rfl⟩
      refine g_iload_n C 2 rfl dX11_picksUp_67 rfl ?_
      refine g_if_eq C (tgt := 95) ⟨by decide, by decide⟩ dX11_picksUp_68 (by decide) rfl (fun c_20 => ?_) (fun c_20 => ?_)
      · refine g_iconst C dX11_picksUp_95 rfl ?_
        refine g_top (v' := vI (pkR a z px py pb)) (congrArg (fun z_ : Int => vI z_) (show (pkR a z px py pb) = 0 by unfold pkR pkv; first | (rw [if_pos ⟨by assumption, by omega, by omega, by assumption⟩]; done) | (rw [if_neg (fun q => absurd q.1 (by assumption))]; done) | (rw [if_neg (fun q => absurd q.2.2.2 (by assumption))]; done) | (rw [if_neg (fun q => by have q1 := q.2.1; have q2 := q.2.2.1; omega)]; done))) ?_
        exact g_iret C hr (nrZi (pkv_r _ _ _ _ _ _ _ _ _)) (Nat.le_of_ble_eq_true rfl) (Nat.le_of_ble_eq_true rfl) dX11_picksUp_96 ⟨rfl, rfl⟩
      exact absurd c_20 (by decide)
    refine g_aload_n C 0 rfl dX11_picksUp_40 rfl ?_
    refine g_iconst C dX11_picksUp_41 rfl ?_
    refine g_iload_n C 1 rfl dX11_picksUp_42 rfl ?_
    refine g_callV C (b := (Q 0)) (As := [vI 5, vI z]) (wc := [((Q 0), .inr (12, [vR (Q 1), vR (Q 2), vR (Q 3), vR (Q 4), vR (Q 5), vI pn, vR (Q 6), vL f0, vL f1, vL f2, vL f3, vL px, vL py, vL pb, vI rg, vI wr, vR (Q 7), vI rn, vR (Q 8), vI wn])), ((Q 1), cL E 310 a)]) (wr := []) (st := []) gX11_picksUp_X11_has (q9 := 0) (ci := 12) rfl rfl rfl (K_m_has5 l E Q pn f0 f1 f2 f3 px py pb rg wr rn wn a z hz h26) hyd_X11_has rfl [0, 1] [] rfl rfl rfl rfl rfl (by decide) ⟨rfl, rfl⟩ ⟨Nat.le_of_ble_eq_true rfl, Nat.le_of_ble_eq_true rfl, Nat.le_of_ble_eq_true rfl, Nat.le_of_ble_eq_true rfl⟩ (Nat.le_of_ble_eq_true rfl) dX11_picksUp_43 (rfl : _ = 0) (rfl : _ = 0) rfl ?_
    rintro _ _ ⟨rfl, rfl⟩
    refine g_is (ws' := [((Q 0), .inr (12, [vR (Q 1), vR (Q 2), vR (Q 3), vR (Q 4), vR (Q 5), vI pn, vR (Q 6), vL f0, vL f1, vL f2, vL f3, vL px, vL py, vL pb, vI rg, vI wr, vR (Q 7), vI rn, vR (Q 8), vI wn])), ((Q 1), cL E 310 a)]) (st' := [vI (bP (bt (a 26) z = 1))]) rfl rfl ?_
    refine g_ifb_ne C (tgt := 53) dX11_picksUp_46 (by decide) rfl (fun c_21 => ?_) (fun c_21 => ?_)
    · refine g_iconst C dX11_picksUp_53 rfl ?_
      refine g_istore_n C (lv' := [(0, vR (Q 0)), (1, vI z), (2, vI 0), (3, vI 0)]) [1, 2, 3, 0] (by decide) rfl rfl dX11_picksUp_54 rfl ?_
      refine g_aload_n C 0 rfl dX11_picksUp_55 rfl ?_
      refine g_get C 0 fd_X11_picksUp_7 rfl rfl rfl dX11_picksUp_56 rfl ?_
      refine g_bipush C (by decide) dX11_picksUp_59 rfl ?_
      refine g_lald C 1 rfl (by decide) (by decide) (by decide) rfl dX11_picksUp_61 rfl ?_
      refine g_lconst1 C dX11_picksUp_62 rfl ?_
      refine g_lcmp_ne C ⟨by omega, by omega⟩ ⟨by decide, by decide⟩ dX11_picksUp_63 rfl (tgt := 95) dX11_picksUp_64 (by decide) rfl (fun c_22 => ?_) (fun c_22 => ?_)
      · refine g_iconst C dX11_picksUp_95 rfl ?_
        refine g_top (v' := vI (pkR a z px py pb)) (congrArg (fun z_ : Int => vI z_) (show (pkR a z px py pb) = 0 by unfold pkR pkv; first | (rw [if_pos ⟨by assumption, by omega, by omega, by assumption⟩]; done) | (rw [if_neg (fun q => absurd q.1 (by assumption))]; done) | (rw [if_neg (fun q => absurd q.2.2.2 (by assumption))]; done) | (rw [if_neg (fun q => by have q1 := q.2.1; have q2 := q.2.2.1; omega)]; done))) ?_
        exact g_iret C hr (nrZi (pkv_r _ _ _ _ _ _ _ _ _)) (Nat.le_of_ble_eq_true rfl) (Nat.le_of_ble_eq_true rfl) dX11_picksUp_96 ⟨rfl, rfl⟩
      refine g_iload_n C 2 rfl dX11_picksUp_67 rfl ?_
      refine g_if_eq C (tgt := 95) ⟨by decide, by decide⟩ dX11_picksUp_68 (by decide) rfl (fun c_23 => ?_) (fun c_23 => ?_)
      · refine g_iconst C dX11_picksUp_95 rfl ?_
        refine g_top (v' := vI (pkR a z px py pb)) (congrArg (fun z_ : Int => vI z_) (show (pkR a z px py pb) = 0 by unfold pkR pkv; first | (rw [if_pos ⟨by assumption, by omega, by omega, by assumption⟩]; done) | (rw [if_neg (fun q => absurd q.1 (by assumption))]; done) | (rw [if_neg (fun q => absurd q.2.2.2 (by assumption))]; done) | (rw [if_neg (fun q => by have q1 := q.2.1; have q2 := q.2.2.1; omega)]; done))) ?_
        exact g_iret C hr (nrZi (pkv_r _ _ _ _ _ _ _ _ _)) (Nat.le_of_ble_eq_true rfl) (Nat.le_of_ble_eq_true rfl) dX11_picksUp_96 ⟨rfl, rfl⟩
      exact absurd c_23 (by decide)
    refine g_iconst C dX11_picksUp_49 rfl ?_
    refine g_goto C (pc' := 54) dX11_picksUp_50 (by decide) ?_
    refine g_istore_n C (lv' := [(0, vR (Q 0)), (1, vI z), (2, vI 0), (3, vI 1)]) [1, 2, 3, 0] (by decide) rfl rfl dX11_picksUp_54 rfl ?_
    refine g_aload_n C 0 rfl dX11_picksUp_55 rfl ?_
    refine g_get C 0 fd_X11_picksUp_7 rfl rfl rfl dX11_picksUp_56 rfl ?_
    refine g_bipush C (by decide) dX11_picksUp_59 rfl ?_
    refine g_lald C 1 rfl (by decide) (by decide) (by decide) rfl dX11_picksUp_61 rfl ?_
    refine g_lconst1 C dX11_picksUp_62 rfl ?_
    refine g_lcmp_ne C ⟨by omega, by omega⟩ ⟨by decide, by decide⟩ dX11_picksUp_63 rfl (tgt := 95) dX11_picksUp_64 (by decide) rfl (fun c_24 => ?_) (fun c_24 => ?_)
    · refine g_iconst C dX11_picksUp_95 rfl ?_
      refine g_top (v' := vI (pkR a z px py pb)) (congrArg (fun z_ : Int => vI z_) (show (pkR a z px py pb) = 0 by unfold pkR pkv; first | (rw [if_pos ⟨by assumption, by omega, by omega, by assumption⟩]; done) | (rw [if_neg (fun q => absurd q.1 (by assumption))]; done) | (rw [if_neg (fun q => absurd q.2.2.2 (by assumption))]; done) | (rw [if_neg (fun q => by have q1 := q.2.1; have q2 := q.2.2.1; omega)]; done))) ?_
      exact g_iret C hr (nrZi (pkv_r _ _ _ _ _ _ _ _ _)) (Nat.le_of_ble_eq_true rfl) (Nat.le_of_ble_eq_true rfl) dX11_picksUp_96 ⟨rfl, rfl⟩
    refine g_iload_n C 2 rfl dX11_picksUp_67 rfl ?_
    refine g_if_eq C (tgt := 95) ⟨by decide, by decide⟩ dX11_picksUp_68 (by decide) rfl (fun c_25 => ?_) (fun c_25 => ?_)
    · refine g_iconst C dX11_picksUp_95 rfl ?_
      refine g_top (v' := vI (pkR a z px py pb)) (congrArg (fun z_ : Int => vI z_) (show (pkR a z px py pb) = 0 by unfold pkR pkv; first | (rw [if_pos ⟨by assumption, by omega, by omega, by assumption⟩]; done) | (rw [if_neg (fun q => absurd q.1 (by assumption))]; done) | (rw [if_neg (fun q => absurd q.2.2.2 (by assumption))]; done) | (rw [if_neg (fun q => by have q1 := q.2.1; have q2 := q.2.2.1; omega)]; done))) ?_
      exact g_iret C hr (nrZi (pkv_r _ _ _ _ _ _ _ _ _)) (Nat.le_of_ble_eq_true rfl) (Nat.le_of_ble_eq_true rfl) dX11_picksUp_96 ⟨rfl, rfl⟩
    exact absurd c_25 (by decide)
  refine g_iconst C dX11_picksUp_22 rfl ?_
  refine g_goto C (pc' := 27) dX11_picksUp_23 (by decide) ?_
  refine g_istore_n C (lv' := [(0, vR (Q 0)), (1, vI z), (2, vI 1)]) [1, 2, 0] (by decide) rfl rfl dX11_picksUp_27 rfl ?_
  refine g_aload_n C 0 rfl dX11_picksUp_28 rfl ?_
  refine g_get C 0 fd_X11_picksUp_7 rfl rfl rfl dX11_picksUp_29 rfl ?_
  refine g_bipush C (by decide) dX11_picksUp_32 rfl ?_
  refine g_lald C 1 rfl (by decide) (by decide) (by decide) rfl dX11_picksUp_34 rfl ?_
  refine g_lconst0 C dX11_picksUp_35 rfl ?_
  refine g_lcmp_eq C ⟨by omega, by omega⟩ ⟨by decide, by decide⟩ dX11_picksUp_36 rfl (tgt := 49) dX11_picksUp_37 (by decide) rfl (fun c_26 => ?_) (fun c_26 => ?_)
  · refine g_iconst C dX11_picksUp_49 rfl ?_
    refine g_goto C (pc' := 54) dX11_picksUp_50 (by decide) ?_
    refine g_istore_n C (lv' := [(0, vR (Q 0)), (1, vI z), (2, vI 1), (3, vI 1)]) [1, 2, 3, 0] (by decide) rfl rfl dX11_picksUp_54 rfl ?_
    refine g_aload_n C 0 rfl dX11_picksUp_55 rfl ?_
    refine g_get C 0 fd_X11_picksUp_7 rfl rfl rfl dX11_picksUp_56 rfl ?_
    refine g_bipush C (by decide) dX11_picksUp_59 rfl ?_
    refine g_lald C 1 rfl (by decide) (by decide) (by decide) rfl dX11_picksUp_61 rfl ?_
    refine g_lconst1 C dX11_picksUp_62 rfl ?_
    refine g_lcmp_ne C ⟨by omega, by omega⟩ ⟨by decide, by decide⟩ dX11_picksUp_63 rfl (tgt := 95) dX11_picksUp_64 (by decide) rfl (fun c_27 => ?_) (fun c_27 => ?_)
    · refine g_iconst C dX11_picksUp_95 rfl ?_
      refine g_top (v' := vI (pkR a z px py pb)) (congrArg (fun z_ : Int => vI z_) (show (pkR a z px py pb) = 0 by unfold pkR pkv; first | (rw [if_pos ⟨by assumption, by omega, by omega, by assumption⟩]; done) | (rw [if_neg (fun q => absurd q.1 (by assumption))]; done) | (rw [if_neg (fun q => absurd q.2.2.2 (by assumption))]; done) | (rw [if_neg (fun q => by have q1 := q.2.1; have q2 := q.2.2.1; omega)]; done))) ?_
      exact g_iret C hr (nrZi (pkv_r _ _ _ _ _ _ _ _ _)) (Nat.le_of_ble_eq_true rfl) (Nat.le_of_ble_eq_true rfl) dX11_picksUp_96 ⟨rfl, rfl⟩
    refine g_iload_n C 2 rfl dX11_picksUp_67 rfl ?_
    refine g_if_eq C (tgt := 95) ⟨by decide, by decide⟩ dX11_picksUp_68 (by decide) rfl (fun c_28 => ?_) (fun c_28 => ?_)
    · exact absurd c_28 (by decide)
    refine g_iload_n C 3 rfl dX11_picksUp_71 rfl ?_
    refine g_if_eq C (tgt := 95) ⟨by decide, by decide⟩ dX11_picksUp_72 (by decide) rfl (fun c_29 => ?_) (fun c_29 => ?_)
    · exact absurd c_29 (by decide)
    refine g_aload_n C 0 rfl dX11_picksUp_75 rfl ?_
    refine g_iload_n C 1 rfl dX11_picksUp_76 rfl ?_
    refine g_callV C (b := (Q 0)) (As := [vI z]) (wc := [((Q 0), .inr (12, [vR (Q 1), vR (Q 2), vR (Q 3), vR (Q 4), vR (Q 5), vI pn, vR (Q 6), vL f0, vL f1, vL f2, vL f3, vL px, vL py, vL pb, vI rg, vI wr, vR (Q 7), vI rn, vR (Q 8), vI wn])), ((Q 1), cL E 310 a)]) (wr := []) (st := []) gX11_picksUp_X11_isInside (q9 := 0) (ci := 12) rfl rfl rfl (K_m_inside l E Q pn f0 f1 f2 f3 px py pb rg wr rn wn a z ⟨by omega, by omega⟩ (by first | assumption | omega) (by first | assumption | omega) hx hy hd) hyd_X11_isInside rfl [0, 1] [] rfl rfl rfl rfl rfl (by decide) ⟨rfl, rfl⟩ ⟨Nat.le_of_ble_eq_true rfl, Nat.le_of_ble_eq_true rfl, Nat.le_of_ble_eq_true rfl, Nat.le_of_ble_eq_true rfl⟩ (Nat.le_of_ble_eq_true rfl) dX11_picksUp_77 (rfl : _ = 0) (rfl : _ = 0) rfl ?_
    rintro _ _ ⟨rfl, rfl⟩
    refine g_is (ws' := [((Q 0), .inr (12, [vR (Q 1), vR (Q 2), vR (Q 3), vR (Q 4), vR (Q 5), vI pn, vR (Q 6), vL f0, vL f1, vL f2, vL f3, vL px, vL py, vL pb, vI rg, vI wr, vR (Q 7), vI rn, vR (Q 8), vI wn])), ((Q 1), cL E 310 a)]) (st' := [vI (bP (hldA a z px py pb = true))]) rfl rfl ?_
    refine g_ifb_eq C (tgt := 95) dX11_picksUp_80 (by decide) rfl (fun c_30 => ?_) (fun c_30 => ?_)
    · refine g_iconst C dX11_picksUp_95 rfl ?_
      refine g_top (v' := vI (pkR a z px py pb)) (congrArg (fun z_ : Int => vI z_) (show (pkR a z px py pb) = 0 by unfold pkR pkv; first | (rw [if_pos ⟨by assumption, by omega, by omega, by assumption⟩]; done) | (rw [if_neg (fun q => absurd q.1 (by assumption))]; done) | (rw [if_neg (fun q => absurd q.2.2.2 (by assumption))]; done) | (rw [if_neg (fun q => by have q1 := q.2.1; have q2 := q.2.2.1; omega)]; done))) ?_
      exact g_iret C hr (nrZi (pkv_r _ _ _ _ _ _ _ _ _)) (Nat.le_of_ble_eq_true rfl) (Nat.le_of_ble_eq_true rfl) dX11_picksUp_96 ⟨rfl, rfl⟩
    refine g_aload_n C 0 rfl dX11_picksUp_83 rfl ?_
    refine g_iload_n C 1 rfl dX11_picksUp_84 rfl ?_
    refine g_callV C (b := (Q 0)) (As := [vI z]) (wc := [((Q 0), .inr (12, [vR (Q 1), vR (Q 2), vR (Q 3), vR (Q 4), vR (Q 5), vI pn, vR (Q 6), vL f0, vL f1, vL f2, vL f3, vL px, vL py, vL pb, vI rg, vI wr, vR (Q 7), vI rn, vR (Q 8), vI wn])), ((Q 1), cL E 310 a)]) (wr := []) (st := []) gX11_picksUp_X11_fitsWay (q9 := 0) (ci := 12) rfl rfl rfl (K_m_fits l E Q pn f0 f1 f2 f3 px py pb rg wr rn wn a z hz e84 e85 e86 e87 e88 e89 h17 h18 h90 h23 hw) hyd_X11_fitsWay rfl [0, 1] [] rfl rfl rfl rfl rfl (by decide) ⟨rfl, rfl⟩ ⟨Nat.le_of_ble_eq_true rfl, Nat.le_of_ble_eq_true rfl, Nat.le_of_ble_eq_true rfl, Nat.le_of_ble_eq_true rfl⟩ (Nat.le_of_ble_eq_true rfl) dX11_picksUp_85 (rfl : _ = 0) (rfl : _ = 0) rfl ?_
    rintro _ _ ⟨rfl, rfl⟩
    refine g_is (ws' := [((Q 0), .inr (12, [vR (Q 1), vR (Q 2), vR (Q 3), vR (Q 4), vR (Q 5), vI pn, vR (Q 6), vL f0, vL f1, vL f2, vL f3, vL px, vL py, vL pb, vI rg, vI wr, vR (Q 7), vI rn, vR (Q 8), vI wn])), ((Q 1), cL E 310 a)]) (st' := [vI (bP (a (32 + z) = 2 ∨ (a (32 + z) = 0 ∧ 0 < trqA a) ∨ (¬ a (32 + z) = 0 ∧ trqA a < 0)))]) rfl rfl ?_
    refine g_ifb_eq C (tgt := 95) dX11_picksUp_88 (by decide) rfl (fun c_31 => ?_) (fun c_31 => ?_)
    · refine g_iconst C dX11_picksUp_95 rfl ?_
      refine g_top (v' := vI (pkR a z px py pb)) (congrArg (fun z_ : Int => vI z_) (show (pkR a z px py pb) = 0 by unfold pkR pkv; first | (rw [if_pos ⟨by assumption, by omega, by omega, by assumption⟩]; done) | (rw [if_neg (fun q => absurd q.1 (by assumption))]; done) | (rw [if_neg (fun q => absurd q.2.2.2 (by assumption))]; done) | (rw [if_neg (fun q => by have q1 := q.2.1; have q2 := q.2.2.1; omega)]; done))) ?_
      exact g_iret C hr (nrZi (pkv_r _ _ _ _ _ _ _ _ _)) (Nat.le_of_ble_eq_true rfl) (Nat.le_of_ble_eq_true rfl) dX11_picksUp_96 ⟨rfl, rfl⟩
    refine g_iconst C dX11_picksUp_91 rfl ?_
    refine g_goto C (pc' := 96) dX11_picksUp_92 (by decide) ?_
    refine g_top (v' := vI (pkR a z px py pb)) (congrArg (fun z_ : Int => vI z_) (show (pkR a z px py pb) = 1 by unfold pkR pkv; first | (rw [if_pos ⟨by assumption, by omega, by omega, by assumption⟩]; done) | (rw [if_neg (fun q => absurd q.1 (by assumption))]; done) | (rw [if_neg (fun q => absurd q.2.2.2 (by assumption))]; done) | (rw [if_neg (fun q => by have q1 := q.2.1; have q2 := q.2.2.1; omega)]; done))) ?_
    exact g_iret C hr (nrZi (pkv_r _ _ _ _ _ _ _ _ _)) (Nat.le_of_ble_eq_true rfl) (Nat.le_of_ble_eq_true rfl) dX11_picksUp_96 ⟨rfl, rfl⟩
  refine g_aload_n C 0 rfl dX11_picksUp_40 rfl ?_
  refine g_iconst C dX11_picksUp_41 rfl ?_
  refine g_iload_n C 1 rfl dX11_picksUp_42 rfl ?_
  refine g_callV C (b := (Q 0)) (As := [vI 5, vI z]) (wc := [((Q 0), .inr (12, [vR (Q 1), vR (Q 2), vR (Q 3), vR (Q 4), vR (Q 5), vI pn, vR (Q 6), vL f0, vL f1, vL f2, vL f3, vL px, vL py, vL pb, vI rg, vI wr, vR (Q 7), vI rn, vR (Q 8), vI wn])), ((Q 1), cL E 310 a)]) (wr := []) (st := []) gX11_picksUp_X11_has (q9 := 0) (ci := 12) rfl rfl rfl (K_m_has5 l E Q pn f0 f1 f2 f3 px py pb rg wr rn wn a z hz h26) hyd_X11_has rfl [0, 1] [] rfl rfl rfl rfl rfl (by decide) ⟨rfl, rfl⟩ ⟨Nat.le_of_ble_eq_true rfl, Nat.le_of_ble_eq_true rfl, Nat.le_of_ble_eq_true rfl, Nat.le_of_ble_eq_true rfl⟩ (Nat.le_of_ble_eq_true rfl) dX11_picksUp_43 (rfl : _ = 0) (rfl : _ = 0) rfl ?_
  rintro _ _ ⟨rfl, rfl⟩
  refine g_is (ws' := [((Q 0), .inr (12, [vR (Q 1), vR (Q 2), vR (Q 3), vR (Q 4), vR (Q 5), vI pn, vR (Q 6), vL f0, vL f1, vL f2, vL f3, vL px, vL py, vL pb, vI rg, vI wr, vR (Q 7), vI rn, vR (Q 8), vI wn])), ((Q 1), cL E 310 a)]) (st' := [vI (bP (bt (a 26) z = 1))]) rfl rfl ?_
  refine g_ifb_ne C (tgt := 53) dX11_picksUp_46 (by decide) rfl (fun c_32 => ?_) (fun c_32 => ?_)
  · refine g_iconst C dX11_picksUp_53 rfl ?_
    refine g_istore_n C (lv' := [(0, vR (Q 0)), (1, vI z), (2, vI 1), (3, vI 0)]) [1, 2, 3, 0] (by decide) rfl rfl dX11_picksUp_54 rfl ?_
    refine g_aload_n C 0 rfl dX11_picksUp_55 rfl ?_
    refine g_get C 0 fd_X11_picksUp_7 rfl rfl rfl dX11_picksUp_56 rfl ?_
    refine g_bipush C (by decide) dX11_picksUp_59 rfl ?_
    refine g_lald C 1 rfl (by decide) (by decide) (by decide) rfl dX11_picksUp_61 rfl ?_
    refine g_lconst1 C dX11_picksUp_62 rfl ?_
    refine g_lcmp_ne C ⟨by omega, by omega⟩ ⟨by decide, by decide⟩ dX11_picksUp_63 rfl (tgt := 95) dX11_picksUp_64 (by decide) rfl (fun c_33 => ?_) (fun c_33 => ?_)
    · refine g_iconst C dX11_picksUp_95 rfl ?_
      refine g_top (v' := vI (pkR a z px py pb)) (congrArg (fun z_ : Int => vI z_) (show (pkR a z px py pb) = 0 by unfold pkR pkv; first | (rw [if_pos ⟨by assumption, by omega, by omega, by assumption⟩]; done) | (rw [if_neg (fun q => absurd q.1 (by assumption))]; done) | (rw [if_neg (fun q => absurd q.2.2.2 (by assumption))]; done) | (rw [if_neg (fun q => by have q1 := q.2.1; have q2 := q.2.2.1; omega)]; done))) ?_
      exact g_iret C hr (nrZi (pkv_r _ _ _ _ _ _ _ _ _)) (Nat.le_of_ble_eq_true rfl) (Nat.le_of_ble_eq_true rfl) dX11_picksUp_96 ⟨rfl, rfl⟩
    refine g_iload_n C 2 rfl dX11_picksUp_67 rfl ?_
    refine g_if_eq C (tgt := 95) ⟨by decide, by decide⟩ dX11_picksUp_68 (by decide) rfl (fun c_34 => ?_) (fun c_34 => ?_)
    · exact absurd c_34 (by decide)
    refine g_iload_n C 3 rfl dX11_picksUp_71 rfl ?_
    refine g_if_eq C (tgt := 95) ⟨by decide, by decide⟩ dX11_picksUp_72 (by decide) rfl (fun c_35 => ?_) (fun c_35 => ?_)
    · refine g_iconst C dX11_picksUp_95 rfl ?_
      refine g_top (v' := vI (pkR a z px py pb)) (congrArg (fun z_ : Int => vI z_) (show (pkR a z px py pb) = 0 by unfold pkR pkv; first | (rw [if_pos ⟨by assumption, by omega, by omega, by assumption⟩]; done) | (rw [if_neg (fun q => absurd q.1 (by assumption))]; done) | (rw [if_neg (fun q => absurd q.2.2.2 (by assumption))]; done) | (rw [if_neg (fun q => by have q1 := q.2.1; have q2 := q.2.2.1; omega)]; done))) ?_
      exact g_iret C hr (nrZi (pkv_r _ _ _ _ _ _ _ _ _)) (Nat.le_of_ble_eq_true rfl) (Nat.le_of_ble_eq_true rfl) dX11_picksUp_96 ⟨rfl, rfl⟩
    exact absurd c_35 (by decide)
  refine g_iconst C dX11_picksUp_49 rfl ?_
  refine g_goto C (pc' := 54) dX11_picksUp_50 (by decide) ?_
  refine g_istore_n C (lv' := [(0, vR (Q 0)), (1, vI z), (2, vI 1), (3, vI 1)]) [1, 2, 3, 0] (by decide) rfl rfl dX11_picksUp_54 rfl ?_
  refine g_aload_n C 0 rfl dX11_picksUp_55 rfl ?_
  refine g_get C 0 fd_X11_picksUp_7 rfl rfl rfl dX11_picksUp_56 rfl ?_
  refine g_bipush C (by decide) dX11_picksUp_59 rfl ?_
  refine g_lald C 1 rfl (by decide) (by decide) (by decide) rfl dX11_picksUp_61 rfl ?_
  refine g_lconst1 C dX11_picksUp_62 rfl ?_
  refine g_lcmp_ne C ⟨by omega, by omega⟩ ⟨by decide, by decide⟩ dX11_picksUp_63 rfl (tgt := 95) dX11_picksUp_64 (by decide) rfl (fun c_36 => ?_) (fun c_36 => ?_)
  · refine g_iconst C dX11_picksUp_95 rfl ?_
    refine g_top (v' := vI (pkR a z px py pb)) (congrArg (fun z_ : Int => vI z_) (show (pkR a z px py pb) = 0 by unfold pkR pkv; first | (rw [if_pos ⟨by assumption, by omega, by omega, by assumption⟩]; done) | (rw [if_neg (fun q => absurd q.1 (by assumption))]; done) | (rw [if_neg (fun q => absurd q.2.2.2 (by assumption))]; done) | (rw [if_neg (fun q => by have q1 := q.2.1; have q2 := q.2.2.1; omega)]; done))) ?_
    exact g_iret C hr (nrZi (pkv_r _ _ _ _ _ _ _ _ _)) (Nat.le_of_ble_eq_true rfl) (Nat.le_of_ble_eq_true rfl) dX11_picksUp_96 ⟨rfl, rfl⟩
  refine g_iload_n C 2 rfl dX11_picksUp_67 rfl ?_
  refine g_if_eq C (tgt := 95) ⟨by decide, by decide⟩ dX11_picksUp_68 (by decide) rfl (fun c_37 => ?_) (fun c_37 => ?_)
  · exact absurd c_37 (by decide)
  refine g_iload_n C 3 rfl dX11_picksUp_71 rfl ?_
  refine g_if_eq C (tgt := 95) ⟨by decide, by decide⟩ dX11_picksUp_72 (by decide) rfl (fun c_38 => ?_) (fun c_38 => ?_)
  · exact absurd c_38 (by decide)
  refine g_aload_n C 0 rfl dX11_picksUp_75 rfl ?_
  refine g_iload_n C 1 rfl dX11_picksUp_76 rfl ?_
  refine g_callV C (b := (Q 0)) (As := [vI z]) (wc := [((Q 0), .inr (12, [vR (Q 1), vR (Q 2), vR (Q 3), vR (Q 4), vR (Q 5), vI pn, vR (Q 6), vL f0, vL f1, vL f2, vL f3, vL px, vL py, vL pb, vI rg, vI wr, vR (Q 7), vI rn, vR (Q 8), vI wn])), ((Q 1), cL E 310 a)]) (wr := []) (st := []) gX11_picksUp_X11_isInside (q9 := 0) (ci := 12) rfl rfl rfl (K_m_inside l E Q pn f0 f1 f2 f3 px py pb rg wr rn wn a z ⟨by omega, by omega⟩ (by first | assumption | omega) (by first | assumption | omega) hx hy hd) hyd_X11_isInside rfl [0, 1] [] rfl rfl rfl rfl rfl (by decide) ⟨rfl, rfl⟩ ⟨Nat.le_of_ble_eq_true rfl, Nat.le_of_ble_eq_true rfl, Nat.le_of_ble_eq_true rfl, Nat.le_of_ble_eq_true rfl⟩ (Nat.le_of_ble_eq_true rfl) dX11_picksUp_77 (rfl : _ = 0) (rfl : _ = 0) rfl ?_
  rintro _ _ ⟨rfl, rfl⟩
  refine g_is (ws' := [((Q 0), .inr (12, [vR (Q 1), vR (Q 2), vR (Q 3), vR (Q 4), vR (Q 5), vI pn, vR (Q 6), vL f0, vL f1, vL f2, vL f3, vL px, vL py, vL pb, vI rg, vI wr, vR (Q 7), vI rn, vR (Q 8), vI wn])), ((Q 1), cL E 310 a)]) (st' := [vI (bP (hldA a z px py pb = true))]) rfl rfl ?_
  refine g_ifb_eq C (tgt := 95) dX11_picksUp_80 (by decide) rfl (fun c_39 => ?_) (fun c_39 => ?_)
  · refine g_iconst C dX11_picksUp_95 rfl ?_
    refine g_top (v' := vI (pkR a z px py pb)) (congrArg (fun z_ : Int => vI z_) (show (pkR a z px py pb) = 0 by unfold pkR pkv; first | (rw [if_pos ⟨by assumption, by omega, by omega, by assumption⟩]; done) | (rw [if_neg (fun q => absurd q.1 (by assumption))]; done) | (rw [if_neg (fun q => absurd q.2.2.2 (by assumption))]; done) | (rw [if_neg (fun q => by have q1 := q.2.1; have q2 := q.2.2.1; omega)]; done))) ?_
    exact g_iret C hr (nrZi (pkv_r _ _ _ _ _ _ _ _ _)) (Nat.le_of_ble_eq_true rfl) (Nat.le_of_ble_eq_true rfl) dX11_picksUp_96 ⟨rfl, rfl⟩
  refine g_aload_n C 0 rfl dX11_picksUp_83 rfl ?_
  refine g_iload_n C 1 rfl dX11_picksUp_84 rfl ?_
  refine g_callV C (b := (Q 0)) (As := [vI z]) (wc := [((Q 0), .inr (12, [vR (Q 1), vR (Q 2), vR (Q 3), vR (Q 4), vR (Q 5), vI pn, vR (Q 6), vL f0, vL f1, vL f2, vL f3, vL px, vL py, vL pb, vI rg, vI wr, vR (Q 7), vI rn, vR (Q 8), vI wn])), ((Q 1), cL E 310 a)]) (wr := []) (st := []) gX11_picksUp_X11_fitsWay (q9 := 0) (ci := 12) rfl rfl rfl (K_m_fits l E Q pn f0 f1 f2 f3 px py pb rg wr rn wn a z hz e84 e85 e86 e87 e88 e89 h17 h18 h90 h23 hw) hyd_X11_fitsWay rfl [0, 1] [] rfl rfl rfl rfl rfl (by decide) ⟨rfl, rfl⟩ ⟨Nat.le_of_ble_eq_true rfl, Nat.le_of_ble_eq_true rfl, Nat.le_of_ble_eq_true rfl, Nat.le_of_ble_eq_true rfl⟩ (Nat.le_of_ble_eq_true rfl) dX11_picksUp_85 (rfl : _ = 0) (rfl : _ = 0) rfl ?_
  rintro _ _ ⟨rfl, rfl⟩
  refine g_is (ws' := [((Q 0), .inr (12, [vR (Q 1), vR (Q 2), vR (Q 3), vR (Q 4), vR (Q 5), vI pn, vR (Q 6), vL f0, vL f1, vL f2, vL f3, vL px, vL py, vL pb, vI rg, vI wr, vR (Q 7), vI rn, vR (Q 8), vI wn])), ((Q 1), cL E 310 a)]) (st' := [vI (bP (a (32 + z) = 2 ∨ (a (32 + z) = 0 ∧ 0 < trqA a) ∨ (¬ a (32 + z) = 0 ∧ trqA a < 0)))]) rfl rfl ?_
  refine g_ifb_eq C (tgt := 95) dX11_picksUp_88 (by decide) rfl (fun c_40 => ?_) (fun c_40 => ?_)
  · refine g_iconst C dX11_picksUp_95 rfl ?_
    refine g_top (v' := vI (pkR a z px py pb)) (congrArg (fun z_ : Int => vI z_) (show (pkR a z px py pb) = 0 by unfold pkR pkv; first | (rw [if_pos ⟨by assumption, by omega, by omega, by assumption⟩]; done) | (rw [if_neg (fun q => absurd q.1 (by assumption))]; done) | (rw [if_neg (fun q => absurd q.2.2.2 (by assumption))]; done) | (rw [if_neg (fun q => by have q1 := q.2.1; have q2 := q.2.2.1; omega)]; done))) ?_
    exact g_iret C hr (nrZi (pkv_r _ _ _ _ _ _ _ _ _)) (Nat.le_of_ble_eq_true rfl) (Nat.le_of_ble_eq_true rfl) dX11_picksUp_96 ⟨rfl, rfl⟩
  refine g_iconst C dX11_picksUp_91 rfl ?_
  refine g_goto C (pc' := 96) dX11_picksUp_92 (by decide) ?_
  refine g_top (v' := vI (pkR a z px py pb)) (congrArg (fun z_ : Int => vI z_) (show (pkR a z px py pb) = 1 by unfold pkR pkv; first | (rw [if_pos ⟨by assumption, by omega, by omega, by assumption⟩]; done) | (rw [if_neg (fun q => absurd q.1 (by assumption))]; done) | (rw [if_neg (fun q => absurd q.2.2.2 (by assumption))]; done) | (rw [if_neg (fun q => by have q1 := q.2.1; have q2 := q.2.2.1; omega)]; done))) ?_
  exact g_iret C hr (nrZi (pkv_r _ _ _ _ _ _ _ _ _)) (Nat.le_of_ble_eq_true rfl) (Nat.le_of_ble_eq_true rfl) dX11_picksUp_96 ⟨rfl, rfl⟩
