theorem in_X11_finds_X11 : ∀ w ∈ u_ws RX11 TX11 20, w ∈ wsX11_finds := by decide +kernel
theorem fd_X11_finds_7 : fdk wsX11_finds RX11 7 "ZoneRelayModel" RX11 TX11 20 0 := ⟨in_X11_finds_X11, by decide +kernel, by decide, rfl⟩
abbrev rm_K_m_finds0 : Room := { frames := 0, cells := 0, slots := 0, locals := 0 }
set_option maxHeartbeats 400000 in
set_option maxRecDepth 100000 in
theorem K_m_finds0 (l : Launch) (E : Ev) (Q : Nat → Nat) (pn f0 f1 f2 f3 px py pb rg wr rn wn : Int) (a : Int → Int) (sr sx : Int) (he : 0 ≤ a 14 ∧ a 14 ≤ 20000) (h1 : 0 ≤ a 15 ∧ a 15 ≤ 20000) (h2 : 0 ≤ a 16 ∧ a 16 ≤ 20000) (h3 : 0 ≤ sr ∧ sr ≤ 40000) (h4 : 0 ≤ sx ∧ sx ≤ 40000) (hD : slD (a 15) (a 16) sr sx = 0) : Mc l yX11_finds wsX11_finds rm_K_m_finds0 E [vR (Q 0), vL sr, vL sx] [((Q 0), .inr (12, [vR (Q 1), vR (Q 2), vR (Q 3), vR (Q 4), vR (Q 5), vI pn, vR (Q 6), vL f0, vL f1, vL f2, vL f3, vL px, vL py, vL pb, vI rg, vI wr, vR (Q 7), vI rn, vR (Q 8), vI wn])), ((Q 1), cL E 310 a)] 0 0 (fun v9 w9 => v9 = some (vI 0) ∧ w9 = [((Q 0), .inr (12, [vR (Q 1), vR (Q 2), vR (Q 3), vR (Q 4), vR (Q 5), vI pn, vR (Q 6), vL f0, vL f1, vL f2, vL f3, vL px, vL py, vL pb, vI rg, vI wr, vR (Q 7), vI rn, vR (Q 8), vI wn])), ((Q 1), cL E 310 a)]) := by
  refine Mc.intro (cc := cX11_finds) (maxL := 21) (ret := (some .boolean)) (lv0 := [(0, vR (Q 0)), (1, vL sr), (3, vL sx)]) (by decide +kernel) rfl rfl (Nat.le_of_ble_eq_true rfl) ?_
  intro p9 e9 s9 m9 args9 below9 meth9 c9 A9 C hr hmn
  have C : Cx p9 s9 m9 args9 meth9 c9 E A9 21 cX11_finds wsX11_finds RX11 := C
  refine g_aload_n C 0 rfl dX11_finds_0 rfl ?_
  refine g_get C 0 fd_X11_finds_7 rfl rfl rfl dX11_finds_1 rfl ?_
  refine g_bipush C (by decide) dX11_finds_4 rfl ?_
  refine g_lald C 1 rfl (by decide) (by decide) (by decide) rfl dX11_finds_6 rfl ?_
  refine g_lstore C (lv' := [(0, vR (Q 0)), (1, vL sr), (3, vL sx), (5, vL (a 14))]) [1, 2, 3, 0] (by decide) rfl rfl dX11_finds_7 rfl ?_
  refine g_aload_n C 0 rfl dX11_finds_9 rfl ?_
  refine g_get C 0 fd_X11_finds_7 rfl rfl rfl dX11_finds_10 rfl ?_
  refine g_bipush C (by decide) dX11_finds_13 rfl ?_
  refine g_lald C 1 rfl (by decide) (by decide) (by decide) rfl dX11_finds_15 rfl ?_
  refine g_lstore C (lv' := [(0, vR (Q 0)), (1, vL sr), (3, vL sx), (5, vL (a 14)), (7, vL (a 15))]) [1, 2, 3, 4, 0] (by decide) rfl rfl dX11_finds_16 rfl ?_
  refine g_aload_n C 0 rfl dX11_finds_18 rfl ?_
  refine g_get C 0 fd_X11_finds_7 rfl rfl rfl dX11_finds_19 rfl ?_
  refine g_bipush C (by decide) dX11_finds_22 rfl ?_
  refine g_lald C 1 rfl (by decide) (by decide) (by decide) rfl dX11_finds_24 rfl ?_
  refine g_lstore C (lv' := [(0, vR (Q 0)), (1, vL sr), (3, vL sx), (5, vL (a 14)), (7, vL (a 15)), (9, vL (a 16))]) [1, 2, 3, 4, 5, 0] (by decide) rfl rfl dX11_finds_25 rfl ?_
  refine g_lload_n C 1 rfl dX11_finds_27 rfl ?_
  refine g_lload C 4 rfl dX11_finds_28 rfl ?_
  refine g_ladd C rfl dX11_finds_30 rfl ?_
  refine g_lstore C (lv' := [(0, vR (Q 0)), (1, vL sr), (3, vL sx), (5, vL (a 14)), (7, vL (a 15)), (9, vL (a 16)), (11, vL (sr + (a 15)))]) [1, 2, 3, 4, 5, 6, 0] (by decide) rfl rfl dX11_finds_31 rfl ?_
  refine g_lload_n C 2 rfl dX11_finds_33 rfl ?_
  refine g_lload C 5 rfl dX11_finds_34 rfl ?_
  refine g_ladd C rfl dX11_finds_36 rfl ?_
  refine g_lstore C (lv' := [(0, vR (Q 0)), (1, vL sr), (3, vL sx), (5, vL (a 14)), (7, vL (a 15)), (9, vL (a 16)), (11, vL (sr + (a 15))), (13, vL (sx + (a 16)))]) [1, 2, 3, 4, 5, 6, 7, 0] (by decide) rfl rfl dX11_finds_37 rfl ?_
  have sb := sl_b he h1 h2 h3 h4
  refine g_lload C 6 rfl dX11_finds_39 rfl ?_
  refine g_lload C 6 rfl dX11_finds_41 rfl ?_
  refine g_lmul C rfl dX11_finds_43 rfl ?_
  refine g_lload C 7 rfl dX11_finds_44 rfl ?_
  refine g_lload C 7 rfl dX11_finds_46 rfl ?_
  refine g_lmul C rfl dX11_finds_48 rfl ?_
  refine g_ladd C rfl dX11_finds_49 rfl ?_
  refine g_top (v' := vL (slD (a 15) (a 16) sr sx)) rfl ?_
  refine g_lstore C (lv' := [(0, vR (Q 0)), (1, vL sr), (3, vL sx), (5, vL (a 14)), (7, vL (a 15)), (9, vL (a 16)), (11, vL (sr + (a 15))), (13, vL (sx + (a 16))), (15, vL (slD (a 15) (a 16) sr sx))]) [1, 2, 3, 4, 5, 6, 7, 8, 0] (by decide) rfl rfl dX11_finds_50 rfl ?_
  refine g_lload C 8 rfl dX11_finds_52 rfl ?_
  refine g_lconst0 C dX11_finds_54 rfl ?_
  refine g_lcmp_ne C (⟨by omega, by omega⟩) ⟨by decide, by decide⟩ dX11_finds_55 rfl (tgt := 61) dX11_finds_56 (by decide) rfl (fun c_1 => ?_) (fun c_1 => ?_)
  · exfalso; exact absurd hD (by assumption)
  refine g_iconst C dX11_finds_59 rfl ?_
  exact g_iret C hr (by decide) (Nat.le_of_ble_eq_true rfl) (Nat.le_of_ble_eq_true rfl) dX11_finds_60 ⟨rfl, rfl⟩

theorem w_X11_finds_k40 : Cond.constantLong RX11 40 (1000) ∈ wsX11_finds := by decide +kernel
theorem w_X11_finds_k134 : Cond.constantLong RX11 134 (-1000) ∈ wsX11_finds := by decide +kernel
theorem hyd_X11_limited : yX11_limited.cls ≠ "java/lang/invoke/MethodHandle" ∧ yX11_limited.cls ≠ "java/lang/invoke/VarHandle" ∧ (parseMethodDescriptor yX11_limited.desc).map (fun d => d.parameters.length) = some 1 := by decide +kernel
theorem fd_X11_finds_140 : fdk wsX11_finds RX11 140 "ZoneRelayModel" RX11 TX11 20 7 := ⟨in_X11_finds_X11, by decide +kernel, by decide, rfl⟩
theorem fd_X11_finds_144 : fdk wsX11_finds RX11 144 "ZoneRelayModel" RX11 TX11 20 8 := ⟨in_X11_finds_X11, by decide +kernel, by decide, rfl⟩
theorem fd_X11_finds_147 : fdk wsX11_finds RX11 147 "ZoneRelayModel" RX11 TX11 20 9 := ⟨in_X11_finds_X11, by decide +kernel, by decide, rfl⟩
theorem fd_X11_finds_150 : fdk wsX11_finds RX11 150 "ZoneRelayModel" RX11 TX11 20 10 := ⟨in_X11_finds_X11, by decide +kernel, by decide, rfl⟩
abbrev rm_K_m_finds1 : Room := { frames := 1, cells := 0, slots := 0, locals := 21 }
set_option maxHeartbeats 400000 in
set_option maxRecDepth 100000 in
theorem K_m_finds1 (l : Launch) (E : Ev) (Q : Nat → Nat) (pn f0 f1 f2 f3 px py pb rg wr rn wn : Int) (a : Int → Int) (sr sx : Int) (he : 0 ≤ a 14 ∧ a 14 ≤ 20000) (h1 : 0 ≤ a 15 ∧ a 15 ≤ 20000) (h2 : 0 ≤ a 16 ∧ a 16 ≤ 20000) (h3 : 0 ≤ sr ∧ sr ≤ 40000) (h4 : 0 ≤ sx ∧ sx ≤ 40000) (hD : ¬ slD (a 15) (a 16) sr sx = 0) : Mc l yX11_finds wsX11_finds rm_K_m_finds1 E [vR (Q 0), vL sr, vL sx] [((Q 0), .inr (12, [vR (Q 1), vR (Q 2), vR (Q 3), vR (Q 4), vR (Q 5), vI pn, vR (Q 6), vL f0, vL f1, vL f2, vL f3, vL px, vL py, vL pb, vI rg, vI wr, vR (Q 7), vI rn, vR (Q 8), vI wn])), ((Q 1), cL E 310 a)] 0 0 (fun v9 w9 => v9 = some (vI 1) ∧ w9 = [((Q 0), .inr (12, [vR (Q 1), vR (Q 2), vR (Q 3), vR (Q 4), vR (Q 5), vI pn, vR (Q 6), vL (lim (slVa (a 14) (a 15) (a 16) sr sx)), vL (lim (slVb (a 14) (a 15) (a 16) sr sx)), vL (lim (slIa (a 14) (a 15) (a 16) sr sx)), vL (lim (slIb (a 14) (a 15) (a 16) sr sx)), vL px, vL py, vL pb, vI rg, vI wr, vR (Q 7), vI rn, vR (Q 8), vI wn])), ((Q 1), cL E 310 a)]) := by
  refine Mc.intro (cc := cX11_finds) (maxL := 21) (ret := (some .boolean)) (lv0 := [(0, vR (Q 0)), (1, vL sr), (3, vL sx)]) (by decide +kernel) rfl rfl (Nat.le_of_ble_eq_true rfl) ?_
  intro p9 e9 s9 m9 args9 below9 meth9 c9 A9 C hr hmn
  have C : Cx p9 s9 m9 args9 meth9 c9 E A9 21 cX11_finds wsX11_finds RX11 := C
  refine g_aload_n C 0 rfl dX11_finds_0 rfl ?_
  refine g_get C 0 fd_X11_finds_7 rfl rfl rfl dX11_finds_1 rfl ?_
  refine g_bipush C (by decide) dX11_finds_4 rfl ?_
  refine g_lald C 1 rfl (by decide) (by decide) (by decide) rfl dX11_finds_6 rfl ?_
  refine g_lstore C (lv' := [(0, vR (Q 0)), (1, vL sr), (3, vL sx), (5, vL (a 14))]) [1, 2, 3, 0] (by decide) rfl rfl dX11_finds_7 rfl ?_
  refine g_aload_n C 0 rfl dX11_finds_9 rfl ?_
  refine g_get C 0 fd_X11_finds_7 rfl rfl rfl dX11_finds_10 rfl ?_
  refine g_bipush C (by decide) dX11_finds_13 rfl ?_
  refine g_lald C 1 rfl (by decide) (by decide) (by decide) rfl dX11_finds_15 rfl ?_
  refine g_lstore C (lv' := [(0, vR (Q 0)), (1, vL sr), (3, vL sx), (5, vL (a 14)), (7, vL (a 15))]) [1, 2, 3, 4, 0] (by decide) rfl rfl dX11_finds_16 rfl ?_
  refine g_aload_n C 0 rfl dX11_finds_18 rfl ?_
  refine g_get C 0 fd_X11_finds_7 rfl rfl rfl dX11_finds_19 rfl ?_
  refine g_bipush C (by decide) dX11_finds_22 rfl ?_
  refine g_lald C 1 rfl (by decide) (by decide) (by decide) rfl dX11_finds_24 rfl ?_
  refine g_lstore C (lv' := [(0, vR (Q 0)), (1, vL sr), (3, vL sx), (5, vL (a 14)), (7, vL (a 15)), (9, vL (a 16))]) [1, 2, 3, 4, 5, 0] (by decide) rfl rfl dX11_finds_25 rfl ?_
  refine g_lload_n C 1 rfl dX11_finds_27 rfl ?_
  refine g_lload C 4 rfl dX11_finds_28 rfl ?_
  refine g_ladd C rfl dX11_finds_30 rfl ?_
  refine g_lstore C (lv' := [(0, vR (Q 0)), (1, vL sr), (3, vL sx), (5, vL (a 14)), (7, vL (a 15)), (9, vL (a 16)), (11, vL (sr + (a 15)))]) [1, 2, 3, 4, 5, 6, 0] (by decide) rfl rfl dX11_finds_31 rfl ?_
  refine g_lload_n C 2 rfl dX11_finds_33 rfl ?_
  refine g_lload C 5 rfl dX11_finds_34 rfl ?_
  refine g_ladd C rfl dX11_finds_36 rfl ?_
  refine g_lstore C (lv' := [(0, vR (Q 0)), (1, vL sr), (3, vL sx), (5, vL (a 14)), (7, vL (a 15)), (9, vL (a 16)), (11, vL (sr + (a 15))), (13, vL (sx + (a 16)))]) [1, 2, 3, 4, 5, 6, 7, 0] (by decide) rfl rfl dX11_finds_37 rfl ?_
  have sb := sl_b he h1 h2 h3 h4
  refine g_lload C 6 rfl dX11_finds_39 rfl ?_
  refine g_lload C 6 rfl dX11_finds_41 rfl ?_
  refine g_lmul C rfl dX11_finds_43 rfl ?_
  refine g_lload C 7 rfl dX11_finds_44 rfl ?_
  refine g_lload C 7 rfl dX11_finds_46 rfl ?_
  refine g_lmul C rfl dX11_finds_48 rfl ?_
  refine g_ladd C rfl dX11_finds_49 rfl ?_
  refine g_top (v' := vL (slD (a 15) (a 16) sr sx)) rfl ?_
  refine g_lstore C (lv' := [(0, vR (Q 0)), (1, vL sr), (3, vL sx), (5, vL (a 14)), (7, vL (a 15)), (9, vL (a 16)), (11, vL (sr + (a 15))), (13, vL (sx + (a 16))), (15, vL (slD (a 15) (a 16) sr sx))]) [1, 2, 3, 4, 5, 6, 7, 8, 0] (by decide) rfl rfl dX11_finds_50 rfl ?_
  refine g_lload C 8 rfl dX11_finds_52 rfl ?_
  refine g_lconst0 C dX11_finds_54 rfl ?_
  refine g_lcmp_ne C (⟨by omega, by omega⟩) ⟨by decide, by decide⟩ dX11_finds_55 rfl (tgt := 61) dX11_finds_56 (by decide) rfl (fun c_1 => ?_) (fun c_1 => ?_)
  · refine g_ldc2 C (x := 1000) w_X11_finds_k40 (by decide) dX11_finds_61 rfl ?_
    refine g_lload C 3 rfl dX11_finds_64 rfl ?_
    refine g_lmul C rfl dX11_finds_66 rfl ?_
    refine g_lload C 6 rfl dX11_finds_67 rfl ?_
    refine g_lmul C rfl dX11_finds_69 rfl ?_
    refine g_lload C 8 rfl dX11_finds_70 rfl ?_
    refine g_ldiv C ⟨by omega, by omega⟩ (⟨by omega, by omega⟩) (by assumption) rfl dX11_finds_72 rfl ?_
    refine g_top (v' := vL (slIa (a 14) (a 15) (a 16) sr sx)) rfl ?_
    refine g_lstore C (lv' := [(0, vR (Q 0)), (1, vL sr), (3, vL sx), (5, vL (a 14)), (7, vL (a 15)), (9, vL (a 16)), (11, vL (sr + (a 15))), (13, vL (sx + (a 16))), (15, vL (slD (a 15) (a 16) sr sx)), (17, vL (slIa (a 14) (a 15) (a 16) sr sx))]) [1, 2, 3, 4, 5, 6, 7, 8, 9, 0] (by decide) rfl rfl dX11_finds_73 rfl ?_
    refine g_ldc2 C (x := (-1000)) w_X11_finds_k134 (by decide) dX11_finds_75 rfl ?_
    refine g_lload C 3 rfl dX11_finds_78 rfl ?_
    refine g_lmul C rfl dX11_finds_80 rfl ?_
    refine g_lload C 7 rfl dX11_finds_81 rfl ?_
    refine g_lmul C rfl dX11_finds_83 rfl ?_
    refine g_lload C 8 rfl dX11_finds_84 rfl ?_
    refine g_ldiv C ⟨by omega, by omega⟩ (⟨by omega, by omega⟩) (by assumption) rfl dX11_finds_86 rfl ?_
    refine g_top (v' := vL (slIb (a 14) (a 15) (a 16) sr sx)) rfl ?_
    refine g_lstore C (lv' := [(0, vR (Q 0)), (1, vL sr), (3, vL sx), (5, vL (a 14)), (7, vL (a 15)), (9, vL (a 16)), (11, vL (sr + (a 15))), (13, vL (sx + (a 16))), (15, vL (slD (a 15) (a 16) sr sx)), (17, vL (slIa (a 14) (a 15) (a 16) sr sx)), (19, vL (slIb (a 14) (a 15) (a 16) sr sx))]) [1, 2, 3, 4, 5, 6, 7, 8, 9, 10, 0] (by decide) rfl rfl dX11_finds_87 rfl ?_
    refine g_aload_n C 0 rfl dX11_finds_89 rfl ?_
    refine g_lload C 3 rfl dX11_finds_90 rfl ?_
    refine g_lload C 9 rfl dX11_finds_92 rfl ?_
    refine g_lload C 4 rfl dX11_finds_94 rfl ?_
    refine g_lmul C rfl dX11_finds_96 rfl ?_
    refine g_lload C 10 rfl dX11_finds_97 rfl ?_
    refine g_lload C 5 rfl dX11_finds_99 rfl ?_
    refine g_lmul C rfl dX11_finds_101 rfl ?_
    refine g_lsub C rfl dX11_finds_102 rfl ?_
    refine g_ldc2 C (x := 1000) w_X11_finds_k40 (by decide) dX11_finds_103 rfl ?_
    refine g_ldiv C ⟨by omega, by omega⟩ ⟨by decide, by decide⟩ (by decide) rfl dX11_finds_106 rfl ?_
    refine g_lsub C rfl dX11_finds_107 rfl ?_
    refine g_top (v' := vL (slVa (a 14) (a 15) (a 16) sr sx)) rfl ?_
    refine g_callS C (As := [vL (slVa (a 14) (a 15) (a 16) sr sx)]) (wc := []) (wr := [((Q 0), .inr (12, [vR (Q 1), vR (Q 2), vR (Q 3), vR (Q 4), vR (Q 5), vI pn, vR (Q 6), vL f0, vL f1, vL f2, vL f3, vL px, vL py, vL pb, vI rg, vI wr, vR (Q 7), vI rn, vR (Q 8), vI wn])), ((Q 1), cL E 310 a)]) (st := [vR (Q 0)]) gX11_finds_X11_limited rfl (K_m_lim l E (slVa (a 14) (a 15) (a 16) sr sx) ⟨by omega, by omega⟩) hyd_X11_limited rfl [] [0, 1] rfl rfl rfl rfl rfl (by decide) ⟨rfl, rfl⟩ ⟨Nat.le_of_ble_eq_true rfl, Nat.le_of_ble_eq_true rfl, Nat.le_of_ble_eq_true rfl, Nat.le_of_ble_eq_true rfl⟩ (Nat.le_of_ble_eq_true rfl) dX11_finds_108 (rfl : _ = 0) (rfl : _ = 0) rfl ?_
    rintro _ _ ⟨rfl, rfl⟩
    refine g_is (ws' := [((Q 0), .inr (12, [vR (Q 1), vR (Q 2), vR (Q 3), vR (Q 4), vR (Q 5), vI pn, vR (Q 6), vL f0, vL f1, vL f2, vL f3, vL px, vL py, vL pb, vI rg, vI wr, vR (Q 7), vI rn, vR (Q 8), vI wn])), ((Q 1), cL E 310 a)]) (st' := [vL (lim (slVa (a 14) (a 15) (a 16) sr sx)), vR (Q 0)]) rfl rfl ?_
    refine g_put C tyX11 tyX11_ok nmX11 0 fd_X11_finds_140 rfl rfl rfl rfl rfl rfl (Nat.le_of_ble_eq_true rfl) (ws' := [((Q 0), .inr (12, [vR (Q 1), vR (Q 2), vR (Q 3), vR (Q 4), vR (Q 5), vI pn, vR (Q 6), vL (lim (slVa (a 14) (a 15) (a 16) sr sx)), vL f1, vL f2, vL f3, vL px, vL py, vL pb, vI rg, vI wr, vR (Q 7), vI rn, vR (Q 8), vI wn])), ((Q 1), cL E 310 a)]) rfl dX11_finds_111 rfl ?_
    refine g_aload_n C 0 rfl dX11_finds_114 rfl ?_
    refine g_lload C 9 rfl dX11_finds_115 rfl ?_
    refine g_lload C 5 rfl dX11_finds_117 rfl ?_
    refine g_lmul C rfl dX11_finds_119 rfl ?_
    refine g_lload C 10 rfl dX11_finds_120 rfl ?_
    refine g_lload C 4 rfl dX11_finds_122 rfl ?_
    refine g_lmul C rfl dX11_finds_124 rfl ?_
    refine g_ladd C rfl dX11_finds_125 rfl ?_
    refine g_lneg C rfl dX11_finds_126 rfl ?_
    refine g_ldc2 C (x := 1000) w_X11_finds_k40 (by decide) dX11_finds_127 rfl ?_
    refine g_ldiv C ⟨by omega, by omega⟩ ⟨by decide, by decide⟩ (by decide) rfl dX11_finds_130 rfl ?_
    refine g_top (v' := vL (slVb (a 14) (a 15) (a 16) sr sx)) rfl ?_
    refine g_callS C (As := [vL (slVb (a 14) (a 15) (a 16) sr sx)]) (wc := []) (wr := [((Q 0), .inr (12, [vR (Q 1), vR (Q 2), vR (Q 3), vR (Q 4), vR (Q 5), vI pn, vR (Q 6), vL (lim (slVa (a 14) (a 15) (a 16) sr sx)), vL f1, vL f2, vL f3, vL px, vL py, vL pb, vI rg, vI wr, vR (Q 7), vI rn, vR (Q 8), vI wn])), ((Q 1), cL E 310 a)]) (st := [vR (Q 0)]) gX11_finds_X11_limited rfl (K_m_lim l E (slVb (a 14) (a 15) (a 16) sr sx) ⟨by omega, by omega⟩) hyd_X11_limited rfl [] [0, 1] rfl rfl rfl rfl rfl (by decide) ⟨rfl, rfl⟩ ⟨Nat.le_of_ble_eq_true rfl, Nat.le_of_ble_eq_true rfl, Nat.le_of_ble_eq_true rfl, Nat.le_of_ble_eq_true rfl⟩ (Nat.le_of_ble_eq_true rfl) dX11_finds_131 (rfl : _ = 0) (rfl : _ = 0) rfl ?_
    rintro _ _ ⟨rfl, rfl⟩
    refine g_is (ws' := [((Q 0), .inr (12, [vR (Q 1), vR (Q 2), vR (Q 3), vR (Q 4), vR (Q 5), vI pn, vR (Q 6), vL (lim (slVa (a 14) (a 15) (a 16) sr sx)), vL f1, vL f2, vL f3, vL px, vL py, vL pb, vI rg, vI wr, vR (Q 7), vI rn, vR (Q 8), vI wn])), ((Q 1), cL E 310 a)]) (st' := [vL (lim (slVb (a 14) (a 15) (a 16) sr sx)), vR (Q 0)]) rfl rfl ?_
    refine g_put C tyX11 tyX11_ok nmX11 0 fd_X11_finds_144 rfl rfl rfl rfl rfl rfl (Nat.le_of_ble_eq_true rfl) (ws' := [((Q 0), .inr (12, [vR (Q 1), vR (Q 2), vR (Q 3), vR (Q 4), vR (Q 5), vI pn, vR (Q 6), vL (lim (slVa (a 14) (a 15) (a 16) sr sx)), vL (lim (slVb (a 14) (a 15) (a 16) sr sx)), vL f2, vL f3, vL px, vL py, vL pb, vI rg, vI wr, vR (Q 7), vI rn, vR (Q 8), vI wn])), ((Q 1), cL E 310 a)]) rfl dX11_finds_134 rfl ?_
    refine g_aload_n C 0 rfl dX11_finds_137 rfl ?_
    refine g_lload C 9 rfl dX11_finds_138 rfl ?_
    refine g_callS C (As := [vL (slIa (a 14) (a 15) (a 16) sr sx)]) (wc := []) (wr := [((Q 0), .inr (12, [vR (Q 1), vR (Q 2), vR (Q 3), vR (Q 4), vR (Q 5), vI pn, vR (Q 6), vL (lim (slVa (a 14) (a 15) (a 16) sr sx)), vL (lim (slVb (a 14) (a 15) (a 16) sr sx)), vL f2, vL f3, vL px, vL py, vL pb, vI rg, vI wr, vR (Q 7), vI rn, vR (Q 8), vI wn])), ((Q 1), cL E 310 a)]) (st := [vR (Q 0)]) gX11_finds_X11_limited rfl (K_m_lim l E (slIa (a 14) (a 15) (a 16) sr sx) ⟨by omega, by omega⟩) hyd_X11_limited rfl [] [0, 1] rfl rfl rfl rfl rfl (by decide) ⟨rfl, rfl⟩ ⟨Nat.le_of_ble_eq_true rfl, Nat.le_of_ble_eq_true rfl, Nat.le_of_ble_eq_true rfl, Nat.le_of_ble_eq_true rfl⟩ (Nat.le_of_ble_eq_true rfl) dX11_finds_140 (rfl : _ = 0) (rfl : _ = 0) rfl ?_
    rintro _ _ ⟨rfl, rfl⟩
    refine g_is (ws' := [((Q 0), .inr (12, [vR (Q 1), vR (Q 2), vR (Q 3), vR (Q 4), vR (Q 5), vI pn, vR (Q 6), vL (lim (slVa (a 14) (a 15) (a 16) sr sx)), vL (lim (slVb (a 14) (a 15) (a 16) sr sx)), vL f2, vL f3, vL px, vL py, vL pb, vI rg, vI wr, vR (Q 7), vI rn, vR (Q 8), vI wn])), ((Q 1), cL E 310 a)]) (st' := [vL (lim (slIa (a 14) (a 15) (a 16) sr sx)), vR (Q 0)]) rfl rfl ?_
    refine g_put C tyX11 tyX11_ok nmX11 0 fd_X11_finds_147 rfl rfl rfl rfl rfl rfl (Nat.le_of_ble_eq_true rfl) (ws' := [((Q 0), .inr (12, [vR (Q 1), vR (Q 2), vR (Q 3), vR (Q 4), vR (Q 5), vI pn, vR (Q 6), vL (lim (slVa (a 14) (a 15) (a 16) sr sx)), vL (lim (slVb (a 14) (a 15) (a 16) sr sx)), vL (lim (slIa (a 14) (a 15) (a 16) sr sx)), vL f3, vL px, vL py, vL pb, vI rg, vI wr, vR (Q 7), vI rn, vR (Q 8), vI wn])), ((Q 1), cL E 310 a)]) rfl dX11_finds_143 rfl ?_
    refine g_aload_n C 0 rfl dX11_finds_146 rfl ?_
    refine g_lload C 10 rfl dX11_finds_147 rfl ?_
    refine g_callS C (As := [vL (slIb (a 14) (a 15) (a 16) sr sx)]) (wc := []) (wr := [((Q 0), .inr (12, [vR (Q 1), vR (Q 2), vR (Q 3), vR (Q 4), vR (Q 5), vI pn, vR (Q 6), vL (lim (slVa (a 14) (a 15) (a 16) sr sx)), vL (lim (slVb (a 14) (a 15) (a 16) sr sx)), vL (lim (slIa (a 14) (a 15) (a 16) sr sx)), vL f3, vL px, vL py, vL pb, vI rg, vI wr, vR (Q 7), vI rn, vR (Q 8), vI wn])), ((Q 1), cL E 310 a)]) (st := [vR (Q 0)]) gX11_finds_X11_limited rfl (K_m_lim l E (slIb (a 14) (a 15) (a 16) sr sx) ⟨by omega, by omega⟩) hyd_X11_limited rfl [] [0, 1] rfl rfl rfl rfl rfl (by decide) ⟨rfl, rfl⟩ ⟨Nat.le_of_ble_eq_true rfl, Nat.le_of_ble_eq_true rfl, Nat.le_of_ble_eq_true rfl, Nat.le_of_ble_eq_true rfl⟩ (Nat.le_of_ble_eq_true rfl) dX11_finds_149 (rfl : _ = 0) (rfl : _ = 0) rfl ?_
    rintro _ _ ⟨rfl, rfl⟩
    refine g_is (ws' := [((Q 0), .inr (12, [vR (Q 1), vR (Q 2), vR (Q 3), vR (Q 4), vR (Q 5), vI pn, vR (Q 6), vL (lim (slVa (a 14) (a 15) (a 16) sr sx)), vL (lim (slVb (a 14) (a 15) (a 16) sr sx)), vL (lim (slIa (a 14) (a 15) (a 16) sr sx)), vL f3, vL px, vL py, vL pb, vI rg, vI wr, vR (Q 7), vI rn, vR (Q 8), vI wn])), ((Q 1), cL E 310 a)]) (st' := [vL (lim (slIb (a 14) (a 15) (a 16) sr sx)), vR (Q 0)]) rfl rfl ?_
    refine g_put C tyX11 tyX11_ok nmX11 0 fd_X11_finds_150 rfl rfl rfl rfl rfl rfl (Nat.le_of_ble_eq_true rfl) (ws' := [((Q 0), .inr (12, [vR (Q 1), vR (Q 2), vR (Q 3), vR (Q 4), vR (Q 5), vI pn, vR (Q 6), vL (lim (slVa (a 14) (a 15) (a 16) sr sx)), vL (lim (slVb (a 14) (a 15) (a 16) sr sx)), vL (lim (slIa (a 14) (a 15) (a 16) sr sx)), vL (lim (slIb (a 14) (a 15) (a 16) sr sx)), vL px, vL py, vL pb, vI rg, vI wr, vR (Q 7), vI rn, vR (Q 8), vI wn])), ((Q 1), cL E 310 a)]) rfl dX11_finds_152 rfl ?_
    refine g_iconst C dX11_finds_155 rfl ?_
    exact g_iret C hr (by decide) (Nat.le_of_ble_eq_true rfl) (Nat.le_of_ble_eq_true rfl) dX11_finds_156 ⟨rfl, rfl⟩
  exfalso; exact absurd (by assumption) hD

theorem in_X11_applyFound_X11 : ∀ w ∈ u_ws RX11 TX11 20, w ∈ wsX11_applyFound := by decide +kernel
theorem fd_X11_applyFound_140 : fdk wsX11_applyFound RX11 140 "ZoneRelayModel" RX11 TX11 20 7 := ⟨in_X11_applyFound_X11, by decide +kernel, by decide, rfl⟩
theorem fd_X11_applyFound_144 : fdk wsX11_applyFound RX11 144 "ZoneRelayModel" RX11 TX11 20 8 := ⟨in_X11_applyFound_X11, by decide +kernel, by decide, rfl⟩
theorem fd_X11_applyFound_147 : fdk wsX11_applyFound RX11 147 "ZoneRelayModel" RX11 TX11 20 9 := ⟨in_X11_applyFound_X11, by decide +kernel, by decide, rfl⟩
theorem fd_X11_applyFound_150 : fdk wsX11_applyFound RX11 150 "ZoneRelayModel" RX11 TX11 20 10 := ⟨in_X11_applyFound_X11, by decide +kernel, by decide, rfl⟩
theorem hyd_X11_putFour : yX11_putFour.cls ≠ "java/lang/invoke/MethodHandle" ∧ yX11_putFour.cls ≠ "java/lang/invoke/VarHandle" ∧ (parseMethodDescriptor yX11_putFour.desc).map (fun d => d.parameters.length) = some 5 := by decide +kernel
theorem fd_X11_applyFound_7 : fdk wsX11_applyFound RX11 7 "ZoneRelayModel" RX11 TX11 20 0 := ⟨in_X11_applyFound_X11, by decide +kernel, by decide, rfl⟩
abbrev rm_K_m_applyF : Room := { frames := 1, cells := 0, slots := 0, locals := 29 }
set_option maxHeartbeats 400000 in
set_option maxRecDepth 100000 in
theorem K_m_applyF (l : Launch) (E : Ev) (Q : Nat → Nat) (pn f0 f1 f2 f3 px py pb rg wr rn wn : Int) (a : Int → Int)  : Mc l yX11_applyFound wsX11_applyFound rm_K_m_applyF E [vR (Q 0)] [((Q 0), .inr (12, [vR (Q 1), vR (Q 2), vR (Q 3), vR (Q 4), vR (Q 5), vI pn, vR (Q 6), vL f0, vL f1, vL f2, vL f3, vL px, vL py, vL pb, vI rg, vI wr, vR (Q 7), vI rn, vR (Q 8), vI wn])), ((Q 1), cL E 310 a)] 0 0 (fun v9 w9 => v9 = none ∧ w9 = [((Q 0), .inr (12, [vR (Q 1), vR (Q 2), vR (Q 3), vR (Q 4), vR (Q 5), vI pn, vR (Q 6), vL f0, vL f1, vL f2, vL f3, vL px, vL py, vL pb, vI rg, vI wr, vR (Q 7), vI rn, vR (Q 8), vI wn])), ((Q 1), cL E 310 (ua (ua (ua (ua (ua a 0 f0) (0 + 1) f1) (0 + 2) f2) (0 + 3) f3) 4 0))]) := by
  refine Mc.intro (cc := cX11_applyFound) (maxL := 1) (ret := none) (lv0 := [(0, vR (Q 0))]) (by decide +kernel) rfl rfl (Nat.le_of_ble_eq_true rfl) ?_
  intro p9 e9 s9 m9 args9 below9 meth9 c9 A9 C hr hmn
  have C : Cx p9 s9 m9 args9 meth9 c9 E A9 1 cX11_applyFound wsX11_applyFound RX11 := C
  refine g_aload_n C 0 rfl dX11_applyFound_0 rfl ?_
  refine g_iconst C dX11_applyFound_1 rfl ?_
  refine g_aload_n C 0 rfl dX11_applyFound_2 rfl ?_
  refine g_get C 0 fd_X11_applyFound_140 rfl rfl rfl dX11_applyFound_3 rfl ?_
  refine g_aload_n C 0 rfl dX11_applyFound_6 rfl ?_
  refine g_get C 0 fd_X11_applyFound_144 rfl rfl rfl dX11_applyFound_7 rfl ?_
  refine g_aload_n C 0 rfl dX11_applyFound_10 rfl ?_
  refine g_get C 0 fd_X11_applyFound_147 rfl rfl rfl dX11_applyFound_11 rfl ?_
  refine g_aload_n C 0 rfl dX11_applyFound_14 rfl ?_
  refine g_get C 0 fd_X11_applyFound_150 rfl rfl rfl dX11_applyFound_15 rfl ?_
  refine g_callV C (b := (Q 0)) (As := [vI 0, vL f0, vL f1, vL f2, vL f3]) (wc := [((Q 0), .inr (12, [vR (Q 1), vR (Q 2), vR (Q 3), vR (Q 4), vR (Q 5), vI pn, vR (Q 6), vL f0, vL f1, vL f2, vL f3, vL px, vL py, vL pb, vI rg, vI wr, vR (Q 7), vI rn, vR (Q 8), vI wn])), ((Q 1), cL E 310 a)]) (wr := []) (st := []) gX11_applyFound_X11_putFour (q9 := 0) (ci := 12) rfl rfl rfl (K_m_putFour l E Q pn f0 f1 f2 f3 px py pb rg wr rn wn a 0 f0 f1 f2 f3 ⟨by decide, by decide⟩) hyd_X11_putFour rfl [0, 1] [] rfl rfl rfl rfl rfl (by decide) ⟨rfl, rfl⟩ ⟨Nat.le_of_ble_eq_true rfl, Nat.le_of_ble_eq_true rfl, Nat.le_of_ble_eq_true rfl, Nat.le_of_ble_eq_true rfl⟩ (Nat.le_of_ble_eq_true rfl) dX11_applyFound_18 (rfl : _ = 0) (rfl : _ = 0) rfl ?_
  rintro _ _ ⟨rfl, rfl⟩
  refine g_is (ws' := [((Q 0), .inr (12, [vR (Q 1), vR (Q 2), vR (Q 3), vR (Q 4), vR (Q 5), vI pn, vR (Q 6), vL f0, vL f1, vL f2, vL f3, vL px, vL py, vL pb, vI rg, vI wr, vR (Q 7), vI rn, vR (Q 8), vI wn])), ((Q 1), cL E 310 (ua (ua (ua (ua a 0 f0) (0 + 1) f1) (0 + 2) f2) (0 + 3) f3))]) (st' := []) rfl rfl ?_
  refine g_aload_n C 0 rfl dX11_applyFound_21 rfl ?_
  refine g_get C 0 fd_X11_applyFound_7 rfl rfl rfl dX11_applyFound_22 rfl ?_
  refine g_iconst C dX11_applyFound_25 rfl ?_
  refine g_lconst0 C dX11_applyFound_26 rfl ?_
  refine g_last C 1 rfl (by decide) (by decide) (by decide) (ws' := [((Q 0), .inr (12, [vR (Q 1), vR (Q 2), vR (Q 3), vR (Q 4), vR (Q 5), vI pn, vR (Q 6), vL f0, vL f1, vL f2, vL f3, vL px, vL py, vL pb, vI rg, vI wr, vR (Q 7), vI rn, vR (Q 8), vI wn])), ((Q 1), cL E 310 (ua (ua (ua (ua (ua a 0 f0) (0 + 1) f1) (0 + 2) f2) (0 + 3) f3) 4 0))]) rfl dX11_applyFound_27 rfl ?_
  exact g_vret C hr (Nat.le_of_ble_eq_true rfl) (Nat.le_of_ble_eq_true rfl) dX11_applyFound_28 ⟨rfl, rfl⟩

theorem in_X11_findsFault_X11 : ∀ w ∈ u_ws RX11 TX11 20, w ∈ wsX11_findsFault := by decide +kernel
theorem fd_X11_findsFault_7 : fdk wsX11_findsFault RX11 7 "ZoneRelayModel" RX11 TX11 20 0 := ⟨in_X11_findsFault_X11, by decide +kernel, by decide, rfl⟩
theorem w_X11_findsFault_k40 : Cond.constantLong RX11 40 (1000) ∈ wsX11_findsFault := by decide +kernel
theorem hyd_X11_finds : yX11_finds.cls ≠ "java/lang/invoke/MethodHandle" ∧ yX11_finds.cls ≠ "java/lang/invoke/VarHandle" ∧ (parseMethodDescriptor yX11_finds.desc).map (fun d => d.parameters.length) = some 2 := by decide +kernel
abbrev rm_K_m_fF0 : Room := { frames := 1, cells := 0, slots := 0, locals := 40 }
set_option maxHeartbeats 400000 in
set_option maxRecDepth 100000 in
theorem K_m_fF0 (l : Launch) (E : Ev) (Q : Nat → Nat) (pn f0 f1 f2 f3 px py pb rg wr rn wn : Int) (a : Int → Int) (p q : Int) (he : 0 ≤ a 14 ∧ a 14 ≤ 20000) (h1 : 0 ≤ a 15 ∧ a 15 ≤ 20000) (h2 : 0 ≤ a 16 ∧ a 16 ≤ 20000) (h5 : 0 ≤ a 17 ∧ a 17 ≤ 20000) (h6 : 0 ≤ a 18 ∧ a 18 ≤ 20000) (hp : 0 ≤ p ∧ p ≤ 1000) (hq : 0 ≤ q ∧ q ≤ 20000) (hD : slD (a 15) (a 16) (Int.tdiv (a 17 * p) 1000 + q) (Int.tdiv (a 18 * p) 1000) = 0) : Mc l yX11_findsFault wsX11_findsFault rm_K_m_fF0 E [vR (Q 0), vI p, vI q] [((Q 0), .inr (12, [vR (Q 1), vR (Q 2), vR (Q 3), vR (Q 4), vR (Q 5), vI pn, vR (Q 6), vL f0, vL f1, vL f2, vL f3, vL px, vL py, vL pb, vI rg, vI wr, vR (Q 7), vI rn, vR (Q 8), vI wn])), ((Q 1), cL E 310 a)] 0 0 (fun v9 w9 => v9 = some (vI 0) ∧ w9 = [((Q 0), .inr (12, [vR (Q 1), vR (Q 2), vR (Q 3), vR (Q 4), vR (Q 5), vI pn, vR (Q 6), vL f0, vL f1, vL f2, vL f3, vL px, vL py, vL pb, vI rg, vI wr, vR (Q 7), vI rn, vR (Q 8), vI wn])), ((Q 1), cL E 310 a)]) := by
  refine Mc.intro (cc := cX11_findsFault) (maxL := 3) (ret := (some .boolean)) (lv0 := [(0, vR (Q 0)), (1, vI p), (2, vI q)]) (by decide +kernel) rfl rfl (Nat.le_of_ble_eq_true rfl) ?_
  intro p9 e9 s9 m9 args9 below9 meth9 c9 A9 C hr hmn
  have C : Cx p9 s9 m9 args9 meth9 c9 E A9 3 cX11_findsFault wsX11_findsFault RX11 := C
  have fa := mul_b (x := a 17) (y := p) (A := 20000) (B := 1000) (by omega) (by omega)
  have fb := mul_b (x := a 18) (y := p) (A := 20000) (B := 1000) (by omega) (by omega)
  have fc := fz_b h5 hp
  have fd := fz_b h6 hp
  refine g_aload_n C 0 rfl dX11_findsFault_0 rfl ?_
  refine g_aload_n C 0 rfl dX11_findsFault_1 rfl ?_
  refine g_get C 0 fd_X11_findsFault_7 rfl rfl rfl dX11_findsFault_2 rfl ?_
  refine g_bipush C (by decide) dX11_findsFault_5 rfl ?_
  refine g_lald C 1 rfl (by decide) (by decide) (by decide) rfl dX11_findsFault_7 rfl ?_
  refine g_iload_n C 1 rfl dX11_findsFault_8 rfl ?_
  refine g_i2l C ⟨by omega, by omega⟩ rfl dX11_findsFault_9 rfl ?_
  refine g_lmul C rfl dX11_findsFault_10 rfl ?_
  refine g_ldc2 C (x := 1000) w_X11_findsFault_k40 (by decide) dX11_findsFault_11 rfl ?_
  refine g_ldiv C ⟨by omega, by omega⟩ ⟨by decide, by decide⟩ (by decide) rfl dX11_findsFault_14 rfl ?_
  refine g_iload_n C 2 rfl dX11_findsFault_15 rfl ?_
  refine g_i2l C ⟨by omega, by omega⟩ rfl dX11_findsFault_16 rfl ?_
  refine g_ladd C rfl dX11_findsFault_17 rfl ?_
  refine g_aload_n C 0 rfl dX11_findsFault_18 rfl ?_
  refine g_get C 0 fd_X11_findsFault_7 rfl rfl rfl dX11_findsFault_19 rfl ?_
  refine g_bipush C (by decide) dX11_findsFault_22 rfl ?_
  refine g_lald C 1 rfl (by decide) (by decide) (by decide) rfl dX11_findsFault_24 rfl ?_
  refine g_iload_n C 1 rfl dX11_findsFault_25 rfl ?_
  refine g_i2l C ⟨by omega, by omega⟩ rfl dX11_findsFault_26 rfl ?_
  refine g_lmul C rfl dX11_findsFault_27 rfl ?_
  refine g_ldc2 C (x := 1000) w_X11_findsFault_k40 (by decide) dX11_findsFault_28 rfl ?_
  refine g_ldiv C ⟨by omega, by omega⟩ ⟨by decide, by decide⟩ (by decide) rfl dX11_findsFault_31 rfl ?_
  refine g_callV C (b := (Q 0)) (As := [vL ((Int.tdiv ((a 17) * p) 1000) + q), vL (Int.tdiv ((a 18) * p) 1000)]) (wc := [((Q 0), .inr (12, [vR (Q 1), vR (Q 2), vR (Q 3), vR (Q 4), vR (Q 5), vI pn, vR (Q 6), vL f0, vL f1, vL f2, vL f3, vL px, vL py, vL pb, vI rg, vI wr, vR (Q 7), vI rn, vR (Q 8), vI wn])), ((Q 1), cL E 310 a)]) (wr := []) (st := []) gX11_findsFault_X11_finds (q9 := 0) (ci := 12) rfl rfl rfl (K_m_finds0 l E Q pn f0 f1 f2 f3 px py pb rg wr rn wn a ((Int.tdiv ((a 17) * p) 1000) + q) (Int.tdiv ((a 18) * p) 1000) he h1 h2 (by omega) (by omega) hD) hyd_X11_finds rfl [0, 1] [] rfl rfl rfl rfl rfl (by decide) ⟨rfl, rfl⟩ ⟨Nat.le_of_ble_eq_true rfl, Nat.le_of_ble_eq_true rfl, Nat.le_of_ble_eq_true rfl, Nat.le_of_ble_eq_true rfl⟩ (Nat.le_of_ble_eq_true rfl) dX11_findsFault_32 (rfl : _ = 0) (rfl : _ = 0) rfl ?_
  rintro _ _ ⟨rfl, rfl⟩
  refine g_is (ws' := [((Q 0), .inr (12, [vR (Q 1), vR (Q 2), vR (Q 3), vR (Q 4), vR (Q 5), vI pn, vR (Q 6), vL f0, vL f1, vL f2, vL f3, vL px, vL py, vL pb, vI rg, vI wr, vR (Q 7), vI rn, vR (Q 8), vI wn])), ((Q 1), cL E 310 a)]) (st' := [vI 0]) rfl rfl ?_
  exact g_iret C hr (by decide) (Nat.le_of_ble_eq_true rfl) (Nat.le_of_ble_eq_true rfl) dX11_findsFault_35 ⟨rfl, rfl⟩

theorem in_X11_findsHealthy_X11 : ∀ w ∈ u_ws RX11 TX11 20, w ∈ wsX11_findsHealthy := by decide +kernel
theorem fd_X11_findsHealthy_7 : fdk wsX11_findsHealthy RX11 7 "ZoneRelayModel" RX11 TX11 20 0 := ⟨in_X11_findsHealthy_X11, by decide +kernel, by decide, rfl⟩
abbrev rm_K_m_fH0 : Room := { frames := 1, cells := 0, slots := 0, locals := 40 }
set_option maxHeartbeats 400000 in
set_option maxRecDepth 100000 in
theorem K_m_fH0 (l : Launch) (E : Ev) (Q : Nat → Nat) (pn f0 f1 f2 f3 px py pb rg wr rn wn : Int) (a : Int → Int) (he : 0 ≤ a 14 ∧ a 14 ≤ 20000) (h1 : 0 ≤ a 15 ∧ a 15 ≤ 20000) (h2 : 0 ≤ a 16 ∧ a 16 ≤ 20000) (h5 : 0 ≤ a 17 ∧ a 17 ≤ 20000) (h6 : 0 ≤ a 18 ∧ a 18 ≤ 20000) (h7 : 0 ≤ a 19 ∧ a 19 ≤ 20000) (h8 : 0 ≤ a 20 ∧ a 20 ≤ 20000) (hD : slD (a 15) (a 16) (a 17 + a 19) (a 18 + a 20) = 0) : Mc l yX11_findsHealthy wsX11_findsHealthy rm_K_m_fH0 E [vR (Q 0)] [((Q 0), .inr (12, [vR (Q 1), vR (Q 2), vR (Q 3), vR (Q 4), vR (Q 5), vI pn, vR (Q 6), vL f0, vL f1, vL f2, vL f3, vL px, vL py, vL pb, vI rg, vI wr, vR (Q 7), vI rn, vR (Q 8), vI wn])), ((Q 1), cL E 310 a)] 0 0 (fun v9 w9 => v9 = some (vI 0) ∧ w9 = [((Q 0), .inr (12, [vR (Q 1), vR (Q 2), vR (Q 3), vR (Q 4), vR (Q 5), vI pn, vR (Q 6), vL f0, vL f1, vL f2, vL f3, vL px, vL py, vL pb, vI rg, vI wr, vR (Q 7), vI rn, vR (Q 8), vI wn])), ((Q 1), cL E 310 a)]) := by
  refine Mc.intro (cc := cX11_findsHealthy) (maxL := 1) (ret := (some .boolean)) (lv0 := [(0, vR (Q 0))]) (by decide +kernel) rfl rfl (Nat.le_of_ble_eq_true rfl) ?_
  intro p9 e9 s9 m9 args9 below9 meth9 c9 A9 C hr hmn
  have C : Cx p9 s9 m9 args9 meth9 c9 E A9 1 cX11_findsHealthy wsX11_findsHealthy RX11 := C
  refine g_aload_n C 0 rfl dX11_findsHealthy_0 rfl ?_
  refine g_aload_n C 0 rfl dX11_findsHealthy_1 rfl ?_
  refine g_get C 0 fd_X11_findsHealthy_7 rfl rfl rfl dX11_findsHealthy_2 rfl ?_
  refine g_bipush C (by decide) dX11_findsHealthy_5 rfl ?_
  refine g_lald C 1 rfl (by decide) (by decide) (by decide) rfl dX11_findsHealthy_7 rfl ?_
  refine g_aload_n C 0 rfl dX11_findsHealthy_8 rfl ?_
  refine g_get C 0 fd_X11_findsHealthy_7 rfl rfl rfl dX11_findsHealthy_9 rfl ?_
  refine g_bipush C (by decide) dX11_findsHealthy_12 rfl ?_
  refine g_lald C 1 rfl (by decide) (by decide) (by decide) rfl dX11_findsHealthy_14 rfl ?_
  refine g_ladd C rfl dX11_findsHealthy_15 rfl ?_
  refine g_aload_n C 0 rfl dX11_findsHealthy_16 rfl ?_
  refine g_get C 0 fd_X11_findsHealthy_7 rfl rfl rfl dX11_findsHealthy_17 rfl ?_
  refine g_bipush C (by decide) dX11_findsHealthy_20 rfl ?_
  refine g_lald C 1 rfl (by decide) (by decide) (by decide) rfl dX11_findsHealthy_22 rfl ?_
  refine g_aload_n C 0 rfl dX11_findsHealthy_23 rfl ?_
  refine g_get C 0 fd_X11_findsHealthy_7 rfl rfl rfl dX11_findsHealthy_24 rfl ?_
  refine g_bipush C (by decide) dX11_findsHealthy_27 rfl ?_
  refine g_lald C 1 rfl (by decide) (by decide) (by decide) rfl dX11_findsHealthy_29 rfl ?_
  refine g_ladd C rfl dX11_findsHealthy_30 rfl ?_
  refine g_callV C (b := (Q 0)) (As := [vL ((a 17) + (a 19)), vL ((a 18) + (a 20))]) (wc := [((Q 0), .inr (12, [vR (Q 1), vR (Q 2), vR (Q 3), vR (Q 4), vR (Q 5), vI pn, vR (Q 6), vL f0, vL f1, vL f2, vL f3, vL px, vL py, vL pb, vI rg, vI wr, vR (Q 7), vI rn, vR (Q 8), vI wn])), ((Q 1), cL E 310 a)]) (wr := []) (st := []) gX11_findsHealthy_X11_finds (q9 := 0) (ci := 12) rfl rfl rfl (K_m_finds0 l E Q pn f0 f1 f2 f3 px py pb rg wr rn wn a ((a 17) + (a 19)) ((a 18) + (a 20)) he h1 h2 (by omega) (by omega) hD) hyd_X11_finds rfl [0, 1] [] rfl rfl rfl rfl rfl (by decide) ⟨rfl, rfl⟩ ⟨Nat.le_of_ble_eq_true rfl, Nat.le_of_ble_eq_true rfl, Nat.le_of_ble_eq_true rfl, Nat.le_of_ble_eq_true rfl⟩ (Nat.le_of_ble_eq_true rfl) dX11_findsHealthy_31 (rfl : _ = 0) (rfl : _ = 0) rfl ?_
  rintro _ _ ⟨rfl, rfl⟩
  refine g_is (ws' := [((Q 0), .inr (12, [vR (Q 1), vR (Q 2), vR (Q 3), vR (Q 4), vR (Q 5), vI pn, vR (Q 6), vL f0, vL f1, vL f2, vL f3, vL px, vL py, vL pb, vI rg, vI wr, vR (Q 7), vI rn, vR (Q 8), vI wn])), ((Q 1), cL E 310 a)]) (st' := [vI 0]) rfl rfl ?_
  exact g_iret C hr (by decide) (Nat.le_of_ble_eq_true rfl) (Nat.le_of_ble_eq_true rfl) dX11_findsHealthy_34 ⟨rfl, rfl⟩

abbrev rm_K_m_fF1 : Room := { frames := 2, cells := 0, slots := 0, locals := 61 }
set_option maxHeartbeats 400000 in
set_option maxRecDepth 100000 in
theorem K_m_fF1 (l : Launch) (E : Ev) (Q : Nat → Nat) (pn f0 f1 f2 f3 px py pb rg wr rn wn : Int) (a : Int → Int) (p q : Int) (he : 0 ≤ a 14 ∧ a 14 ≤ 20000) (h1 : 0 ≤ a 15 ∧ a 15 ≤ 20000) (h2 : 0 ≤ a 16 ∧ a 16 ≤ 20000) (h5 : 0 ≤ a 17 ∧ a 17 ≤ 20000) (h6 : 0 ≤ a 18 ∧ a 18 ≤ 20000) (hp : 0 ≤ p ∧ p ≤ 1000) (hq : 0 ≤ q ∧ q ≤ 20000) (hD : ¬ slD (a 15) (a 16) (Int.tdiv (a 17 * p) 1000 + q) (Int.tdiv (a 18 * p) 1000) = 0) : Mc l yX11_findsFault wsX11_findsFault rm_K_m_fF1 E [vR (Q 0), vI p, vI q] [((Q 0), .inr (12, [vR (Q 1), vR (Q 2), vR (Q 3), vR (Q 4), vR (Q 5), vI pn, vR (Q 6), vL f0, vL f1, vL f2, vL f3, vL px, vL py, vL pb, vI rg, vI wr, vR (Q 7), vI rn, vR (Q 8), vI wn])), ((Q 1), cL E 310 a)] 0 0 (fun v9 w9 => v9 = some (vI 1) ∧ w9 = [((Q 0), .inr (12, [vR (Q 1), vR (Q 2), vR (Q 3), vR (Q 4), vR (Q 5), vI pn, vR (Q 6), vL (lim (slVa (a 14) (a 15) (a 16) ((Int.tdiv ((a 17) * p) 1000) + q) (Int.tdiv ((a 18) * p) 1000))), vL (lim (slVb (a 14) (a 15) (a 16) ((Int.tdiv ((a 17) * p) 1000) + q) (Int.tdiv ((a 18) * p) 1000))), vL (lim (slIa (a 14) (a 15) (a 16) ((Int.tdiv ((a 17) * p) 1000) + q) (Int.tdiv ((a 18) * p) 1000))), vL (lim (slIb (a 14) (a 15) (a 16) ((Int.tdiv ((a 17) * p) 1000) + q) (Int.tdiv ((a 18) * p) 1000))), vL px, vL py, vL pb, vI rg, vI wr, vR (Q 7), vI rn, vR (Q 8), vI wn])), ((Q 1), cL E 310 a)]) := by
  refine Mc.intro (cc := cX11_findsFault) (maxL := 3) (ret := (some .boolean)) (lv0 := [(0, vR (Q 0)), (1, vI p), (2, vI q)]) (by decide +kernel) rfl rfl (Nat.le_of_ble_eq_true rfl) ?_
  intro p9 e9 s9 m9 args9 below9 meth9 c9 A9 C hr hmn
  have C : Cx p9 s9 m9 args9 meth9 c9 E A9 3 cX11_findsFault wsX11_findsFault RX11 := C
  have fa := mul_b (x := a 17) (y := p) (A := 20000) (B := 1000) (by omega) (by omega)
  have fb := mul_b (x := a 18) (y := p) (A := 20000) (B := 1000) (by omega) (by omega)
  have fc := fz_b h5 hp
  have fd := fz_b h6 hp
  refine g_aload_n C 0 rfl dX11_findsFault_0 rfl ?_
  refine g_aload_n C 0 rfl dX11_findsFault_1 rfl ?_
  refine g_get C 0 fd_X11_findsFault_7 rfl rfl rfl dX11_findsFault_2 rfl ?_
  refine g_bipush C (by decide) dX11_findsFault_5 rfl ?_
  refine g_lald C 1 rfl (by decide) (by decide) (by decide) rfl dX11_findsFault_7 rfl ?_
  refine g_iload_n C 1 rfl dX11_findsFault_8 rfl ?_
  refine g_i2l C ⟨by omega, by omega⟩ rfl dX11_findsFault_9 rfl ?_
  refine g_lmul C rfl dX11_findsFault_10 rfl ?_
  refine g_ldc2 C (x := 1000) w_X11_findsFault_k40 (by decide) dX11_findsFault_11 rfl ?_
  refine g_ldiv C ⟨by omega, by omega⟩ ⟨by decide, by decide⟩ (by decide) rfl dX11_findsFault_14 rfl ?_
  refine g_iload_n C 2 rfl dX11_findsFault_15 rfl ?_
  refine g_i2l C ⟨by omega, by omega⟩ rfl dX11_findsFault_16 rfl ?_
  refine g_ladd C rfl dX11_findsFault_17 rfl ?_
  refine g_aload_n C 0 rfl dX11_findsFault_18 rfl ?_
  refine g_get C 0 fd_X11_findsFault_7 rfl rfl rfl dX11_findsFault_19 rfl ?_
  refine g_bipush C (by decide) dX11_findsFault_22 rfl ?_
  refine g_lald C 1 rfl (by decide) (by decide) (by decide) rfl dX11_findsFault_24 rfl ?_
  refine g_iload_n C 1 rfl dX11_findsFault_25 rfl ?_
  refine g_i2l C ⟨by omega, by omega⟩ rfl dX11_findsFault_26 rfl ?_
  refine g_lmul C rfl dX11_findsFault_27 rfl ?_
  refine g_ldc2 C (x := 1000) w_X11_findsFault_k40 (by decide) dX11_findsFault_28 rfl ?_
  refine g_ldiv C ⟨by omega, by omega⟩ ⟨by decide, by decide⟩ (by decide) rfl dX11_findsFault_31 rfl ?_
  refine g_callV C (b := (Q 0)) (As := [vL ((Int.tdiv ((a 17) * p) 1000) + q), vL (Int.tdiv ((a 18) * p) 1000)]) (wc := [((Q 0), .inr (12, [vR (Q 1), vR (Q 2), vR (Q 3), vR (Q 4), vR (Q 5), vI pn, vR (Q 6), vL f0, vL f1, vL f2, vL f3, vL px, vL py, vL pb, vI rg, vI wr, vR (Q 7), vI rn, vR (Q 8), vI wn])), ((Q 1), cL E 310 a)]) (wr := []) (st := []) gX11_findsFault_X11_finds (q9 := 0) (ci := 12) rfl rfl rfl (K_m_finds1 l E Q pn f0 f1 f2 f3 px py pb rg wr rn wn a ((Int.tdiv ((a 17) * p) 1000) + q) (Int.tdiv ((a 18) * p) 1000) he h1 h2 (by omega) (by omega) hD) hyd_X11_finds rfl [0, 1] [] rfl rfl rfl rfl rfl (by decide) ⟨rfl, rfl⟩ ⟨Nat.le_of_ble_eq_true rfl, Nat.le_of_ble_eq_true rfl, Nat.le_of_ble_eq_true rfl, Nat.le_of_ble_eq_true rfl⟩ (Nat.le_of_ble_eq_true rfl) dX11_findsFault_32 (rfl : _ = 0) (rfl : _ = 0) rfl ?_
  rintro _ _ ⟨rfl, rfl⟩
  refine g_is (ws' := [((Q 0), .inr (12, [vR (Q 1), vR (Q 2), vR (Q 3), vR (Q 4), vR (Q 5), vI pn, vR (Q 6), vL (lim (slVa (a 14) (a 15) (a 16) ((Int.tdiv ((a 17) * p) 1000) + q) (Int.tdiv ((a 18) * p) 1000))), vL (lim (slVb (a 14) (a 15) (a 16) ((Int.tdiv ((a 17) * p) 1000) + q) (Int.tdiv ((a 18) * p) 1000))), vL (lim (slIa (a 14) (a 15) (a 16) ((Int.tdiv ((a 17) * p) 1000) + q) (Int.tdiv ((a 18) * p) 1000))), vL (lim (slIb (a 14) (a 15) (a 16) ((Int.tdiv ((a 17) * p) 1000) + q) (Int.tdiv ((a 18) * p) 1000))), vL px, vL py, vL pb, vI rg, vI wr, vR (Q 7), vI rn, vR (Q 8), vI wn])), ((Q 1), cL E 310 a)]) (st' := [vI 1]) rfl rfl ?_
  exact g_iret C hr (by decide) (Nat.le_of_ble_eq_true rfl) (Nat.le_of_ble_eq_true rfl) dX11_findsFault_35 ⟨rfl, rfl⟩

abbrev rm_K_m_fH1 : Room := { frames := 2, cells := 0, slots := 0, locals := 61 }
set_option maxHeartbeats 400000 in
set_option maxRecDepth 100000 in
theorem K_m_fH1 (l : Launch) (E : Ev) (Q : Nat → Nat) (pn f0 f1 f2 f3 px py pb rg wr rn wn : Int) (a : Int → Int) (he : 0 ≤ a 14 ∧ a 14 ≤ 20000) (h1 : 0 ≤ a 15 ∧ a 15 ≤ 20000) (h2 : 0 ≤ a 16 ∧ a 16 ≤ 20000) (h5 : 0 ≤ a 17 ∧ a 17 ≤ 20000) (h6 : 0 ≤ a 18 ∧ a 18 ≤ 20000) (h7 : 0 ≤ a 19 ∧ a 19 ≤ 20000) (h8 : 0 ≤ a 20 ∧ a 20 ≤ 20000) (hD : ¬ slD (a 15) (a 16) (a 17 + a 19) (a 18 + a 20) = 0) : Mc l yX11_findsHealthy wsX11_findsHealthy rm_K_m_fH1 E [vR (Q 0)] [((Q 0), .inr (12, [vR (Q 1), vR (Q 2), vR (Q 3), vR (Q 4), vR (Q 5), vI pn, vR (Q 6), vL f0, vL f1, vL f2, vL f3, vL px, vL py, vL pb, vI rg, vI wr, vR (Q 7), vI rn, vR (Q 8), vI wn])), ((Q 1), cL E 310 a)] 0 0 (fun v9 w9 => v9 = some (vI 1) ∧ w9 = [((Q 0), .inr (12, [vR (Q 1), vR (Q 2), vR (Q 3), vR (Q 4), vR (Q 5), vI pn, vR (Q 6), vL (lim (slVa (a 14) (a 15) (a 16) ((a 17) + (a 19)) ((a 18) + (a 20)))), vL (lim (slVb (a 14) (a 15) (a 16) ((a 17) + (a 19)) ((a 18) + (a 20)))), vL (lim (slIa (a 14) (a 15) (a 16) ((a 17) + (a 19)) ((a 18) + (a 20)))), vL (lim (slIb (a 14) (a 15) (a 16) ((a 17) + (a 19)) ((a 18) + (a 20)))), vL px, vL py, vL pb, vI rg, vI wr, vR (Q 7), vI rn, vR (Q 8), vI wn])), ((Q 1), cL E 310 a)]) := by
  refine Mc.intro (cc := cX11_findsHealthy) (maxL := 1) (ret := (some .boolean)) (lv0 := [(0, vR (Q 0))]) (by decide +kernel) rfl rfl (Nat.le_of_ble_eq_true rfl) ?_
  intro p9 e9 s9 m9 args9 below9 meth9 c9 A9 C hr hmn
  have C : Cx p9 s9 m9 args9 meth9 c9 E A9 1 cX11_findsHealthy wsX11_findsHealthy RX11 := C
  refine g_aload_n C 0 rfl dX11_findsHealthy_0 rfl ?_
  refine g_aload_n C 0 rfl dX11_findsHealthy_1 rfl ?_
  refine g_get C 0 fd_X11_findsHealthy_7 rfl rfl rfl dX11_findsHealthy_2 rfl ?_
  refine g_bipush C (by decide) dX11_findsHealthy_5 rfl ?_
  refine g_lald C 1 rfl (by decide) (by decide) (by decide) rfl dX11_findsHealthy_7 rfl ?_
  refine g_aload_n C 0 rfl dX11_findsHealthy_8 rfl ?_
  refine g_get C 0 fd_X11_findsHealthy_7 rfl rfl rfl dX11_findsHealthy_9 rfl ?_
  refine g_bipush C (by decide) dX11_findsHealthy_12 rfl ?_
  refine g_lald C 1 rfl (by decide) (by decide) (by decide) rfl dX11_findsHealthy_14 rfl ?_
  refine g_ladd C rfl dX11_findsHealthy_15 rfl ?_
  refine g_aload_n C 0 rfl dX11_findsHealthy_16 rfl ?_
  refine g_get C 0 fd_X11_findsHealthy_7 rfl rfl rfl dX11_findsHealthy_17 rfl ?_
  refine g_bipush C (by decide) dX11_findsHealthy_20 rfl ?_
  refine g_lald C 1 rfl (by decide) (by decide) (by decide) rfl dX11_findsHealthy_22 rfl ?_
  refine g_aload_n C 0 rfl dX11_findsHealthy_23 rfl ?_
  refine g_get C 0 fd_X11_findsHealthy_7 rfl rfl rfl dX11_findsHealthy_24 rfl ?_
  refine g_bipush C (by decide) dX11_findsHealthy_27 rfl ?_
  refine g_lald C 1 rfl (by decide) (by decide) (by decide) rfl dX11_findsHealthy_29 rfl ?_
  refine g_ladd C rfl dX11_findsHealthy_30 rfl ?_
  refine g_callV C (b := (Q 0)) (As := [vL ((a 17) + (a 19)), vL ((a 18) + (a 20))]) (wc := [((Q 0), .inr (12, [vR (Q 1), vR (Q 2), vR (Q 3), vR (Q 4), vR (Q 5), vI pn, vR (Q 6), vL f0, vL f1, vL f2, vL f3, vL px, vL py, vL pb, vI rg, vI wr, vR (Q 7), vI rn, vR (Q 8), vI wn])), ((Q 1), cL E 310 a)]) (wr := []) (st := []) gX11_findsHealthy_X11_finds (q9 := 0) (ci := 12) rfl rfl rfl (K_m_finds1 l E Q pn f0 f1 f2 f3 px py pb rg wr rn wn a ((a 17) + (a 19)) ((a 18) + (a 20)) he h1 h2 (by omega) (by omega) hD) hyd_X11_finds rfl [0, 1] [] rfl rfl rfl rfl rfl (by decide) ⟨rfl, rfl⟩ ⟨Nat.le_of_ble_eq_true rfl, Nat.le_of_ble_eq_true rfl, Nat.le_of_ble_eq_true rfl, Nat.le_of_ble_eq_true rfl⟩ (Nat.le_of_ble_eq_true rfl) dX11_findsHealthy_31 (rfl : _ = 0) (rfl : _ = 0) rfl ?_
  rintro _ _ ⟨rfl, rfl⟩
  refine g_is (ws' := [((Q 0), .inr (12, [vR (Q 1), vR (Q 2), vR (Q 3), vR (Q 4), vR (Q 5), vI pn, vR (Q 6), vL (lim (slVa (a 14) (a 15) (a 16) ((a 17) + (a 19)) ((a 18) + (a 20)))), vL (lim (slVb (a 14) (a 15) (a 16) ((a 17) + (a 19)) ((a 18) + (a 20)))), vL (lim (slIa (a 14) (a 15) (a 16) ((a 17) + (a 19)) ((a 18) + (a 20)))), vL (lim (slIb (a 14) (a 15) (a 16) ((a 17) + (a 19)) ((a 18) + (a 20)))), vL px, vL py, vL pb, vI rg, vI wr, vR (Q 7), vI rn, vR (Q 8), vI wn])), ((Q 1), cL E 310 a)]) (st' := [vI 1]) rfl rfl ?_
  exact g_iret C hr (by decide) (Nat.le_of_ble_eq_true rfl) (Nat.le_of_ble_eq_true rfl) dX11_findsHealthy_34 ⟨rfl, rfl⟩
