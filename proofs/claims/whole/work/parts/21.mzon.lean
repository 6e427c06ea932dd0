theorem in_X11_goOnZones_X11 : ∀ w ∈ u_ws RX11 TX11 20, w ∈ wsX11_goOnZones := by decide +kernel
theorem fd_X11_goOnZones_7 : fdk wsX11_goOnZones RX11 7 "ZoneRelayModel" RX11 TX11 20 0 := ⟨in_X11_goOnZones_X11, by decide +kernel, by decide, rfl⟩
theorem hyd_X11_picksUp : yX11_picksUp.cls ≠ "java/lang/invoke/MethodHandle" ∧ yX11_picksUp.cls ≠ "java/lang/invoke/VarHandle" ∧ (parseMethodDescriptor yX11_picksUp.desc).map (fun d => d.parameters.length) = some 1 := by decide +kernel
abbrev rm_K_m_zones : Room := { frames := 7, cells := 0, slots := 0, locals := 183 }
set_option maxHeartbeats 400000 in
set_option maxRecDepth 100000 in
theorem K_m_zones (l : Launch) (E : Ev) (Q : Nat → Nat) (pn f0 f1 f2 f3 rg wr rn wn : Int) (a : Int → Int) (hM : MH a) (hP : (-5300000000000 ≤ ptX a ∧ ptX a ≤ 5300000000000) ∧ (-5300000000000 ≤ ptY a ∧ ptY a ≤ 5300000000000) ∧ (0 ≤ ptD a ∧ ptD a ≤ 5210000000)) (htm : ∀ z : Int, 0 ≤ z → z ≤ 2 → 0 ≤ a (98 + z) ∧ a (98 + z) < 1000000000) (hdl : ∀ z : Int, 0 ≤ z → z ≤ 2 → 1 ≤ a (29 + z) ∧ a (29 + z) ≤ 2400) (hpi : ∀ z : Int, 0 ≤ z → z ≤ 2 → a (101 + z) = 0 ∨ a (101 + z) = 1) (h97 : a 97 = -6 ∨ (0 ≤ a 97 ∧ a 97 ≤ 2)) (h104 : 0 ≤ a 104 ∧ a 104 < 1900000000) : Mc l yX11_goOnZones wsX11_goOnZones rm_K_m_zones E [vR (Q 0)] [((Q 0), .inr (12, [vR (Q 1), vR (Q 2), vR (Q 3), vR (Q 4), vR (Q 5), vI pn, vR (Q 6), vL f0, vL f1, vL f2, vL f3, vL (ptX a), vL (ptY a), vL (ptD a), vI rg, vI wr, vR (Q 7), vI rn, vR (Q 8), vI wn])), ((Q 1), cL E 310 a)] 0 0 (fun v9 w9 => v9 = none ∧ w9 = [((Q 0), .inr (12, [vR (Q 1), vR (Q 2), vR (Q 3), vR (Q 4), vR (Q 5), vI pn, vR (Q 6), vL f0, vL f1, vL f2, vL f3, vL (ptX a), vL (ptY a), vL (ptD a), vI rg, vI wr, vR (Q 7), vI rn, vR (Q 8), vI wn])), ((Q 1), cL E 310 (s_trip (s_tm (s_pks a))))]) := by
  refine Mc.intro (cc := cX11_goOnZones) (maxL := 5) (ret := none) (lv0 := [(0, vR (Q 0))]) (by decide +kernel) rfl rfl (Nat.le_of_ble_eq_true rfl) ?_
  intro p9 e9 s9 m9 args9 below9 meth9 c9 A9 C hr hmn
  have C : Cx p9 s9 m9 args9 meth9 c9 E A9 5 cX11_goOnZones wsX11_goOnZones RX11 := C
  refine g_bipush C (by decide) dX11_goOnZones_0 rfl ?_
  refine g_istore_n C (lv' := [(0, vR (Q 0)), (1, vI (-6))]) [1, 0] (by decide) rfl rfl dX11_goOnZones_2 rfl ?_
  refine g_iconst C dX11_goOnZones_3 rfl ?_
  refine g_istore_n C (lv' := [(0, vR (Q 0)), (1, vI (-6)), (2, vI 2)]) [1, 2, 0] (by decide) rfl rfl dX11_goOnZones_4 rfl ?_
  have hL_5 : ∀ (fuel : Nat) (z : Int) (h0 : -1 ≤ z) (h1 : z ≤ 2) (hfu : (z + 1).toNat = fuel), G p9 l e9 rm_K_m_zones s9 m9 args9 below9 meth9 c9 (RQ E (fun v9 w9 => v9 = none ∧ w9 = [((Q 0), .inr (12, [vR (Q 1), vR (Q 2), vR (Q 3), vR (Q 4), vR (Q 5), vI pn, vR (Q 6), vL f0, vL f1, vL f2, vL f3, vL (ptX a), vL (ptY a), vL (ptD a), vI rg, vI wr, vR (Q 7), vI rn, vR (Q 8), vI wn])), ((Q 1), cL E 310 (s_trip (s_tm (s_pks a))))]) A9 below9 args9 s9 0 0) E A9 5 0 0 [((Q 0), .inr (12, [vR (Q 1), vR (Q 2), vR (Q 3), vR (Q 4), vR (Q 5), vI pn, vR (Q 6), vL f0, vL f1, vL f2, vL f3, vL (ptX a), vL (ptY a), vL (ptD a), vI rg, vI wr, vR (Q 7), vI rn, vR (Q 8), vI wn])), ((Q 1), cL E 310 (tRz a z))] [(0, vR (Q 0)), (1, vI (rR a (Int.toNat (2 - z)))), (2, vI z)] 5 [] := by
    intro fuel
    induction fuel using Nat.strongRecOn with
    | ind fuel ih =>
      intro z h0 h1 hfu
      refine g_iload_n C 2 rfl dX11_goOnZones_5 rfl ?_
      refine g_if_lt C (tgt := 77) ⟨by omega, by omega⟩ dX11_goOnZones_6 (by decide) rfl (fun c_1 => ?_) (fun c_1 => ?_)
      · have ez : z = -1 := by omega
        subst ez
        refine g_iconst C dX11_goOnZones_77 rfl ?_
        refine g_istore_n C (lv' := [(0, vR (Q 0)), (1, vI (rR a (Int.toNat (2 - (-1))))), (2, vI 0)]) [1, 2, 0] (by decide) rfl rfl dX11_goOnZones_78 rfl ?_
        have hL_79 : ∀ (fuel : Nat) (i : Int) (g0 : 0 ≤ i) (g1 : i ≤ 3) (hfu : (3 - i).toNat = fuel), G p9 l e9 rm_K_m_zones s9 m9 args9 below9 meth9 c9 (RQ E (fun v9 w9 => v9 = none ∧ w9 = [((Q 0), .inr (12, [vR (Q 1), vR (Q 2), vR (Q 3), vR (Q 4), vR (Q 5), vI pn, vR (Q 6), vL f0, vL f1, vL f2, vL f3, vL (ptX a), vL (ptY a), vL (ptD a), vI rg, vI wr, vR (Q 7), vI rn, vR (Q 8), vI wn])), ((Q 1), cL E 310 (s_trip (s_tm (s_pks a))))]) A9 below9 args9 s9 0 0) E A9 5 0 0 [((Q 0), .inr (12, [vR (Q 1), vR (Q 2), vR (Q 3), vR (Q 4), vR (Q 5), vI pn, vR (Q 6), vL f0, vL f1, vL f2, vL f3, vL (ptX a), vL (ptY a), vL (ptD a), vI rg, vI wr, vR (Q 7), vI rn, vR (Q 8), vI wn])), ((Q 1), cL E 310 (pkS (tRz a (-1)) a (Int.toNat i)))] [(0, vR (Q 0)), (1, vI (rR a 3)), (2, vI i)] 79 [] := by
          intro fuel
          induction fuel using Nat.strongRecOn with
          | ind fuel ih =>
            intro i g0 g1 hfu
            refine g_iload_n C 2 rfl dX11_goOnZones_79 rfl ?_
            refine g_iconst C dX11_goOnZones_80 rfl ?_
            refine g_icmp_ge C (tgt := 153) ⟨by omega, by omega⟩ ⟨by decide, by decide⟩ dX11_goOnZones_81 (by decide) rfl (fun c_2 => ?_) (fun c_2 => ?_)
            · have ei : i = 3 := by omega
              subst ei
              have pso := pkS_o (T := tRz a (-1)) (b := a) (by rw [tRz_o (by decide)]; exact h104.1) 3 (by omega)
              have x6 : tRz a (-1) 104 = a 104 := tRz_o (by decide)
              have x97 : pkS (tRz a (-1)) a 3 97 = a 97 := by rw [pso.2 97 (by decide)]; exact tRz_o (by decide)
              have y97 : pkS (tRz a (-1)) a (Int.toNat 3) 97 = a 97 := x97
              have rr := rR_r (b := a) 3 (by decide)
              have x104 : 0 ≤ pkS (tRz a (-1)) a (Int.toNat 3) 104 ∧ pkS (tRz a (-1)) a (Int.toNat 3) 104 < 2000000000 := ⟨pso.1.1, by have q : pkS (tRz a (-1)) a (Int.toNat 3) 104 ≤ tRz a (-1) 104 + ((3 : Nat) : Int) := pso.1.2; omega⟩
              refine g_aload_n C 0 rfl dX11_goOnZones_153 rfl ?_
              refine g_get C 0 fd_X11_goOnZones_7 rfl rfl rfl dX11_goOnZones_154 rfl ?_
              refine g_bipush C (by decide) dX11_goOnZones_157 rfl ?_
              refine g_lald C 1 rfl (by decide) (by decide) (by decide) rfl dX11_goOnZones_159 rfl ?_
              refine g_lconst0 C dX11_goOnZones_160 rfl ?_
              refine g_lcmp_ge C ⟨by omega, by omega⟩ ⟨by decide, by decide⟩ dX11_goOnZones_161 rfl (tgt := 186) dX11_goOnZones_162 (by decide) rfl (fun c_3 => ?_) (fun c_3 => ?_)
              · refine g_ws (ws' := [((Q 0), .inr (12, [vR (Q 1), vR (Q 2), vR (Q 3), vR (Q 4), vR (Q 5), vI pn, vR (Q 6), vL f0, vL f1, vL f2, vL f3, vL (ptX a), vL (ptY a), vL (ptD a), vI rg, vI wr, vR (Q 7), vI rn, vR (Q 8), vI wn])), ((Q 1), cL E 310 (s_trip (s_tm (s_pks a))))]) (congrArg (fun z_ : Nat → Int64 => ([((Q 0), .inr (12, [vR (Q 1), vR (Q 2), vR (Q 3), vR (Q 4), vR (Q 5), vI pn, vR (Q 6), vL f0, vL f1, vL f2, vL f3, vL (ptX a), vL (ptY a), vL (ptD a), vI rg, vI wr, vR (Q 7), vI rn, vR (Q 8), vI wn])), ((Q 1), .inl (E.2.1 1, 310, .inr (.inl z_)))] : va_W)) (show AL 310 (s_trip (s_tm (s_pks a))) = AL 310 (pkS (tRz a (-1)) a (Int.toNat 3)) from AL_c (fun k_ k0_ k1_ => by rw [zn_t h104.1]; unfold s_trip; first | (rw [if_neg (fun q => by have q1 := q.1; omega)]; first | done | rfl) | (rw [if_neg (fun q => q.2 (by rw [zn_r h104.1 (by omega)]; omega))]; first | done | rfl) | (rw [if_pos ⟨by omega, by rw [zn_r h104.1 (by omega)]; omega⟩, zn_r h104.1 (by omega)]; first | done | rfl)))) ?_
                exact g_vret C hr (Nat.le_of_ble_eq_true rfl) (Nat.le_of_ble_eq_true rfl) dX11_goOnZones_186 ⟨rfl, rfl⟩
              refine g_iload_n C 1 rfl dX11_goOnZones_165 rfl ?_
              refine g_if_lt C (tgt := 186) ⟨by omega, by omega⟩ dX11_goOnZones_166 (by decide) rfl (fun c_4 => ?_) (fun c_4 => ?_)
              · refine g_ws (ws' := [((Q 0), .inr (12, [vR (Q 1), vR (Q 2), vR (Q 3), vR (Q 4), vR (Q 5), vI pn, vR (Q 6), vL f0, vL f1, vL f2, vL f3, vL (ptX a), vL (ptY a), vL (ptD a), vI rg, vI wr, vR (Q 7), vI rn, vR (Q 8), vI wn])), ((Q 1), cL E 310 (s_trip (s_tm (s_pks a))))]) (congrArg (fun z_ : Nat → Int64 => ([((Q 0), .inr (12, [vR (Q 1), vR (Q 2), vR (Q 3), vR (Q 4), vR (Q 5), vI pn, vR (Q 6), vL f0, vL f1, vL f2, vL f3, vL (ptX a), vL (ptY a), vL (ptD a), vI rg, vI wr, vR (Q 7), vI rn, vR (Q 8), vI wn])), ((Q 1), .inl (E.2.1 1, 310, .inr (.inl z_)))] : va_W)) (show AL 310 (s_trip (s_tm (s_pks a))) = AL 310 (pkS (tRz a (-1)) a (Int.toNat 3)) from AL_c (fun k_ k0_ k1_ => by rw [zn_t h104.1]; unfold s_trip; first | (rw [if_neg (fun q => by have q1 := q.1; omega)]; first | done | rfl) | (rw [if_neg (fun q => q.2 (by rw [zn_r h104.1 (by omega)]; omega))]; first | done | rfl) | (rw [if_pos ⟨by omega, by rw [zn_r h104.1 (by omega)]; omega⟩, zn_r h104.1 (by omega)]; first | done | rfl)))) ?_
                exact g_vret C hr (Nat.le_of_ble_eq_true rfl) (Nat.le_of_ble_eq_true rfl) dX11_goOnZones_186 ⟨rfl, rfl⟩
              refine g_aload_n C 0 rfl dX11_goOnZones_169 rfl ?_
              refine g_get C 0 fd_X11_goOnZones_7 rfl rfl rfl dX11_goOnZones_170 rfl ?_
              refine g_bipush C (by decide) dX11_goOnZones_173 rfl ?_
              refine g_iload_n C 1 rfl dX11_goOnZones_175 rfl ?_
              refine g_i2l C ⟨by omega, by omega⟩ rfl dX11_goOnZones_176 rfl ?_
              refine g_last C 1 rfl (by decide) (by decide) (by decide) (ws' := [((Q 0), .inr (12, [vR (Q 1), vR (Q 2), vR (Q 3), vR (Q 4), vR (Q 5), vI pn, vR (Q 6), vL f0, vL f1, vL f2, vL f3, vL (ptX a), vL (ptY a), vL (ptD a), vI rg, vI wr, vR (Q 7), vI rn, vR (Q 8), vI wn])), ((Q 1), cL E 310 (ua (pkS (tRz a (-1)) a (Int.toNat 3)) 97 (rR a 3)))]) rfl dX11_goOnZones_177 rfl ?_
              refine g_aload_n C 0 rfl dX11_goOnZones_178 rfl ?_
              refine g_bipush C (by decide) dX11_goOnZones_179 rfl ?_
              refine g_iload_n C 1 rfl dX11_goOnZones_181 rfl ?_
              refine g_iadd C rfl dX11_goOnZones_182 rfl ?_
              refine g_callV C (b := (Q 0)) (As := [vI (30 + (rR a 3))]) (wc := [((Q 0), .inr (12, [vR (Q 1), vR (Q 2), vR (Q 3), vR (Q 4), vR (Q 5), vI pn, vR (Q 6), vL f0, vL f1, vL f2, vL f3, vL (ptX a), vL (ptY a), vL (ptD a), vI rg, vI wr, vR (Q 7), vI rn, vR (Q 8), vI wn])), ((Q 1), cL E 310 (ua (pkS (tRz a (-1)) a (Int.toNat 3)) 97 (rR a 3)))]) (wr := []) (st := []) gX11_goOnZones_X11_note (q9 := 0) (ci := 12) rfl rfl rfl (K_m_note l E Q pn f0 f1 f2 f3 (ptX a) (ptY a) (ptD a) rg wr rn wn (ua (pkS (tRz a (-1)) a (Int.toNat 3)) 97 (rR a 3)) (30 + (rR a 3)) (by first | exact x104 | (rw [ua_ne (by decide)]; exact x104)) ⟨by omega, by omega⟩) hyd_X11_note rfl [0, 1] [] rfl rfl rfl rfl rfl (by decide) ⟨rfl, rfl⟩ ⟨Nat.le_of_ble_eq_true rfl, Nat.le_of_ble_eq_true rfl, Nat.le_of_ble_eq_true rfl, Nat.le_of_ble_eq_true rfl⟩ (Nat.le_of_ble_eq_true rfl) dX11_goOnZones_183 (rfl : _ = 0) (rfl : _ = 0) rfl ?_
              rintro _ _ ⟨rfl, rfl⟩
              refine g_is (ws' := [((Q 0), .inr (12, [vR (Q 1), vR (Q 2), vR (Q 3), vR (Q 4), vR (Q 5), vI pn, vR (Q 6), vL f0, vL f1, vL f2, vL f3, vL (ptX a), vL (ptY a), vL (ptD a), vI rg, vI wr, vR (Q 7), vI rn, vR (Q 8), vI wn])), ((Q 1), cL E 310 (s_note (30 + (rR a 3)) (ua (pkS (tRz a (-1)) a (Int.toNat 3)) 97 (rR a 3))))]) (st' := []) rfl rfl ?_
              refine g_ws (ws' := [((Q 0), .inr (12, [vR (Q 1), vR (Q 2), vR (Q 3), vR (Q 4), vR (Q 5), vI pn, vR (Q 6), vL f0, vL f1, vL f2, vL f3, vL (ptX a), vL (ptY a), vL (ptD a), vI rg, vI wr, vR (Q 7), vI rn, vR (Q 8), vI wn])), ((Q 1), cL E 310 (s_trip (s_tm (s_pks a))))]) (congrArg (fun z_ : Nat → Int64 => ([((Q 0), .inr (12, [vR (Q 1), vR (Q 2), vR (Q 3), vR (Q 4), vR (Q 5), vI pn, vR (Q 6), vL f0, vL f1, vL f2, vL f3, vL (ptX a), vL (ptY a), vL (ptD a), vI rg, vI wr, vR (Q 7), vI rn, vR (Q 8), vI wn])), ((Q 1), .inl (E.2.1 1, 310, .inr (.inl z_)))] : va_W)) (show AL 310 (s_trip (s_tm (s_pks a))) = AL 310 (s_note (30 + (rR a 3)) (ua (pkS (tRz a (-1)) a (Int.toNat 3)) 97 (rR a 3))) from AL_c (fun k_ k0_ k1_ => by rw [zn_t h104.1]; unfold s_trip; first | (rw [if_neg (fun q => by have q1 := q.1; omega)]; first | done | rfl) | (rw [if_neg (fun q => q.2 (by rw [zn_r h104.1 (by omega)]; omega))]; first | done | rfl) | (rw [if_pos ⟨by omega, by rw [zn_r h104.1 (by omega)]; omega⟩, zn_r h104.1 (by omega)]; first | done | rfl)))) ?_
              exact g_vret C hr (Nat.le_of_ble_eq_true rfl) (Nat.le_of_ble_eq_true rfl) dX11_goOnZones_186 ⟨rfl, rfl⟩
            have pso := pkS_o (T := tRz a (-1)) (b := a) (by rw [tRz_o (by decide)]; exact h104.1) (Int.toNat i) (by omega)
            have x1 : pkS (tRz a (-1)) a (Int.toNat i) (98 + i) = tvA a i := by rw [pso.2 (98 + i) (by omega)]; exact tRz_v (by omega)
            have x2 : pkS (tRz a (-1)) a (Int.toNat i) (101 + i) = a (101 + i) := by rw [pso.2 (101 + i) (by omega)]; exact tRz_o (by omega)
            have x3 := hpi i (by omega) (by omega)
            have x4 := htm i (by omega) (by omega)
            have x5 := tvA_5 a i
            have x6 : tRz a (-1) 104 = a 104 := tRz_o (by decide)
            have x104 : 0 ≤ pkS (tRz a (-1)) a (Int.toNat i) 104 ∧ pkS (tRz a (-1)) a (Int.toNat i) 104 < 2000000000 := ⟨pso.1.1, by have := pso.1.2; omega⟩
            refine g_aload_n C 0 rfl dX11_goOnZones_84 rfl ?_
            refine g_get C 0 fd_X11_goOnZones_7 rfl rfl rfl dX11_goOnZones_85 rfl ?_
            refine g_bipush C (by decide) dX11_goOnZones_88 rfl ?_
            refine g_iload_n C 2 rfl dX11_goOnZones_90 rfl ?_
            refine g_iadd C rfl dX11_goOnZones_91 rfl ?_
            refine g_lald C 1 rfl (by omega) (by omega) (by decide) rfl dX11_goOnZones_92 rfl ?_
            refine g_lconst0 C dX11_goOnZones_93 rfl ?_
            refine g_lcmp_le C ⟨by omega, by omega⟩ ⟨by decide, by decide⟩ dX11_goOnZones_94 rfl (tgt := 102) dX11_goOnZones_95 (by decide) rfl (fun c_5 => ?_) (fun c_5 => ?_)
            · refine g_lconst0 C dX11_goOnZones_102 rfl ?_
              refine g_lstore_n C (lv' := [(0, vR (Q 0)), (1, vI (rR a 3)), (2, vI i), (3, vL 0)]) [1, 2, 3, 0] (by decide) rfl rfl dX11_goOnZones_103 rfl ?_
              refine g_lload_n C 3 rfl dX11_goOnZones_104 rfl ?_
              refine g_aload_n C 0 rfl dX11_goOnZones_105 rfl ?_
              refine g_get C 0 fd_X11_goOnZones_7 rfl rfl rfl dX11_goOnZones_106 rfl ?_
              refine g_bipush C (by decide) dX11_goOnZones_109 rfl ?_
              refine g_iload_n C 2 rfl dX11_goOnZones_111 rfl ?_
              refine g_iadd C rfl dX11_goOnZones_112 rfl ?_
              refine g_lald C 1 rfl (by omega) (by omega) (by decide) rfl dX11_goOnZones_113 rfl ?_
              refine g_lcmp_eq C ⟨by decide, by decide⟩ ⟨by omega, by omega⟩ dX11_goOnZones_114 rfl (tgt := 137) dX11_goOnZones_115 (by decide) rfl (fun c_6 => ?_) (fun c_6 => ?_)
              · refine g_aload_n C 0 rfl dX11_goOnZones_137 rfl ?_
                refine g_get C 0 fd_X11_goOnZones_7 rfl rfl rfl dX11_goOnZones_138 rfl ?_
                refine g_bipush C (by decide) dX11_goOnZones_141 rfl ?_
                refine g_iload_n C 2 rfl dX11_goOnZones_143 rfl ?_
                refine g_iadd C rfl dX11_goOnZones_144 rfl ?_
                refine g_lload_n C 3 rfl dX11_goOnZones_145 rfl ?_
                refine g_last C 1 rfl (by omega) (by omega) (by decide) (ws' := [((Q 0), .inr (12, [vR (Q 1), vR (Q 2), vR (Q 3), vR (Q 4), vR (Q 5), vI pn, vR (Q 6), vL f0, vL f1, vL f2, vL f3, vL (ptX a), vL (ptY a), vL (ptD a), vI rg, vI wr, vR (Q 7), vI rn, vR (Q 8), vI wn])), ((Q 1), cL E 310 (ua (pkS (tRz a (-1)) a (Int.toNat i)) (101 + i) 0))]) rfl dX11_goOnZones_146 rfl ?_
                refine g_iinc C (r := (i + 1)) (lv' := [(0, vR (Q 0)), (1, vI (rR a 3)), (2, vI (i + 1)), (3, vL 0)]) 2 [1, 2, 0, 3] rfl rfl (by decide) rfl rfl dX11_goOnZones_147 rfl ?_
                refine g_goto C (pc' := 79) dX11_goOnZones_150 (by decide) ?_
                refine g_lv (lv' := [(0, vR (Q 0)), (1, vI (rR a 3)), (2, vI (i + 1))]) [0, 1, 2] rfl ?_
                refine g_ws (ws' := [((Q 0), .inr (12, [vR (Q 1), vR (Q 2), vR (Q 3), vR (Q 4), vR (Q 5), vI pn, vR (Q 6), vL f0, vL f1, vL f2, vL f3, vL (ptX a), vL (ptY a), vL (ptD a), vI rg, vI wr, vR (Q 7), vI rn, vR (Q 8), vI wn])), ((Q 1), cL E 310 (pkS (tRz a (-1)) a (Int.toNat (i + 1))))]) (congrArg (fun z_ : Nat → Int64 => ([((Q 0), .inr (12, [vR (Q 1), vR (Q 2), vR (Q 3), vR (Q 4), vR (Q 5), vI pn, vR (Q 6), vL f0, vL f1, vL f2, vL f3, vL (ptX a), vL (ptY a), vL (ptD a), vI rg, vI wr, vR (Q 7), vI rn, vR (Q 8), vI wn])), ((Q 1), .inl (E.2.1 1, 310, .inr (.inl z_)))] : va_W)) (show AL 310 (pkS (tRz a (-1)) a (Int.toNat (i + 1))) = AL 310 (ua (pkS (tRz a (-1)) a (Int.toNat i)) (101 + i) 0) from AL_c (fun k_ k0_ k1_ => by first | (have ev : pkA a i = 0 := (by omega); rw [pkS_s g0, ev]; unfold s_pk; rw [if_pos (by omega), ua_id (by omega)]; done) | (have ev : pkA a i = 1 := (by omega); rw [pkS_s g0, ev]; unfold s_pk; rw [if_pos (by omega), ua_id (by omega)]; done) | (have ev : pkA a i = 0 := (by omega); rw [pkS_s g0, ev]; unfold s_pk; rw [if_neg (by omega), if_pos rfl, note_ua (by omega) (by omega)]; done) | (have ev : pkA a i = 1 := (by omega); rw [pkS_s g0, ev]; unfold s_pk; rw [if_neg (by omega), if_neg (by decide), note_ua (by omega) (by omega)]; done)))) ?_
                exact ih _ (by omega) (i + 1) (by omega) (by omega) rfl
              refine g_aload_n C 0 rfl dX11_goOnZones_118 rfl ?_
              refine g_lload_n C 3 rfl dX11_goOnZones_119 rfl ?_
              refine g_lconst1 C dX11_goOnZones_120 rfl ?_
              refine g_lcmp_ne C ⟨by decide, by decide⟩ ⟨by decide, by decide⟩ dX11_goOnZones_121 rfl (tgt := 130) dX11_goOnZones_122 (by decide) rfl (fun c_7 => ?_) (fun c_7 => ?_)
              · refine g_bipush C (by decide) dX11_goOnZones_130 rfl ?_
                refine g_iload_n C 2 rfl dX11_goOnZones_132 rfl ?_
                refine g_iadd C rfl dX11_goOnZones_133 rfl ?_
                refine g_callV C (b := (Q 0)) (As := [vI (20 + i)]) (wc := [((Q 0), .inr (12, [vR (Q 1), vR (Q 2), vR (Q 3), vR (Q 4), vR (Q 5), vI pn, vR (Q 6), vL f0, vL f1, vL f2, vL f3, vL (ptX a), vL (ptY a), vL (ptD a), vI rg, vI wr, vR (Q 7), vI rn, vR (Q 8), vI wn])), ((Q 1), cL E 310 (pkS (tRz a (-1)) a (Int.toNat i)))]) (wr := []) (st := []) gX11_goOnZones_X11_note (q9 := 0) (ci := 12) rfl rfl rfl (K_m_note l E Q pn f0 f1 f2 f3 (ptX a) (ptY a) (ptD a) rg wr rn wn (pkS (tRz a (-1)) a (Int.toNat i)) (20 + i) (by first | exact x104 | (rw [ua_ne (by decide)]; exact x104)) ⟨by omega, by omega⟩) hyd_X11_note rfl [0, 1] [] rfl rfl rfl rfl rfl (by decide) ⟨rfl, rfl⟩ ⟨Nat.le_of_ble_eq_true rfl, Nat.le_of_ble_eq_true rfl, Nat.le_of_ble_eq_true rfl, Nat.le_of_ble_eq_true rfl⟩ (Nat.le_of_ble_eq_true rfl) dX11_goOnZones_134 (rfl : _ = 0) (rfl : _ = 0) rfl ?_
                rintro _ _ ⟨rfl, rfl⟩
                refine g_is (ws' := [((Q 0), .inr (12, [vR (Q 1), vR (Q 2), vR (Q 3), vR (Q 4), vR (Q 5), vI pn, vR (Q 6), vL f0, vL f1, vL f2, vL f3, vL (ptX a), vL (ptY a), vL (ptD a), vI rg, vI wr, vR (Q 7), vI rn, vR (Q 8), vI wn])), ((Q 1), cL E 310 (s_note (20 + i) (pkS (tRz a (-1)) a (Int.toNat i))))]) (st' := []) rfl rfl ?_
                refine g_aload_n C 0 rfl dX11_goOnZones_137 rfl ?_
                refine g_get C 0 fd_X11_goOnZones_7 rfl rfl rfl dX11_goOnZones_138 rfl ?_
                refine g_bipush C (by decide) dX11_goOnZones_141 rfl ?_
                refine g_iload_n C 2 rfl dX11_goOnZones_143 rfl ?_
                refine g_iadd C rfl dX11_goOnZones_144 rfl ?_
                refine g_lload_n C 3 rfl dX11_goOnZones_145 rfl ?_
                refine g_last C 1 rfl (by omega) (by omega) (by decide) (ws' := [((Q 0), .inr (12, [vR (Q 1), vR (Q 2), vR (Q 3), vR (Q 4), vR (Q 5), vI pn, vR (Q 6), vL f0, vL f1, vL f2, vL f3, vL (ptX a), vL (ptY a), vL (ptD a), vI rg, vI wr, vR (Q 7), vI rn, vR (Q 8), vI wn])), ((Q 1), cL E 310 (ua (s_note (20 + i) (pkS (tRz a (-1)) a (Int.toNat i))) (101 + i) 0))]) rfl dX11_goOnZones_146 rfl ?_
                refine g_iinc C (r := (i + 1)) (lv' := [(0, vR (Q 0)), (1, vI (rR a 3)), (2, vI (i + 1)), (3, vL 0)]) 2 [1, 2, 0, 3] rfl rfl (by decide) rfl rfl dX11_goOnZones_147 rfl ?_
                refine g_goto C (pc' := 79) dX11_goOnZones_150 (by decide) ?_
                refine g_lv (lv' := [(0, vR (Q 0)), (1, vI (rR a 3)), (2, vI (i + 1))]) [0, 1, 2] rfl ?_
                refine g_ws (ws' := [((Q 0), .inr (12, [vR (Q 1), vR (Q 2), vR (Q 3), vR (Q 4), vR (Q 5), vI pn, vR (Q 6), vL f0, vL f1, vL f2, vL f3, vL (ptX a), vL (ptY a), vL (ptD a), vI rg, vI wr, vR (Q 7), vI rn, vR (Q 8), vI wn])), ((Q 1), cL E 310 (pkS (tRz a (-1)) a (Int.toNat (i + 1))))]) (congrArg (fun z_ : Nat → Int64 => ([((Q 0), .inr (12, [vR (Q 1), vR (Q 2), vR (Q 3), vR (Q 4), vR (Q 5), vI pn, vR (Q 6), vL f0, vL f1, vL f2, vL f3, vL (ptX a), vL (ptY a), vL (ptD a), vI rg, vI wr, vR (Q 7), vI rn, vR (Q 8), vI wn])), ((Q 1), .inl (E.2.1 1, 310, .inr (.inl z_)))] : va_W)) (show AL 310 (pkS (tRz a (-1)) a (Int.toNat (i + 1))) = AL 310 (ua (s_note (20 + i) (pkS (tRz a (-1)) a (Int.toNat i))) (101 + i) 0) from AL_c (fun k_ k0_ k1_ => by first | (have ev : pkA a i = 0 := (by omega); rw [pkS_s g0, ev]; unfold s_pk; rw [if_pos (by omega), ua_id (by omega)]; done) | (have ev : pkA a i = 1 := (by omega); rw [pkS_s g0, ev]; unfold s_pk; rw [if_pos (by omega), ua_id (by omega)]; done) | (have ev : pkA a i = 0 := (by omega); rw [pkS_s g0, ev]; unfold s_pk; rw [if_neg (by omega), if_pos rfl, note_ua (by omega) (by omega)]; done) | (have ev : pkA a i = 1 := (by omega); rw [pkS_s g0, ev]; unfold s_pk; rw [if_neg (by omega), if_neg (by decide), note_ua (by omega) (by omega)]; done)))) ?_
                exact ih _ (by omega) (i + 1) (by omega) (by omega) rfl
              exact absurd c_7 (by decide)
            refine g_lconst1 C dX11_goOnZones_98 rfl ?_
            refine g_goto C (pc' := 103) dX11_goOnZones_99 (by decide) ?_
            refine g_lstore_n C (lv' := [(0, vR (Q 0)), (1, vI (rR a 3)), (2, vI i), (3, vL 1)]) [1, 2, 3, 0] (by decide) rfl rfl dX11_goOnZones_103 rfl ?_
            refine g_lload_n C 3 rfl dX11_goOnZones_104 rfl ?_
            refine g_aload_n C 0 rfl dX11_goOnZones_105 rfl ?_
            refine g_get C 0 fd_X11_goOnZones_7 rfl rfl rfl dX11_goOnZones_106 rfl ?_
            refine g_bipush C (by decide) dX11_goOnZones_109 rfl ?_
            refine g_iload_n C 2 rfl dX11_goOnZones_111 rfl ?_
            refine g_iadd C rfl dX11_goOnZones_112 rfl ?_
            refine g_lald C 1 rfl (by omega) (by omega) (by decide) rfl dX11_goOnZones_113 rfl ?_
            refine g_lcmp_eq C ⟨by decide, by decide⟩ ⟨by omega, by omega⟩ dX11_goOnZones_114 rfl (tgt := 137) dX11_goOnZones_115 (by decide) rfl (fun c_8 => ?_) (fun c_8 => ?_)
            · refine g_aload_n C 0 rfl dX11_goOnZones_137 rfl ?_
              refine g_get C 0 fd_X11_goOnZones_7 rfl rfl rfl dX11_goOnZones_138 rfl ?_
              refine g_bipush C (by decide) dX11_goOnZones_141 rfl ?_
              refine g_iload_n C 2 rfl dX11_goOnZones_143 rfl ?_
              refine g_iadd C rfl dX11_goOnZones_144 rfl ?_
              refine g_lload_n C 3 rfl dX11_goOnZones_145 rfl ?_
              refine g_last C 1 rfl (by omega) (by omega) (by decide) (ws' := [((Q 0), .inr (12, [vR (Q 1), vR (Q 2), vR (Q 3), vR (Q 4), vR (Q 5), vI pn, vR (Q 6), vL f0, vL f1, vL f2, vL f3, vL (ptX a), vL (ptY a), vL (ptD a), vI rg, vI wr, vR (Q 7), vI rn, vR (Q 8), vI wn])), ((Q 1), cL E 310 (ua (pkS (tRz a (-1)) a (Int.toNat i)) (101 + i) 1))]) rfl dX11_goOnZones_146 rfl ?_
              refine g_iinc C (r := (i + 1)) (lv' := [(0, vR (Q 0)), (1, vI (rR a 3)), (2, vI (i + 1)), (3, vL 1)]) 2 [1, 2, 0, 3] rfl rfl (by decide) rfl rfl dX11_goOnZones_147 rfl ?_
              refine g_goto C (pc' := 79) dX11_goOnZones_150 (by decide) ?_
              refine g_lv (lv' := [(0, vR (Q 0)), (1, vI (rR a 3)), (2, vI (i + 1))]) [0, 1, 2] rfl ?_
              refine g_ws (ws' := [((Q 0), .inr (12, [vR (Q 1), vR (Q 2), vR (Q 3), vR (Q 4), vR (Q 5), vI pn, vR (Q 6), vL f0, vL f1, vL f2, vL f3, vL (ptX a), vL (ptY a), vL (ptD a), vI rg, vI wr, vR (Q 7), vI rn, vR (Q 8), vI wn])), ((Q 1), cL E 310 (pkS (tRz a (-1)) a (Int.toNat (i + 1))))]) (congrArg (fun z_ : Nat → Int64 => ([((Q 0), .inr (12, [vR (Q 1), vR (Q 2), vR (Q 3), vR (Q 4), vR (Q 5), vI pn, vR (Q 6), vL f0, vL f1, vL f2, vL f3, vL (ptX a), vL (ptY a), vL (ptD a), vI rg, vI wr, vR (Q 7), vI rn, vR (Q 8), vI wn])), ((Q 1), .inl (E.2.1 1, 310, .inr (.inl z_)))] : va_W)) (show AL 310 (pkS (tRz a (-1)) a (Int.toNat (i + 1))) = AL 310 (ua (pkS (tRz a (-1)) a (Int.toNat i)) (101 + i) 1) from AL_c (fun k_ k0_ k1_ => by first | (have ev : pkA a i = 0 := (by omega); rw [pkS_s g0, ev]; unfold s_pk; rw [if_pos (by omega), ua_id (by omega)]; done) | (have ev : pkA a i = 1 := (by omega); rw [pkS_s g0, ev]; unfold s_pk; rw [if_pos (by omega), ua_id (by omega)]; done) | (have ev : pkA a i = 0 := (by omega); rw [pkS_s g0, ev]; unfold s_pk; rw [if_neg (by omega), if_pos rfl, note_ua (by omega) (by omega)]; done) | (have ev : pkA a i = 1 := (by omega); rw [pkS_s g0, ev]; unfold s_pk; rw [if_neg (by omega), if_neg (by decide), note_ua (by omega) (by omega)]; done)))) ?_
              exact ih _ (by omega) (i + 1) (by omega) (by omega) rfl
            refine g_aload_n C 0 rfl dX11_goOnZones_118 rfl ?_
            refine g_lload_n C 3 rfl dX11_goOnZones_119 rfl ?_
            refine g_lconst1 C dX11_goOnZones_120 rfl ?_
            refine g_lcmp_ne C ⟨by decide, by decide⟩ ⟨by decide, by decide⟩ dX11_goOnZones_121 rfl (tgt := 130) dX11_goOnZones_122 (by decide) rfl (fun c_9 => ?_) (fun c_9 => ?_)
            · exact absurd c_9 (by decide)
            refine g_bipush C (by decide) dX11_goOnZones_125 rfl ?_
            refine g_goto C (pc' := 132) dX11_goOnZones_127 (by decide) ?_
            refine g_iload_n C 2 rfl dX11_goOnZones_132 rfl ?_
            refine g_iadd C rfl dX11_goOnZones_133 rfl ?_
            refine g_callV C (b := (Q 0)) (As := [vI (10 + i)]) (wc := [((Q 0), .inr (12, [vR (Q 1), vR (Q 2), vR (Q 3), vR (Q 4), vR (Q 5), vI pn, vR (Q 6), vL f0, vL f1, vL f2, vL f3, vL (ptX a), vL (ptY a), vL (ptD a), vI rg, vI wr, vR (Q 7), vI rn, vR (Q 8), vI wn])), ((Q 1), cL E 310 (pkS (tRz a (-1)) a (Int.toNat i)))]) (wr := []) (st := []) gX11_goOnZones_X11_note (q9 := 0) (ci := 12) rfl rfl rfl (K_m_note l E Q pn f0 f1 f2 f3 (ptX a) (ptY a) (ptD a) rg wr rn wn (pkS (tRz a (-1)) a (Int.toNat i)) (10 + i) (by first | exact x104 | (rw [ua_ne (by decide)]; exact x104)) ⟨by omega, by omega⟩) hyd_X11_note rfl [0, 1] [] rfl rfl rfl rfl rfl (by decide) ⟨rfl, rfl⟩ ⟨Nat.le_of_ble_eq_true rfl, Nat.le_of_ble_eq_true rfl, Nat.le_of_ble_eq_true rfl, Nat.le_of_ble_eq_true rfl⟩ (Nat.le_of_ble_eq_true rfl) dX11_goOnZones_134 (rfl : _ = 0) (rfl : _ = 0) rfl ?_
            rintro _ _ ⟨rfl, rfl⟩
            refine g_is (ws' := [((Q 0), .inr (12, [vR (Q 1), vR (Q 2), vR (Q 3), vR (Q 4), vR (Q 5), vI pn, vR (Q 6), vL f0, vL f1, vL f2, vL f3, vL (ptX a), vL (ptY a), vL (ptD a), vI rg, vI wr, vR (Q 7), vI rn, vR (Q 8), vI wn])), ((Q 1), cL E 310 (s_note (10 + i) (pkS (tRz a (-1)) a (Int.toNat i))))]) (st' := []) rfl rfl ?_
            refine g_aload_n C 0 rfl dX11_goOnZones_137 rfl ?_
            refine g_get C 0 fd_X11_goOnZones_7 rfl rfl rfl dX11_goOnZones_138 rfl ?_
            refine g_bipush C (by decide) dX11_goOnZones_141 rfl ?_
            refine g_iload_n C 2 rfl dX11_goOnZones_143 rfl ?_
            refine g_iadd C rfl dX11_goOnZones_144 rfl ?_
            refine g_lload_n C 3 rfl dX11_goOnZones_145 rfl ?_
            refine g_last C 1 rfl (by omega) (by omega) (by decide) (ws' := [((Q 0), .inr (12, [vR (Q 1), vR (Q 2), vR (Q 3), vR (Q 4), vR (Q 5), vI pn, vR (Q 6), vL f0, vL f1, vL f2, vL f3, vL (ptX a), vL (ptY a), vL (ptD a), vI rg, vI wr, vR (Q 7), vI rn, vR (Q 8), vI wn])), ((Q 1), cL E 310 (ua (s_note (10 + i) (pkS (tRz a (-1)) a (Int.toNat i))) (101 + i) 1))]) rfl dX11_goOnZones_146 rfl ?_
            refine g_iinc C (r := (i + 1)) (lv' := [(0, vR (Q 0)), (1, vI (rR a 3)), (2, vI (i + 1)), (3, vL 1)]) 2 [1, 2, 0, 3] rfl rfl (by decide) rfl rfl dX11_goOnZones_147 rfl ?_
            refine g_goto C (pc' := 79) dX11_goOnZones_150 (by decide) ?_
            refine g_lv (lv' := [(0, vR (Q 0)), (1, vI (rR a 3)), (2, vI (i + 1))]) [0, 1, 2] rfl ?_
            refine g_ws (ws' := [((Q 0), .inr (12, [vR (Q 1), vR (Q 2), vR (Q 3), vR (Q 4), vR (Q 5), vI pn, vR (Q 6), vL f0, vL f1, vL f2, vL f3, vL (ptX a), vL (ptY a), vL (ptD a), vI rg, vI wr, vR (Q 7), vI rn, vR (Q 8), vI wn])), ((Q 1), cL E 310 (pkS (tRz a (-1)) a (Int.toNat (i + 1))))]) (congrArg (fun z_ : Nat → Int64 => ([((Q 0), .inr (12, [vR (Q 1), vR (Q 2), vR (Q 3), vR (Q 4), vR (Q 5), vI pn, vR (Q 6), vL f0, vL f1, vL f2, vL f3, vL (ptX a), vL (ptY a), vL (ptD a), vI rg, vI wr, vR (Q 7), vI rn, vR (Q 8), vI wn])), ((Q 1), .inl (E.2.1 1, 310, .inr (.inl z_)))] : va_W)) (show AL 310 (pkS (tRz a (-1)) a (Int.toNat (i + 1))) = AL 310 (ua (s_note (10 + i) (pkS (tRz a (-1)) a (Int.toNat i))) (101 + i) 1) from AL_c (fun k_ k0_ k1_ => by first | (have ev : pkA a i = 0 := (by omega); rw [pkS_s g0, ev]; unfold s_pk; rw [if_pos (by omega), ua_id (by omega)]; done) | (have ev : pkA a i = 1 := (by omega); rw [pkS_s g0, ev]; unfold s_pk; rw [if_pos (by omega), ua_id (by omega)]; done) | (have ev : pkA a i = 0 := (by omega); rw [pkS_s g0, ev]; unfold s_pk; rw [if_neg (by omega), if_pos rfl, note_ua (by omega) (by omega)]; done) | (have ev : pkA a i = 1 := (by omega); rw [pkS_s g0, ev]; unfold s_pk; rw [if_neg (by omega), if_neg (by decide), note_ua (by omega) (by omega)]; done)))) ?_
            exact ih _ (by omega) (i + 1) (by omega) (by omega) rfl
        refine g_ws (ws' := [((Q 0), .inr (12, [vR (Q 1), vR (Q 2), vR (Q 3), vR (Q 4), vR (Q 5), vI pn, vR (Q 6), vL f0, vL f1, vL f2, vL f3, vL (ptX a), vL (ptY a), vL (ptD a), vI rg, vI wr, vR (Q 7), vI rn, vR (Q 8), vI wn])), ((Q 1), cL E 310 (pkS (tRz a (-1)) a (Int.toNat 0)))]) (congrArg (fun z_ : Nat → Int64 => ([((Q 0), .inr (12, [vR (Q 1), vR (Q 2), vR (Q 3), vR (Q 4), vR (Q 5), vI pn, vR (Q 6), vL f0, vL f1, vL f2, vL f3, vL (ptX a), vL (ptY a), vL (ptD a), vI rg, vI wr, vR (Q 7), vI rn, vR (Q 8), vI wn])), ((Q 1), .inl (E.2.1 1, 310, .inr (.inl z_)))] : va_W)) (show AL 310 (pkS (tRz a (-1)) a (Int.toNat 0)) = AL 310 (tRz a (-1)) from AL_c (fun k_ k0_ k1_ => by rfl))) ?_
        refine g_cast (ws' := [((Q 0), .inr (12, [vR (Q 1), vR (Q 2), vR (Q 3), vR (Q 4), vR (Q 5), vI pn, vR (Q 6), vL f0, vL f1, vL f2, vL f3, vL (ptX a), vL (ptY a), vL (ptD a), vI rg, vI wr, vR (Q 7), vI rn, vR (Q 8), vI wn])), ((Q 1), cL E 310 (pkS (tRz a (-1)) a (Int.toNat 0)))]) (lv' := [(0, vR (Q 0)), (1, vI (rR a 3)), (2, vI 0)]) (st' := []) rfl (congrArg (fun z_ : Int => ([(0, vR (Q 0)), (1, vI z_), (2, vI 0)] : List (Nat × Value))) (show (rR a (Int.toNat (2 - (-1)))) = (rR a 3) by rfl)) rfl ?_
        exact hL_79 _ 0 (by omega) (by omega) rfl
      have hto : ∀ j : Int, ¬ (98 ≤ j ∧ j ≤ 100) → tRz a z j = a j := fun j hj => tRz_o (by omega)
      obtain ⟨n_pn, n_pc, n_e, n17, n18, n90, n23, n_w, n95, n96, n91, n28, n26⟩ := MH_c (c := tRz a z) hto hM
      have hT := htm z (by omega) (by omega)
      have hD := hdl z (by omega) (by omega)
      have z1 : tRz a z (98 + z) = a (98 + z) := tRz_o (by omega)
      have z2 : tRz a z (29 + z) = a (29 + z) := tRz_o (by omega)
      refine g_aload_n C 0 rfl dX11_goOnZones_9 rfl ?_
      refine g_iload_n C 2 rfl dX11_goOnZones_10 rfl ?_
      refine g_callV C (b := (Q 0)) (As := [vI z]) (wc := [((Q 0), .inr (12, [vR (Q 1), vR (Q 2), vR (Q 3), vR (Q 4), vR (Q 5), vI pn, vR (Q 6), vL f0, vL f1, vL f2, vL f3, vL (ptX a), vL (ptY a), vL (ptD a), vI rg, vI wr, vR (Q 7), vI rn, vR (Q 8), vI wn])), ((Q 1), cL E 310 (tRz a z))]) (wr := []) (st := []) gX11_goOnZones_X11_picksUp (q9 := 0) (ci := 12) rfl rfl rfl (K_m_picks l E Q pn f0 f1 f2 f3 (ptX a) (ptY a) (ptD a) rg wr rn wn (tRz a z) z ⟨by omega, by omega⟩ n_pn n_pc hP.1 hP.2.1 hP.2.2 (n_e 84 (by decide) (by decide)) (n_e 85 (by decide) (by decide)) (n_e 86 (by decide) (by decide)) (n_e 87 (by decide) (by decide)) (n_e 88 (by decide) (by decide)) (n_e 89 (by decide) (by decide)) n17 n18 n90 n23 (n_w z (by omega) (by omega)) n95 n96 n91 n28 n26) hyd_X11_picksUp rfl [0, 1] [] rfl rfl rfl rfl rfl (by decide) ⟨rfl, rfl⟩ ⟨Nat.le_of_ble_eq_true rfl, Nat.le_of_ble_eq_true rfl, Nat.le_of_ble_eq_true rfl, Nat.le_of_ble_eq_true rfl⟩ (Nat.le_of_ble_eq_true rfl) dX11_goOnZones_11 (rfl : _ = 0) (rfl : _ = 0) rfl ?_
      rintro _ _ ⟨rfl, rfl⟩
      refine g_is (ws' := [((Q 0), .inr (12, [vR (Q 1), vR (Q 2), vR (Q 3), vR (Q 4), vR (Q 5), vI pn, vR (Q 6), vL f0, vL f1, vL f2, vL f3, vL (ptX a), vL (ptY a), vL (ptD a), vI rg, vI wr, vR (Q 7), vI rn, vR (Q 8), vI wn])), ((Q 1), cL E 310 (tRz a z))]) (st' := [vI (pkR (tRz a z) z (ptX a) (ptY a) (ptD a))]) rfl rfl ?_
      have ek : (pkR (tRz a z) z (ptX a) (ptY a) (ptD a)) = (pkA a z) := pkR_c ⟨by omega, by omega⟩ (hM.1 z (by omega) (by omega)) hto
      refine g_top (v' := vI (pkA a z)) (congrArg (fun z_ : Int => vI z_) ek.symm) ?_
      have q01 : pkA a z = 0 ∨ pkA a z = 1 := pkv_r _ _ _ _ _ _ _ _ _
      have tv5 := tvA_5 a z
      refine g_istore_n C (lv' := [(0, vR (Q 0)), (1, vI (rR a (Int.toNat (2 - z)))), (2, vI z), (3, vI (pkA a z))]) [1, 2, 3, 0] (by decide) rfl rfl dX11_goOnZones_14 rfl ?_
      refine g_aload_n C 0 rfl dX11_goOnZones_15 rfl ?_
      refine g_get C 0 fd_X11_goOnZones_7 rfl rfl rfl dX11_goOnZones_16 rfl ?_
      refine g_bipush C (by decide) dX11_goOnZones_19 rfl ?_
      refine g_iload_n C 2 rfl dX11_goOnZones_21 rfl ?_
      refine g_iadd C rfl dX11_goOnZones_22 rfl ?_
      refine g_iload_n C 3 rfl dX11_goOnZones_23 rfl ?_
      refine g_if_eq C (tgt := 41) ⟨by omega, by omega⟩ dX11_goOnZones_24 (by decide) rfl (fun c_10 => ?_) (fun c_10 => ?_)
      · refine g_lconst0 C dX11_goOnZones_41 rfl ?_
        refine g_last C 1 rfl (by omega) (by omega) (by decide) (ws' := [((Q 0), .inr (12, [vR (Q 1), vR (Q 2), vR (Q 3), vR (Q 4), vR (Q 5), vI pn, vR (Q 6), vL f0, vL f1, vL f2, vL f3, vL (ptX a), vL (ptY a), vL (ptD a), vI rg, vI wr, vR (Q 7), vI rn, vR (Q 8), vI wn])), ((Q 1), cL E 310 (ua (tRz a z) (98 + z) 0))]) rfl dX11_goOnZones_42 rfl ?_
        refine g_aload_n C 0 rfl dX11_goOnZones_43 rfl ?_
        refine g_get C 0 fd_X11_goOnZones_7 rfl rfl rfl dX11_goOnZones_44 rfl ?_
        refine g_bipush C (by decide) dX11_goOnZones_47 rfl ?_
        refine g_iload_n C 2 rfl dX11_goOnZones_49 rfl ?_
        refine g_iadd C rfl dX11_goOnZones_50 rfl ?_
        refine g_lald C 1 rfl (by omega) (by omega) (by decide) (r := 0) (by first | rfl | (simp [ua, sh, sh2]; done)) dX11_goOnZones_51 rfl ?_
        refine g_aload_n C 0 rfl dX11_goOnZones_52 rfl ?_
        refine g_get C 0 fd_X11_goOnZones_7 rfl rfl rfl dX11_goOnZones_53 rfl ?_
        refine g_bipush C (by decide) dX11_goOnZones_56 rfl ?_
        refine g_iload_n C 2 rfl dX11_goOnZones_58 rfl ?_
        refine g_iadd C rfl dX11_goOnZones_59 rfl ?_
        refine g_lald C 1 rfl (by omega) (by omega) (by decide) (r := (tRz a z) (29 + z)) (by rw [ua_ne (by omega)]) dX11_goOnZones_60 rfl ?_
        refine g_lcmp_lt C ⟨by decide, by decide⟩ ⟨by omega, by omega⟩ dX11_goOnZones_61 rfl (tgt := 69) dX11_goOnZones_62 (by decide) rfl (fun c_11 => ?_) (fun c_11 => ?_)
        · refine g_iload_n C 1 rfl dX11_goOnZones_69 rfl ?_
          refine g_istore_n C (lv' := [(0, vR (Q 0)), (1, vI (rR a (Int.toNat (2 - z)))), (2, vI z), (3, vI (pkA a z))]) [1, 0, 2, 3] (by decide) rfl rfl dX11_goOnZones_70 rfl ?_
          refine g_iinc C (r := (z + (-1))) (lv' := [(0, vR (Q 0)), (1, vI (rR a (Int.toNat (2 - z)))), (2, vI (z + (-1))), (3, vI (pkA a z))]) 2 [1, 2, 0, 3] rfl rfl (by decide) rfl rfl dX11_goOnZones_71 rfl ?_
          refine g_goto C (pc' := 5) dX11_goOnZones_74 (by decide) ?_
          refine g_lv (lv' := [(0, vR (Q 0)), (1, vI (rR a (Int.toNat (2 - z)))), (2, vI (z + (-1)))]) [0, 1, 2] rfl ?_
          refine g_ws (ws' := [((Q 0), .inr (12, [vR (Q 1), vR (Q 2), vR (Q 3), vR (Q 4), vR (Q 5), vI pn, vR (Q 6), vL f0, vL f1, vL f2, vL f3, vL (ptX a), vL (ptY a), vL (ptD a), vI rg, vI wr, vR (Q 7), vI rn, vR (Q 8), vI wn])), ((Q 1), cL E 310 (tRz a (z + (-1))))]) (congrArg (fun z_ : Nat → Int64 => ([((Q 0), .inr (12, [vR (Q 1), vR (Q 2), vR (Q 3), vR (Q 4), vR (Q 5), vI pn, vR (Q 6), vL f0, vL f1, vL f2, vL f3, vL (ptX a), vL (ptY a), vL (ptD a), vI rg, vI wr, vR (Q 7), vI rn, vR (Q 8), vI wn])), ((Q 1), .inl (E.2.1 1, 310, .inr (.inl z_)))] : va_W)) (show AL 310 (tRz a (z + (-1))) = AL 310 (ua (tRz a z) (98 + z) 0) from AL_c (fun k_ k0_ k1_ => by rw [show z + -1 = z - 1 by omega]; first | (rw [tRz_s ⟨by omega, by omega⟩, tvA_1 (by omega), z1]; done) | (rw [tRz_s ⟨by omega, by omega⟩, tvA_0 (by omega)]; done)))) ?_
          refine g_cast (ws' := [((Q 0), .inr (12, [vR (Q 1), vR (Q 2), vR (Q 3), vR (Q 4), vR (Q 5), vI pn, vR (Q 6), vL f0, vL f1, vL f2, vL f3, vL (ptX a), vL (ptY a), vL (ptD a), vI rg, vI wr, vR (Q 7), vI rn, vR (Q 8), vI wn])), ((Q 1), cL E 310 (tRz a (z + (-1))))]) (lv' := [(0, vR (Q 0)), (1, vI (rR a (Int.toNat (2 - (z + (-1)))))), (2, vI (z + (-1)))]) (st' := []) rfl (congrArg (fun z_ : Int => ([(0, vR (Q 0)), (1, vI z_), (2, vI (z + (-1)))] : List (Nat × Value))) (show (rR a (Int.toNat (2 - z))) = (rR a (Int.toNat (2 - (z + (-1))))) by rw [show z + -1 = z - 1 by omega, rR_s ⟨by omega, by omega⟩]; first | (rw [if_pos (by omega)]; done) | (rw [if_neg (by omega)]; done))) rfl ?_
          exact ih _ (by omega) (z + (-1)) (by omega) (by omega) rfl
        refine g_iload_n C 2 rfl dX11_goOnZones_65 rfl ?_
        refine g_goto C (pc' := 70) dX11_goOnZones_66 (by decide) ?_
        refine g_istore_n C (lv' := [(0, vR (Q 0)), (1, vI z), (2, vI z), (3, vI (pkA a z))]) [1, 0, 2, 3] (by decide) rfl rfl dX11_goOnZones_70 rfl ?_
        refine g_iinc C (r := (z + (-1))) (lv' := [(0, vR (Q 0)), (1, vI z), (2, vI (z + (-1))), (3, vI (pkA a z))]) 2 [1, 2, 0, 3] rfl rfl (by decide) rfl rfl dX11_goOnZones_71 rfl ?_
        refine g_goto C (pc' := 5) dX11_goOnZones_74 (by decide) ?_
        refine g_lv (lv' := [(0, vR (Q 0)), (1, vI z), (2, vI (z + (-1)))]) [0, 1, 2] rfl ?_
        refine g_ws (ws' := [((Q 0), .inr (12, [vR (Q 1), vR (Q 2), vR (Q 3), vR (Q 4), vR (Q 5), vI pn, vR (Q 6), vL f0, vL f1, vL f2, vL f3, vL (ptX a), vL (ptY a), vL (ptD a), vI rg, vI wr, vR (Q 7), vI rn, vR (Q 8), vI wn])), ((Q 1), cL E 310 (tRz a (z + (-1))))]) (congrArg (fun z_ : Nat → Int64 => ([((Q 0), .inr (12, [vR (Q 1), vR (Q 2), vR (Q 3), vR (Q 4), vR (Q 5), vI pn, vR (Q 6), vL f0, vL f1, vL f2, vL f3, vL (ptX a), vL (ptY a), vL (ptD a), vI rg, vI wr, vR (Q 7), vI rn, vR (Q 8), vI wn])), ((Q 1), .inl (E.2.1 1, 310, .inr (.inl z_)))] : va_W)) (show AL 310 (tRz a (z + (-1))) = AL 310 (ua (tRz a z) (98 + z) 0) from AL_c (fun k_ k0_ k1_ => by rw [show z + -1 = z - 1 by omega]; first | (rw [tRz_s ⟨by omega, by omega⟩, tvA_1 (by omega), z1]; done) | (rw [tRz_s ⟨by omega, by omega⟩, tvA_0 (by omega)]; done)))) ?_
        refine g_cast (ws' := [((Q 0), .inr (12, [vR (Q 1), vR (Q 2), vR (Q 3), vR (Q 4), vR (Q 5), vI pn, vR (Q 6), vL f0, vL f1, vL f2, vL f3, vL (ptX a), vL (ptY a), vL (ptD a), vI rg, vI wr, vR (Q 7), vI rn, vR (Q 8), vI wn])), ((Q 1), cL E 310 (tRz a (z + (-1))))]) (lv' := [(0, vR (Q 0)), (1, vI (rR a (Int.toNat (2 - (z + (-1)))))), (2, vI (z + (-1)))]) (st' := []) rfl (congrArg (fun z_ : Int => ([(0, vR (Q 0)), (1, vI z_), (2, vI (z + (-1)))] : List (Nat × Value))) (show z = (rR a (Int.toNat (2 - (z + (-1))))) by rw [show z + -1 = z - 1 by omega, rR_s ⟨by omega, by omega⟩]; first | (rw [if_pos (by omega)]; done) | (rw [if_neg (by omega)]; done))) rfl ?_
        exact ih _ (by omega) (z + (-1)) (by omega) (by omega) rfl
      refine g_aload_n C 0 rfl dX11_goOnZones_27 rfl ?_
      refine g_get C 0 fd_X11_goOnZones_7 rfl rfl rfl dX11_goOnZones_28 rfl ?_
      refine g_bipush C (by decide) dX11_goOnZones_31 rfl ?_
      refine g_iload_n C 2 rfl dX11_goOnZones_33 rfl ?_
      refine g_iadd C rfl dX11_goOnZones_34 rfl ?_
      refine g_lald C 1 rfl (by omega) (by omega) (by decide) rfl dX11_goOnZones_35 rfl ?_
      refine g_lconst1 C dX11_goOnZones_36 rfl ?_
      refine g_ladd C rfl dX11_goOnZones_37 rfl ?_
      refine g_goto C (pc' := 42) dX11_goOnZones_38 (by decide) ?_
      refine g_last C 1 rfl (by omega) (by omega) (by decide) (ws' := [((Q 0), .inr (12, [vR (Q 1), vR (Q 2), vR (Q 3), vR (Q 4), vR (Q 5), vI pn, vR (Q 6), vL f0, vL f1, vL f2, vL f3, vL (ptX a), vL (ptY a), vL (ptD a), vI rg, vI wr, vR (Q 7), vI rn, vR (Q 8), vI wn])), ((Q 1), cL E 310 (ua (tRz a z) (98 + z) (((tRz a z) (98 + z)) + 1)))]) rfl dX11_goOnZones_42 rfl ?_
      refine g_aload_n C 0 rfl dX11_goOnZones_43 rfl ?_
      refine g_get C 0 fd_X11_goOnZones_7 rfl rfl rfl dX11_goOnZones_44 rfl ?_
      refine g_bipush C (by decide) dX11_goOnZones_47 rfl ?_
      refine g_iload_n C 2 rfl dX11_goOnZones_49 rfl ?_
      refine g_iadd C rfl dX11_goOnZones_50 rfl ?_
      refine g_lald C 1 rfl (by omega) (by omega) (by decide) (r := (((tRz a z) (98 + z)) + 1)) (by first | rfl | (simp [ua, sh, sh2]; done)) dX11_goOnZones_51 rfl ?_
      refine g_aload_n C 0 rfl dX11_goOnZones_52 rfl ?_
      refine g_get C 0 fd_X11_goOnZones_7 rfl rfl rfl dX11_goOnZones_53 rfl ?_
      refine g_bipush C (by decide) dX11_goOnZones_56 rfl ?_
      refine g_iload_n C 2 rfl dX11_goOnZones_58 rfl ?_
      refine g_iadd C rfl dX11_goOnZones_59 rfl ?_
      refine g_lald C 1 rfl (by omega) (by omega) (by decide) (r := (tRz a z) (29 + z)) (by rw [ua_ne (by omega)]) dX11_goOnZones_60 rfl ?_
      refine g_lcmp_lt C ⟨by omega, by omega⟩ ⟨by omega, by omega⟩ dX11_goOnZones_61 rfl (tgt := 69) dX11_goOnZones_62 (by decide) rfl (fun c_12 => ?_) (fun c_12 => ?_)
      · refine g_iload_n C 1 rfl dX11_goOnZones_69 rfl ?_
        refine g_istore_n C (lv' := [(0, vR (Q 0)), (1, vI (rR a (Int.toNat (2 - z)))), (2, vI z), (3, vI (pkA a z))]) [1, 0, 2, 3] (by decide) rfl rfl dX11_goOnZones_70 rfl ?_
        refine g_iinc C (r := (z + (-1))) (lv' := [(0, vR (Q 0)), (1, vI (rR a (Int.toNat (2 - z)))), (2, vI (z + (-1))), (3, vI (pkA a z))]) 2 [1, 2, 0, 3] rfl rfl (by decide) rfl rfl dX11_goOnZones_71 rfl ?_
        refine g_goto C (pc' := 5) dX11_goOnZones_74 (by decide) ?_
        refine g_lv (lv' := [(0, vR (Q 0)), (1, vI (rR a (Int.toNat (2 - z)))), (2, vI (z + (-1)))]) [0, 1, 2] rfl ?_
        refine g_ws (ws' := [((Q 0), .inr (12, [vR (Q 1), vR (Q 2), vR (Q 3), vR (Q 4), vR (Q 5), vI pn, vR (Q 6), vL f0, vL f1, vL f2, vL f3, vL (ptX a), vL (ptY a), vL (ptD a), vI rg, vI wr, vR (Q 7), vI rn, vR (Q 8), vI wn])), ((Q 1), cL E 310 (tRz a (z + (-1))))]) (congrArg (fun z_ : Nat → Int64 => ([((Q 0), .inr (12, [vR (Q 1), vR (Q 2), vR (Q 3), vR (Q 4), vR (Q 5), vI pn, vR (Q 6), vL f0, vL f1, vL f2, vL f3, vL (ptX a), vL (ptY a), vL (ptD a), vI rg, vI wr, vR (Q 7), vI rn, vR (Q 8), vI wn])), ((Q 1), .inl (E.2.1 1, 310, .inr (.inl z_)))] : va_W)) (show AL 310 (tRz a (z + (-1))) = AL 310 (ua (tRz a z) (98 + z) (((tRz a z) (98 + z)) + 1)) from AL_c (fun k_ k0_ k1_ => by rw [show z + -1 = z - 1 by omega]; first | (rw [tRz_s ⟨by omega, by omega⟩, tvA_1 (by omega), z1]; done) | (rw [tRz_s ⟨by omega, by omega⟩, tvA_0 (by omega)]; done)))) ?_
        refine g_cast (ws' := [((Q 0), .inr (12, [vR (Q 1), vR (Q 2), vR (Q 3), vR (Q 4), vR (Q 5), vI pn, vR (Q 6), vL f0, vL f1, vL f2, vL f3, vL (ptX a), vL (ptY a), vL (ptD a), vI rg, vI wr, vR (Q 7), vI rn, vR (Q 8), vI wn])), ((Q 1), cL E 310 (tRz a (z + (-1))))]) (lv' := [(0, vR (Q 0)), (1, vI (rR a (Int.toNat (2 - (z + (-1)))))), (2, vI (z + (-1)))]) (st' := []) rfl (congrArg (fun z_ : Int => ([(0, vR (Q 0)), (1, vI z_), (2, vI (z + (-1)))] : List (Nat × Value))) (show (rR a (Int.toNat (2 - z))) = (rR a (Int.toNat (2 - (z + (-1))))) by rw [show z + -1 = z - 1 by omega, rR_s ⟨by omega, by omega⟩]; first | (rw [if_pos (by omega)]; done) | (rw [if_neg (by omega)]; done))) rfl ?_
        exact ih _ (by omega) (z + (-1)) (by omega) (by omega) rfl
      refine g_iload_n C 2 rfl dX11_goOnZones_65 rfl ?_
      refine g_goto C (pc' := 70) dX11_goOnZones_66 (by decide) ?_
      refine g_istore_n C (lv' := [(0, vR (Q 0)), (1, vI z), (2, vI z), (3, vI (pkA a z))]) [1, 0, 2, 3] (by decide) rfl rfl dX11_goOnZones_70 rfl ?_
      refine g_iinc C (r := (z + (-1))) (lv' := [(0, vR (Q 0)), (1, vI z), (2, vI (z + (-1))), (3, vI (pkA a z))]) 2 [1, 2, 0, 3] rfl rfl (by decide) rfl rfl dX11_goOnZones_71 rfl ?_
      refine g_goto C (pc' := 5) dX11_goOnZones_74 (by decide) ?_
      refine g_lv (lv' := [(0, vR (Q 0)), (1, vI z), (2, vI (z + (-1)))]) [0, 1, 2] rfl ?_
      refine g_ws (ws' := [((Q 0), .inr (12, [vR (Q 1), vR (Q 2), vR (Q 3), vR (Q 4), vR (Q 5), vI pn, vR (Q 6), vL f0, vL f1, vL f2, vL f3, vL (ptX a), vL (ptY a), vL (ptD a), vI rg, vI wr, vR (Q 7), vI rn, vR (Q 8), vI wn])), ((Q 1), cL E 310 (tRz a (z + (-1))))]) (congrArg (fun z_ : Nat → Int64 => ([((Q 0), .inr (12, [vR (Q 1), vR (Q 2), vR (Q 3), vR (Q 4), vR (Q 5), vI pn, vR (Q 6), vL f0, vL f1, vL f2, vL f3, vL (ptX a), vL (ptY a), vL (ptD a), vI rg, vI wr, vR (Q 7), vI rn, vR (Q 8), vI wn])), ((Q 1), .inl (E.2.1 1, 310, .inr (.inl z_)))] : va_W)) (show AL 310 (tRz a (z + (-1))) = AL 310 (ua (tRz a z) (98 + z) (((tRz a z) (98 + z)) + 1)) from AL_c (fun k_ k0_ k1_ => by rw [show z + -1 = z - 1 by omega]; first | (rw [tRz_s ⟨by omega, by omega⟩, tvA_1 (by omega), z1]; done) | (rw [tRz_s ⟨by omega, by omega⟩, tvA_0 (by omega)]; done)))) ?_
      refine g_cast (ws' := [((Q 0), .inr (12, [vR (Q 1), vR (Q 2), vR (Q 3), vR (Q 4), vR (Q 5), vI pn, vR (Q 6), vL f0, vL f1, vL f2, vL f3, vL (ptX a), vL (ptY a), vL (ptD a), vI rg, vI wr, vR (Q 7), vI rn, vR (Q 8), vI wn])), ((Q 1), cL E 310 (tRz a (z + (-1))))]) (lv' := [(0, vR (Q 0)), (1, vI (rR a (Int.toNat (2 - (z + (-1)))))), (2, vI (z + (-1)))]) (st' := []) rfl (congrArg (fun z_ : Int => ([(0, vR (Q 0)), (1, vI z_), (2, vI (z + (-1)))] : List (Nat × Value))) (show z = (rR a (Int.toNat (2 - (z + (-1))))) by rw [show z + -1 = z - 1 by omega, rR_s ⟨by omega, by omega⟩]; first | (rw [if_pos (by omega)]; done) | (rw [if_neg (by omega)]; done))) rfl ?_
      exact ih _ (by omega) (z + (-1)) (by omega) (by omega) rfl
  refine g_ws (ws' := [((Q 0), .inr (12, [vR (Q 1), vR (Q 2), vR (Q 3), vR (Q 4), vR (Q 5), vI pn, vR (Q 6), vL f0, vL f1, vL f2, vL f3, vL (ptX a), vL (ptY a), vL (ptD a), vI rg, vI wr, vR (Q 7), vI rn, vR (Q 8), vI wn])), ((Q 1), cL E 310 (tRz a 2))]) (congrArg (fun z_ : Nat → Int64 => ([((Q 0), .inr (12, [vR (Q 1), vR (Q 2), vR (Q 3), vR (Q 4), vR (Q 5), vI pn, vR (Q 6), vL f0, vL f1, vL f2, vL f3, vL (ptX a), vL (ptY a), vL (ptD a), vI rg, vI wr, vR (Q 7), vI rn, vR (Q 8), vI wn])), ((Q 1), .inl (E.2.1 1, 310, .inr (.inl z_)))] : va_W)) (show AL 310 (tRz a 2) = AL 310 a from AL_c (fun k_ k0_ k1_ => by exact (tRz_o (by omega))))) ?_
  refine g_cast (ws' := [((Q 0), .inr (12, [vR (Q 1), vR (Q 2), vR (Q 3), vR (Q 4), vR (Q 5), vI pn, vR (Q 6), vL f0, vL f1, vL f2, vL f3, vL (ptX a), vL (ptY a), vL (ptD a), vI rg, vI wr, vR (Q 7), vI rn, vR (Q 8), vI wn])), ((Q 1), cL E 310 (tRz a 2))]) (lv' := [(0, vR (Q 0)), (1, vI (rR a (Int.toNat (2 - 2)))), (2, vI 2)]) (st' := []) rfl (congrArg (fun z_ : Int => ([(0, vR (Q 0)), (1, vI z_), (2, vI 2)] : List (Nat × Value))) (show (-6) = (rR a (Int.toNat (2 - 2))) by rfl)) rfl ?_
  exact hL_5 _ 2 (by omega) (by omega) rfl
