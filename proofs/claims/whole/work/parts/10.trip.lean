theorem in_X6_trip_X6 : ∀ w ∈ u_ws RX6 TX6 18, w ∈ wsX6_trip := by decide +kernel
theorem fd_X6_trip_75 : fdk wsX6_trip RX6 75 "ZoneRelay$Relay" RX6 TX6 18 16 := ⟨in_X6_trip_X6, by decide +kernel, by decide, rfl⟩
theorem fd_X6_trip_26 : fdk wsX6_trip RX6 26 "ZoneRelay$Relay" RX6 TX6 18 2 := ⟨in_X6_trip_X6, by decide +kernel, by decide, rfl⟩
theorem in_X6_trip_X9 : ∀ w ∈ u_ws RX9 TX9 4, w ∈ wsX6_trip := by decide +kernel
theorem fd_X6_trip_133 : fdk wsX6_trip RX6 133 "ZoneRelay$Zone" RX9 TX9 4 2 := ⟨in_X6_trip_X9, by decide +kernel, by decide, rfl⟩
theorem fd_X6_trip_233 : fdk wsX6_trip RX6 233 "ZoneRelay$Zone" RX9 TX9 4 0 := ⟨in_X6_trip_X9, by decide +kernel, by decide, rfl⟩
theorem fd_X6_trip_71 : fdk wsX6_trip RX6 71 "ZoneRelay$Relay" RX6 TX6 18 9 := ⟨in_X6_trip_X6, by decide +kernel, by decide, rfl⟩
theorem fd_X6_trip_130 : fdk wsX6_trip RX6 130 "ZoneRelay$Relay" RX6 TX6 18 17 := ⟨in_X6_trip_X6, by decide +kernel, by decide, rfl⟩
abbrev rm_K_trip : Room := { frames := 2, cells := 0, slots := 0, locals := 45 }
set_option maxHeartbeats 8000000 in
set_option maxRecDepth 100000 in
theorem K_trip (l : Launch) (E : Ev) (R : Nat → Nat) (ma mb ag bt_ sw il tr tm : Int) (T K : Int → Int) (d0 w0 t0 p0 d1 w1 t1 p1 d2 w2 t2 p2 n : Int) (htr : -6 ≤ tr ∧ tr ≤ 2) (htm0 : 0 ≤ t0 ∧ t0 < 2000000000) (htm1 : 0 ≤ t1 ∧ t1 < 2000000000) (htm2 : 0 ≤ t2 ∧ t2 < 2000000000) (hd0 : 1 ≤ d0 ∧ d0 ≤ 2400) (hd1 : 1 ≤ d1 ∧ d1 ≤ 2400) (hd2 : 1 ≤ d2 ∧ d2 ≤ 2400) (hn : 0 ≤ n ∧ n < 2000000000) : Mc l yX6_trip wsX6_trip rm_K_trip E [vR (R 0)] [((R 0), .inr (7, [vR (R 1), vR (R 17), vR (R 18), vR (R 22), vR (R 25), vR (R 29), vR (R 31), vR (R 33), vR (R 34), vR (R 35), vI ma, vI mb, vI ag, vI bt_, vI sw, vI il, vI tr, vI tm])), ((R 18), cQ E 5 3 (zq R)), ((R 19), .inr (10, [vI d0, vI w0, vI t0, vI p0])), ((R 20), .inr (10, [vI d1, vI w1, vI t1, vI p1])), ((R 21), .inr (10, [vI d2, vI w2, vI t2, vI p2])), ((R 35), .inr (2, [vR (R 36), vR (R 37), vI n])), ((R 36), cI E 60 T), ((R 37), cI E 60 K)] 0 0 (fun v9 w9 => ∃ (r : Int), v9 = none ∧ w9 = [((R 0), .inr (7, [vR (R 1), vR (R 17), vR (R 18), vR (R 22), vR (R 25), vR (R 29), vR (R 31), vR (R 33), vR (R 34), vR (R 35), vI ma, vI mb, vI ag, vI bt_, vI sw, vI il, vI r, vI tm])), ((R 18), cQ E 5 3 (zq R)), ((R 19), .inr (10, [vI d0, vI w0, vI t0, vI p0])), ((R 20), .inr (10, [vI d1, vI w1, vI t1, vI p1])), ((R 21), .inr (10, [vI d2, vI w2, vI t2, vI p2])), ((R 35), .inr (2, [vR (R 36), vR (R 37), vI (ntN (tr = -6 ∧ ¬ r = -6) n)])), ((R 36), cI E 60 (ntA (tr = -6 ∧ ¬ r = -6) T n tm)), ((R 37), cI E 60 (ntA (tr = -6 ∧ ¬ r = -6) K n (30 + r)))] ∧ r = rip tr d0 t0 d1 t1 d2 t2) := by
  refine Mc.intro (cc := cX6_trip) (maxL := 2) (ret := none) (lv0 := [(0, vR (R 0))]) (by decide +kernel) rfl rfl (Nat.le_of_ble_eq_true rfl) ?_
  intro p9 e9 s9 m9 args9 below9 meth9 c9 A9 C hr hmn
  have C : Cx p9 s9 m9 args9 meth9 c9 E A9 2 cX6_trip wsX6_trip RX6 := C
  refine g_iconst C dX6_trip_0 rfl ?_
  refine g_istore_n C (lv' := [(0, vR (R 0)), (1, vI 0)]) [1, 0] (by decide) rfl rfl dX6_trip_1 rfl ?_
  refine g_iload_n C 1 rfl dX6_trip_2 rfl ?_
  refine g_iconst C dX6_trip_3 rfl ?_
  refine g_icmp_ge C (tgt := 63) ⟨by decide, by decide⟩ ⟨by decide, by decide⟩ dX6_trip_4 (by decide) rfl (fun c_1 => ?_) (fun c_1 => ?_)
  · exact absurd c_1 (by decide)
  refine g_aload_n C 0 rfl dX6_trip_7 rfl ?_
  refine g_get C 0 fd_X6_trip_75 rfl rfl rfl dX6_trip_8 rfl ?_
  refine g_bipush C (by decide) dX6_trip_11 rfl ?_
  refine g_icmp_ne C (tgt := 63) ⟨by omega, by omega⟩ ⟨by decide, by decide⟩ dX6_trip_13 (by decide) rfl (fun c_2 => ?_) (fun c_2 => ?_)
  · have z_3 : (ntN (tr = -6 ∧ ¬ tr = -6) n) = n := by first | (rw [ntN_t (c := (tr = -6 ∧ ¬ tr = -6)) (by omega)] <;> rfl) | (rw [ntN_f (c := (tr = -6 ∧ ¬ tr = -6)) (by omega)] <;> rfl)
    have z_4 : cI E 60 (ntA (tr = -6 ∧ ¬ tr = -6) T n tm) = cI E 60 T := cI_c (fun k_ k0_ k1_ => by first | (rw [ntA_t (c := (tr = -6 ∧ ¬ tr = -6)) (by omega)] <;> rfl) | (rw [ntA_f (c := (tr = -6 ∧ ¬ tr = -6)) (by omega)] <;> rfl))
    have z_5 : cI E 60 (ntA (tr = -6 ∧ ¬ tr = -6) K n (30 + tr)) = cI E 60 K := cI_c (fun k_ k0_ k1_ => by first | (rw [ntA_t (c := (tr = -6 ∧ ¬ tr = -6)) (by omega)] <;> rfl) | (rw [ntA_f (c := (tr = -6 ∧ ¬ tr = -6)) (by omega)] <;> rfl))
    have zz_6 := congr (congr (congrArg (fun (y9_0 : Int) (y9_1 : va_E) (y9_2 : va_E) => ([((R 0), .inr (7, [vR (R 1), vR (R 17), vR (R 18), vR (R 22), vR (R 25), vR (R 29), vR (R 31), vR (R 33), vR (R 34), vR (R 35), vI ma, vI mb, vI ag, vI bt_, vI sw, vI il, vI tr, vI tm])), ((R 18), cQ E 5 3 (zq R)), ((R 19), .inr (10, [vI d0, vI w0, vI t0, vI p0])), ((R 20), .inr (10, [vI d1, vI w1, vI t1, vI p1])), ((R 21), .inr (10, [vI d2, vI w2, vI t2, vI p2])), ((R 35), .inr (2, [vR (R 36), vR (R 37), vI y9_0])), ((R 36), y9_1), ((R 37), y9_2)] : va_W)) z_3) z_4) z_5
    refine g_ws (ws' := [((R 0), .inr (7, [vR (R 1), vR (R 17), vR (R 18), vR (R 22), vR (R 25), vR (R 29), vR (R 31), vR (R 33), vR (R 34), vR (R 35), vI ma, vI mb, vI ag, vI bt_, vI sw, vI il, vI tr, vI tm])), ((R 18), cQ E 5 3 (zq R)), ((R 19), .inr (10, [vI d0, vI w0, vI t0, vI p0])), ((R 20), .inr (10, [vI d1, vI w1, vI t1, vI p1])), ((R 21), .inr (10, [vI d2, vI w2, vI t2, vI p2])), ((R 35), .inr (2, [vR (R 36), vR (R 37), vI (ntN (tr = -6 ∧ ¬ tr = -6) n)])), ((R 36), cI E 60 (ntA (tr = -6 ∧ ¬ tr = -6) T n tm)), ((R 37), cI E 60 (ntA (tr = -6 ∧ ¬ tr = -6) K n (30 + tr)))]) zz_6 ?_
    exact g_vret C hr (Nat.le_of_ble_eq_true rfl) (Nat.le_of_ble_eq_true rfl) dX6_trip_63 ⟨tr, rfl, rfl, (by unfold rip; (repeat' split) <;> first | rfl | omega)⟩
  refine g_aload_n C 0 rfl dX6_trip_16 rfl ?_
  refine g_get C 0 fd_X6_trip_26 rfl rfl rfl dX6_trip_17 rfl ?_
  refine g_iload_n C 1 rfl dX6_trip_20 rfl ?_
  refine g_aald C 1 5 rfl rfl (by decide) (by decide) (by decide) rfl dX6_trip_21 rfl ?_
  refine g_get C 2 fd_X6_trip_133 rfl rfl rfl dX6_trip_22 rfl ?_
  refine g_aload_n C 0 rfl dX6_trip_25 rfl ?_
  refine g_get C 0 fd_X6_trip_26 rfl rfl rfl dX6_trip_26 rfl ?_
  refine g_iload_n C 1 rfl dX6_trip_29 rfl ?_
  refine g_aald C 1 5 rfl rfl (by decide) (by decide) (by decide) rfl dX6_trip_30 rfl ?_
  refine g_get C 2 fd_X6_trip_233 rfl rfl rfl dX6_trip_31 rfl ?_
  refine g_icmp_lt C (tgt := 57) ⟨by omega, by omega⟩ ⟨by omega, by omega⟩ dX6_trip_34 (by decide) rfl (fun c_7 => ?_) (fun c_7 => ?_)
  · refine g_iinc C (r := 1) (lv' := [(0, vR (R 0)), (1, vI 1)]) 1 [1, 0] rfl (by decide) (by decide) rfl rfl dX6_trip_57 rfl ?_
    refine g_goto C (pc' := 2) dX6_trip_60 (by decide) ?_
    refine g_iload_n C 1 rfl dX6_trip_2 rfl ?_
    refine g_iconst C dX6_trip_3 rfl ?_
    refine g_icmp_ge C (tgt := 63) ⟨by decide, by decide⟩ ⟨by decide, by decide⟩ dX6_trip_4 (by decide) rfl (fun c_8 => ?_) (fun c_8 => ?_)
    · exact absurd c_8 (by decide)
    refine g_aload_n C 0 rfl dX6_trip_7 rfl ?_
    refine g_get C 0 fd_X6_trip_75 rfl rfl rfl dX6_trip_8 rfl ?_
    refine g_bipush C (by decide) dX6_trip_11 rfl ?_
    refine g_icmp_ne C (tgt := 63) ⟨by omega, by omega⟩ ⟨by decide, by decide⟩ dX6_trip_13 (by decide) rfl (fun c_9 => ?_) (fun c_9 => ?_)
    · exfalso; omega
    refine g_aload_n C 0 rfl dX6_trip_16 rfl ?_
    refine g_get C 0 fd_X6_trip_26 rfl rfl rfl dX6_trip_17 rfl ?_
    refine g_iload_n C 1 rfl dX6_trip_20 rfl ?_
    refine g_aald C 1 5 rfl rfl (by decide) (by decide) (by decide) rfl dX6_trip_21 rfl ?_
    refine g_get C 3 fd_X6_trip_133 rfl rfl rfl dX6_trip_22 rfl ?_
    refine g_aload_n C 0 rfl dX6_trip_25 rfl ?_
    refine g_get C 0 fd_X6_trip_26 rfl rfl rfl dX6_trip_26 rfl ?_
    refine g_iload_n C 1 rfl dX6_trip_29 rfl ?_
    refine g_aald C 1 5 rfl rfl (by decide) (by decide) (by decide) rfl dX6_trip_30 rfl ?_
    refine g_get C 3 fd_X6_trip_233 rfl rfl rfl dX6_trip_31 rfl ?_
    refine g_icmp_lt C (tgt := 57) ⟨by omega, by omega⟩ ⟨by omega, by omega⟩ dX6_trip_34 (by decide) rfl (fun c_10 => ?_) (fun c_10 => ?_)
    · refine g_iinc C (r := 2) (lv' := [(0, vR (R 0)), (1, vI 2)]) 1 [1, 0] rfl (by decide) (by decide) rfl rfl dX6_trip_57 rfl ?_
      refine g_goto C (pc' := 2) dX6_trip_60 (by decide) ?_
      refine g_iload_n C 1 rfl dX6_trip_2 rfl ?_
      refine g_iconst C dX6_trip_3 rfl ?_
      refine g_icmp_ge C (tgt := 63) ⟨by decide, by decide⟩ ⟨by decide, by decide⟩ dX6_trip_4 (by decide) rfl (fun c_11 => ?_) (fun c_11 => ?_)
      · exact absurd c_11 (by decide)
      refine g_aload_n C 0 rfl dX6_trip_7 rfl ?_
      refine g_get C 0 fd_X6_trip_75 rfl rfl rfl dX6_trip_8 rfl ?_
      refine g_bipush C (by decide) dX6_trip_11 rfl ?_
      refine g_icmp_ne C (tgt := 63) ⟨by omega, by omega⟩ ⟨by decide, by decide⟩ dX6_trip_13 (by decide) rfl (fun c_12 => ?_) (fun c_12 => ?_)
      · exfalso; omega
      refine g_aload_n C 0 rfl dX6_trip_16 rfl ?_
      refine g_get C 0 fd_X6_trip_26 rfl rfl rfl dX6_trip_17 rfl ?_
      refine g_iload_n C 1 rfl dX6_trip_20 rfl ?_
      refine g_aald C 1 5 rfl rfl (by decide) (by decide) (by decide) rfl dX6_trip_21 rfl ?_
      refine g_get C 4 fd_X6_trip_133 rfl rfl rfl dX6_trip_22 rfl ?_
      refine g_aload_n C 0 rfl dX6_trip_25 rfl ?_
      refine g_get C 0 fd_X6_trip_26 rfl rfl rfl dX6_trip_26 rfl ?_
      refine g_iload_n C 1 rfl dX6_trip_29 rfl ?_
      refine g_aald C 1 5 rfl rfl (by decide) (by decide) (by decide) rfl dX6_trip_30 rfl ?_
      refine g_get C 4 fd_X6_trip_233 rfl rfl rfl dX6_trip_31 rfl ?_
      refine g_icmp_lt C (tgt := 57) ⟨by omega, by omega⟩ ⟨by omega, by omega⟩ dX6_trip_34 (by decide) rfl (fun c_13 => ?_) (fun c_13 => ?_)
      · refine g_iinc C (r := 3) (lv' := [(0, vR (R 0)), (1, vI 3)]) 1 [1, 0] rfl (by decide) (by decide) rfl rfl dX6_trip_57 rfl ?_
        refine g_goto C (pc' := 2) dX6_trip_60 (by decide) ?_
        refine g_iload_n C 1 rfl dX6_trip_2 rfl ?_
        refine g_iconst C dX6_trip_3 rfl ?_
        refine g_icmp_ge C (tgt := 63) ⟨by decide, by decide⟩ ⟨by decide, by decide⟩ dX6_trip_4 (by decide) rfl (fun c_14 => ?_) (fun c_14 => ?_)
        · have z_15 : (ntN (tr = -6 ∧ ¬ tr = -6) n) = n := by first | (rw [ntN_t (c := (tr = -6 ∧ ¬ tr = -6)) (by omega)] <;> rfl) | (rw [ntN_f (c := (tr = -6 ∧ ¬ tr = -6)) (by omega)] <;> rfl)
          have z_16 : cI E 60 (ntA (tr = -6 ∧ ¬ tr = -6) T n tm) = cI E 60 T := cI_c (fun k_ k0_ k1_ => by first | (rw [ntA_t (c := (tr = -6 ∧ ¬ tr = -6)) (by omega)] <;> rfl) | (rw [ntA_f (c := (tr = -6 ∧ ¬ tr = -6)) (by omega)] <;> rfl))
          have z_17 : cI E 60 (ntA (tr = -6 ∧ ¬ tr = -6) K n (30 + tr)) = cI E 60 K := cI_c (fun k_ k0_ k1_ => by first | (rw [ntA_t (c := (tr = -6 ∧ ¬ tr = -6)) (by omega)] <;> rfl) | (rw [ntA_f (c := (tr = -6 ∧ ¬ tr = -6)) (by omega)] <;> rfl))
          have zz_18 := congr (congr (congrArg (fun (y9_0 : Int) (y9_1 : va_E) (y9_2 : va_E) => ([((R 0), .inr (7, [vR (R 1), vR (R 17), vR (R 18), vR (R 22), vR (R 25), vR (R 29), vR (R 31), vR (R 33), vR (R 34), vR (R 35), vI ma, vI mb, vI ag, vI bt_, vI sw, vI il, vI tr, vI tm])), ((R 18), cQ E 5 3 (zq R)), ((R 19), .inr (10, [vI d0, vI w0, vI t0, vI p0])), ((R 20), .inr (10, [vI d1, vI w1, vI t1, vI p1])), ((R 21), .inr (10, [vI d2, vI w2, vI t2, vI p2])), ((R 35), .inr (2, [vR (R 36), vR (R 37), vI y9_0])), ((R 36), y9_1), ((R 37), y9_2)] : va_W)) z_15) z_16) z_17
          refine g_ws (ws' := [((R 0), .inr (7, [vR (R 1), vR (R 17), vR (R 18), vR (R 22), vR (R 25), vR (R 29), vR (R 31), vR (R 33), vR (R 34), vR (R 35), vI ma, vI mb, vI ag, vI bt_, vI sw, vI il, vI tr, vI tm])), ((R 18), cQ E 5 3 (zq R)), ((R 19), .inr (10, [vI d0, vI w0, vI t0, vI p0])), ((R 20), .inr (10, [vI d1, vI w1, vI t1, vI p1])), ((R 21), .inr (10, [vI d2, vI w2, vI t2, vI p2])), ((R 35), .inr (2, [vR (R 36), vR (R 37), vI (ntN (tr = -6 ∧ ¬ tr = -6) n)])), ((R 36), cI E 60 (ntA (tr = -6 ∧ ¬ tr = -6) T n tm)), ((R 37), cI E 60 (ntA (tr = -6 ∧ ¬ tr = -6) K n (30 + tr)))]) zz_18 ?_
          exact g_vret C hr (Nat.le_of_ble_eq_true rfl) (Nat.le_of_ble_eq_true rfl) dX6_trip_63 ⟨tr, rfl, rfl, (by unfold rip; (repeat' split) <;> first | rfl | omega)⟩
        exact absurd c_14 (by decide)
      refine g_aload_n C 0 rfl dX6_trip_37 rfl ?_
      refine g_iload_n C 1 rfl dX6_trip_38 rfl ?_
      refine g_put C tyX6 tyX6_ok nmX6 0 fd_X6_trip_75 rfl rfl rfl rfl rfl rfl (Nat.le_of_ble_eq_true rfl) (ws' := [((R 0), .inr (7, [vR (R 1), vR (R 17), vR (R 18), vR (R 22), vR (R 25), vR (R 29), vR (R 31), vR (R 33), vR (R 34), vR (R 35), vI ma, vI mb, vI ag, vI bt_, vI sw, vI il, vI 2, vI tm])), ((R 18), cQ E 5 3 (zq R)), ((R 19), .inr (10, [vI d0, vI w0, vI t0, vI p0])), ((R 20), .inr (10, [vI d1, vI w1, vI t1, vI p1])), ((R 21), .inr (10, [vI d2, vI w2, vI t2, vI p2])), ((R 35), .inr (2, [vR (R 36), vR (R 37), vI n])), ((R 36), cI E 60 T), ((R 37), cI E 60 K)]) rfl dX6_trip_39 rfl ?_
      refine g_aload_n C 0 rfl dX6_trip_42 rfl ?_
      refine g_get C 0 fd_X6_trip_71 rfl rfl rfl dX6_trip_43 rfl ?_
      refine g_aload_n C 0 rfl dX6_trip_46 rfl ?_
      refine g_get C 0 fd_X6_trip_130 rfl rfl rfl dX6_trip_47 rfl ?_
      refine g_bipush C (by decide) dX6_trip_50 rfl ?_
      refine g_iload_n C 1 rfl dX6_trip_52 rfl ?_
      refine g_iadd C (r := 32) (by decide) dX6_trip_53 rfl ?_
      refine g_callV C (b := (R 35)) (As := [vI tm, vI 32]) (wc := [((R 35), .inr (2, [vR (R 36), vR (R 37), vI n])), ((R 36), cI E 60 T), ((R 37), cI E 60 K)]) (wr := [((R 0), .inr (7, [vR (R 1), vR (R 17), vR (R 18), vR (R 22), vR (R 25), vR (R 29), vR (R 31), vR (R 33), vR (R 34), vR (R 35), vI ma, vI mb, vI ag, vI bt_, vI sw, vI il, vI 2, vI tm])), ((R 18), cQ E 5 3 (zq R)), ((R 19), .inr (10, [vI d0, vI w0, vI t0, vI p0])), ((R 20), .inr (10, [vI d1, vI w1, vI t1, vI p1])), ((R 21), .inr (10, [vI d2, vI w2, vI t2, vI p2]))]) (st := []) gX6_trip_X1_note (q9 := 0) (ci := 2) rfl rfl rfl (K_log_note l E (R 35) (R 36) (R 37) T K n tm 32 hn) hyd_X1_note rfl [5, 6, 7] [0, 1, 2, 3, 4] rfl rfl rfl rfl rfl (by decide) ⟨rfl, rfl⟩ ⟨Nat.le_of_ble_eq_true rfl, Nat.le_of_ble_eq_true rfl, Nat.le_of_ble_eq_true rfl, Nat.le_of_ble_eq_true rfl⟩ (Nat.le_of_ble_eq_true rfl) dX6_trip_54 (rfl : _ = 0) (rfl : _ = 0) rfl ?_
      rintro _ _ ⟨rfl, rfl⟩
      refine g_is (ws' := [((R 0), .inr (7, [vR (R 1), vR (R 17), vR (R 18), vR (R 22), vR (R 25), vR (R 29), vR (R 31), vR (R 33), vR (R 34), vR (R 35), vI ma, vI mb, vI ag, vI bt_, vI sw, vI il, vI 2, vI tm])), ((R 18), cQ E 5 3 (zq R)), ((R 19), .inr (10, [vI d0, vI w0, vI t0, vI p0])), ((R 20), .inr (10, [vI d1, vI w1, vI t1, vI p1])), ((R 21), .inr (10, [vI d2, vI w2, vI t2, vI p2])), ((R 35), .inr (2, [vR (R 36), vR (R 37), vI (n + 1)])), ((R 36), cI E 60 (ua T (Int.tmod n 60) tm)), ((R 37), cI E 60 (ua K (Int.tmod n 60) 32))]) (st' := []) rfl rfl ?_
      refine g_iinc C (r := 3) (lv' := [(0, vR (R 0)), (1, vI 3)]) 1 [1, 0] rfl (by decide) (by decide) rfl rfl dX6_trip_57 rfl ?_
      refine g_goto C (pc' := 2) dX6_trip_60 (by decide) ?_
      refine g_iload_n C 1 rfl dX6_trip_2 rfl ?_
      refine g_iconst C dX6_trip_3 rfl ?_
      refine g_icmp_ge C (tgt := 63) ⟨by decide, by decide⟩ ⟨by decide, by decide⟩ dX6_trip_4 (by decide) rfl (fun c_19 => ?_) (fun c_19 => ?_)
      · have z_20 : (ntN (tr = -6 ∧ ¬ 2 = -6) n) = (n + 1) := by first | (rw [ntN_t (c := (tr = -6 ∧ ¬ 2 = -6)) (by omega)] <;> rfl) | (rw [ntN_f (c := (tr = -6 ∧ ¬ 2 = -6)) (by omega)] <;> rfl)
        have z_21 : cI E 60 (ntA (tr = -6 ∧ ¬ 2 = -6) T n tm) = cI E 60 (ua T (Int.tmod n 60) tm) := cI_c (fun k_ k0_ k1_ => by first | (rw [ntA_t (c := (tr = -6 ∧ ¬ 2 = -6)) (by omega)] <;> rfl) | (rw [ntA_f (c := (tr = -6 ∧ ¬ 2 = -6)) (by omega)] <;> rfl))
        have z_22 : cI E 60 (ntA (tr = -6 ∧ ¬ 2 = -6) K n (30 + 2)) = cI E 60 (ua K (Int.tmod n 60) 32) := cI_c (fun k_ k0_ k1_ => by first | (rw [ntA_t (c := (tr = -6 ∧ ¬ 2 = -6)) (by omega)] <;> rfl) | (rw [ntA_f (c := (tr = -6 ∧ ¬ 2 = -6)) (by omega)] <;> rfl))
        have zz_23 := congr (congr (congrArg (fun (y9_0 : Int) (y9_1 : va_E) (y9_2 : va_E) => ([((R 0), .inr (7, [vR (R 1), vR (R 17), vR (R 18), vR (R 22), vR (R 25), vR (R 29), vR (R 31), vR (R 33), vR (R 34), vR (R 35), vI ma, vI mb, vI ag, vI bt_, vI sw, vI il, vI 2, vI tm])), ((R 18), cQ E 5 3 (zq R)), ((R 19), .inr (10, [vI d0, vI w0, vI t0, vI p0])), ((R 20), .inr (10, [vI d1, vI w1, vI t1, vI p1])), ((R 21), .inr (10, [vI d2, vI w2, vI t2, vI p2])), ((R 35), .inr (2, [vR (R 36), vR (R 37), vI y9_0])), ((R 36), y9_1), ((R 37), y9_2)] : va_W)) z_20) z_21) z_22
        refine g_ws (ws' := [((R 0), .inr (7, [vR (R 1), vR (R 17), vR (R 18), vR (R 22), vR (R 25), vR (R 29), vR (R 31), vR (R 33), vR (R 34), vR (R 35), vI ma, vI mb, vI ag, vI bt_, vI sw, vI il, vI 2, vI tm])), ((R 18), cQ E 5 3 (zq R)), ((R 19), .inr (10, [vI d0, vI w0, vI t0, vI p0])), ((R 20), .inr (10, [vI d1, vI w1, vI t1, vI p1])), ((R 21), .inr (10, [vI d2, vI w2, vI t2, vI p2])), ((R 35), .inr (2, [vR (R 36), vR (R 37), vI (ntN (tr = -6 ∧ ¬ 2 = -6) n)])), ((R 36), cI E 60 (ntA (tr = -6 ∧ ¬ 2 = -6) T n tm)), ((R 37), cI E 60 (ntA (tr = -6 ∧ ¬ 2 = -6) K n (30 + 2)))]) zz_23 ?_
        exact g_vret C hr (Nat.le_of_ble_eq_true rfl) (Nat.le_of_ble_eq_true rfl) dX6_trip_63 ⟨2, rfl, rfl, (by unfold rip; (repeat' split) <;> first | rfl | omega)⟩
      exact absurd c_19 (by decide)
    refine g_aload_n C 0 rfl dX6_trip_37 rfl ?_
    refine g_iload_n C 1 rfl dX6_trip_38 rfl ?_
    refine g_put C tyX6 tyX6_ok nmX6 0 fd_X6_trip_75 rfl rfl rfl rfl rfl rfl (Nat.le_of_ble_eq_true rfl) (ws' := [((R 0), .inr (7, [vR (R 1), vR (R 17), vR (R 18), vR (R 22), vR (R 25), vR (R 29), vR (R 31), vR (R 33), vR (R 34), vR (R 35), vI ma, vI mb, vI ag, vI bt_, vI sw, vI il, vI 1, vI tm])), ((R 18), cQ E 5 3 (zq R)), ((R 19), .inr (10, [vI d0, vI w0, vI t0, vI p0])), ((R 20), .inr (10, [vI d1, vI w1, vI t1, vI p1])), ((R 21), .inr (10, [vI d2, vI w2, vI t2, vI p2])), ((R 35), .inr (2, [vR (R 36), vR (R 37), vI n])), ((R 36), cI E 60 T), ((R 37), cI E 60 K)]) rfl dX6_trip_39 rfl ?_
    refine g_aload_n C 0 rfl dX6_trip_42 rfl ?_
    refine g_get C 0 fd_X6_trip_71 rfl rfl rfl dX6_trip_43 rfl ?_
    refine g_aload_n C 0 rfl dX6_trip_46 rfl ?_
    refine g_get C 0 fd_X6_trip_130 rfl rfl rfl dX6_trip_47 rfl ?_
    refine g_bipush C (by decide) dX6_trip_50 rfl ?_
    refine g_iload_n C 1 rfl dX6_trip_52 rfl ?_
    refine g_iadd C (r := 31) (by decide) dX6_trip_53 rfl ?_
    refine g_callV C (b := (R 35)) (As := [vI tm, vI 31]) (wc := [((R 35), .inr (2, [vR (R 36), vR (R 37), vI n])), ((R 36), cI E 60 T), ((R 37), cI E 60 K)]) (wr := [((R 0), .inr (7, [vR (R 1), vR (R 17), vR (R 18), vR (R 22), vR (R 25), vR (R 29), vR (R 31), vR (R 33), vR (R 34), vR (R 35), vI ma, vI mb, vI ag, vI bt_, vI sw, vI il, vI 1, vI tm])), ((R 18), cQ E 5 3 (zq R)), ((R 19), .inr (10, [vI d0, vI w0, vI t0, vI p0])), ((R 20), .inr (10, [vI d1, vI w1, vI t1, vI p1])), ((R 21), .inr (10, [vI d2, vI w2, vI t2, vI p2]))]) (st := []) gX6_trip_X1_note (q9 := 0) (ci := 2) rfl rfl rfl (K_log_note l E (R 35) (R 36) (R 37) T K n tm 31 hn) hyd_X1_note rfl [5, 6, 7] [0, 1, 2, 3, 4] rfl rfl rfl rfl rfl (by decide) ⟨rfl, rfl⟩ ⟨Nat.le_of_ble_eq_true rfl, Nat.le_of_ble_eq_true rfl, Nat.le_of_ble_eq_true rfl, Nat.le_of_ble_eq_true rfl⟩ (Nat.le_of_ble_eq_true rfl) dX6_trip_54 (rfl : _ = 0) (rfl : _ = 0) rfl ?_
    rintro _ _ ⟨rfl, rfl⟩
    refine g_is (ws' := [((R 0), .inr (7, [vR (R 1), vR (R 17), vR (R 18), vR (R 22), vR (R 25), vR (R 29), vR (R 31), vR (R 33), vR (R 34), vR (R 35), vI ma, vI mb, vI ag, vI bt_, vI sw, vI il, vI 1, vI tm])), ((R 18), cQ E 5 3 (zq R)), ((R 19), .inr (10, [vI d0, vI w0, vI t0, vI p0])), ((R 20), .inr (10, [vI d1, vI w1, vI t1, vI p1])), ((R 21), .inr (10, [vI d2, vI w2, vI t2, vI p2])), ((R 35), .inr (2, [vR (R 36), vR (R 37), vI (n + 1)])), ((R 36), cI E 60 (ua T (Int.tmod n 60) tm)), ((R 37), cI E 60 (ua K (Int.tmod n 60) 31))]) (st' := []) rfl rfl ?_
    refine g_iinc C (r := 2) (lv' := [(0, vR (R 0)), (1, vI 2)]) 1 [1, 0] rfl (by decide) (by decide) rfl rfl dX6_trip_57 rfl ?_
    refine g_goto C (pc' := 2) dX6_trip_60 (by decide) ?_
    refine g_iload_n C 1 rfl dX6_trip_2 rfl ?_
    refine g_iconst C dX6_trip_3 rfl ?_
    refine g_icmp_ge C (tgt := 63) ⟨by decide, by decide⟩ ⟨by decide, by decide⟩ dX6_trip_4 (by decide) rfl (fun c_24 => ?_) (fun c_24 => ?_)
    · exact absurd c_24 (by decide)
    refine g_aload_n C 0 rfl dX6_trip_7 rfl ?_
    refine g_get C 0 fd_X6_trip_75 rfl rfl rfl dX6_trip_8 rfl ?_
    refine g_bipush C (by decide) dX6_trip_11 rfl ?_
    refine g_icmp_ne C (tgt := 63) ⟨by decide, by decide⟩ ⟨by decide, by decide⟩ dX6_trip_13 (by decide) rfl (fun c_25 => ?_) (fun c_25 => ?_)
    · have z_26 : (ntN (tr = -6 ∧ ¬ 1 = -6) n) = (n + 1) := by first | (rw [ntN_t (c := (tr = -6 ∧ ¬ 1 = -6)) (by omega)] <;> rfl) | (rw [ntN_f (c := (tr = -6 ∧ ¬ 1 = -6)) (by omega)] <;> rfl)
      have z_27 : cI E 60 (ntA (tr = -6 ∧ ¬ 1 = -6) T n tm) = cI E 60 (ua T (Int.tmod n 60) tm) := cI_c (fun k_ k0_ k1_ => by first | (rw [ntA_t (c := (tr = -6 ∧ ¬ 1 = -6)) (by omega)] <;> rfl) | (rw [ntA_f (c := (tr = -6 ∧ ¬ 1 = -6)) (by omega)] <;> rfl))
      have z_28 : cI E 60 (ntA (tr = -6 ∧ ¬ 1 = -6) K n (30 + 1)) = cI E 60 (ua K (Int.tmod n 60) 31) := cI_c (fun k_ k0_ k1_ => by first | (rw [ntA_t (c := (tr = -6 ∧ ¬ 1 = -6)) (by omega)] <;> rfl) | (rw [ntA_f (c := (tr = -6 ∧ ¬ 1 = -6)) (by omega)] <;> rfl))
      have zz_29 := congr (congr (congrArg (fun (y9_0 : Int) (y9_1 : va_E) (y9_2 : va_E) => ([((R 0), .inr (7, [vR (R 1), vR (R 17), vR (R 18), vR (R 22), vR (R 25), vR (R 29), vR (R 31), vR (R 33), vR (R 34), vR (R 35), vI ma, vI mb, vI ag, vI bt_, vI sw, vI il, vI 1, vI tm])), ((R 18), cQ E 5 3 (zq R)), ((R 19), .inr (10, [vI d0, vI w0, vI t0, vI p0])), ((R 20), .inr (10, [vI d1, vI w1, vI t1, vI p1])), ((R 21), .inr (10, [vI d2, vI w2, vI t2, vI p2])), ((R 35), .inr (2, [vR (R 36), vR (R 37), vI y9_0])), ((R 36), y9_1), ((R 37), y9_2)] : va_W)) z_26) z_27) z_28
      refine g_ws (ws' := [((R 0), .inr (7, [vR (R 1), vR (R 17), vR (R 18), vR (R 22), vR (R 25), vR (R 29), vR (R 31), vR (R 33), vR (R 34), vR (R 35), vI ma, vI mb, vI ag, vI bt_, vI sw, vI il, vI 1, vI tm])), ((R 18), cQ E 5 3 (zq R)), ((R 19), .inr (10, [vI d0, vI w0, vI t0, vI p0])), ((R 20), .inr (10, [vI d1, vI w1, vI t1, vI p1])), ((R 21), .inr (10, [vI d2, vI w2, vI t2, vI p2])), ((R 35), .inr (2, [vR (R 36), vR (R 37), vI (ntN (tr = -6 ∧ ¬ 1 = -6) n)])), ((R 36), cI E 60 (ntA (tr = -6 ∧ ¬ 1 = -6) T n tm)), ((R 37), cI E 60 (ntA (tr = -6 ∧ ¬ 1 = -6) K n (30 + 1)))]) zz_29 ?_
      exact g_vret C hr (Nat.le_of_ble_eq_true rfl) (Nat.le_of_ble_eq_true rfl) dX6_trip_63 ⟨1, rfl, rfl, (by unfold rip; (repeat' split) <;> first | rfl | omega)⟩
    exact absurd c_25 (by decide)
  refine g_aload_n C 0 rfl dX6_trip_37 rfl ?_
  refine g_iload_n C 1 rfl dX6_trip_38 rfl ?_
  refine g_put C tyX6 tyX6_ok nmX6 0 fd_X6_trip_75 rfl rfl rfl rfl rfl rfl (Nat.le_of_ble_eq_true rfl) (ws' := [((R 0), .inr (7, [vR (R 1), vR (R 17), vR (R 18), vR (R 22), vR (R 25), vR (R 29), vR (R 31), vR (R 33), vR (R 34), vR (R 35), vI ma, vI mb, vI ag, vI bt_, vI sw, vI il, vI 0, vI tm])), ((R 18), cQ E 5 3 (zq R)), ((R 19), .inr (10, [vI d0, vI w0, vI t0, vI p0])), ((R 20), .inr (10, [vI d1, vI w1, vI t1, vI p1])), ((R 21), .inr (10, [vI d2, vI w2, vI t2, vI p2])), ((R 35), .inr (2, [vR (R 36), vR (R 37), vI n])), ((R 36), cI E 60 T), ((R 37), cI E 60 K)]) rfl dX6_trip_39 rfl ?_
  refine g_aload_n C 0 rfl dX6_trip_42 rfl ?_
  refine g_get C 0 fd_X6_trip_71 rfl rfl rfl dX6_trip_43 rfl ?_
  refine g_aload_n C 0 rfl dX6_trip_46 rfl ?_
  refine g_get C 0 fd_X6_trip_130 rfl rfl rfl dX6_trip_47 rfl ?_
  refine g_bipush C (by decide) dX6_trip_50 rfl ?_
  refine g_iload_n C 1 rfl dX6_trip_52 rfl ?_
  refine g_iadd C (r := 30) (by decide) dX6_trip_53 rfl ?_
  refine g_callV C (b := (R 35)) (As := [vI tm, vI 30]) (wc := [((R 35), .inr (2, [vR (R 36), vR (R 37), vI n])), ((R 36), cI E 60 T), ((R 37), cI E 60 K)]) (wr := [((R 0), .inr (7, [vR (R 1), vR (R 17), vR (R 18), vR (R 22), vR (R 25), vR (R 29), vR (R 31), vR (R 33), vR (R 34), vR (R 35), vI ma, vI mb, vI ag, vI bt_, vI sw, vI il, vI 0, vI tm])), ((R 18), cQ E 5 3 (zq R)), ((R 19), .inr (10, [vI d0, vI w0, vI t0, vI p0])), ((R 20), .inr (10, [vI d1, vI w1, vI t1, vI p1])), ((R 21), .inr (10, [vI d2, vI w2, vI t2, vI p2]))]) (st := []) gX6_trip_X1_note (q9 := 0) (ci := 2) rfl rfl rfl (K_log_note l E (R 35) (R 36) (R 37) T K n tm 30 hn) hyd_X1_note rfl [5, 6, 7] [0, 1, 2, 3, 4] rfl rfl rfl rfl rfl (by decide) ⟨rfl, rfl⟩ ⟨Nat.le_of_ble_eq_true rfl, Nat.le_of_ble_eq_true rfl, Nat.le_of_ble_eq_true rfl, Nat.le_of_ble_eq_true rfl⟩ (Nat.le_of_ble_eq_true rfl) dX6_trip_54 (rfl : _ = 0) (rfl : _ = 0) rfl ?_
  rintro _ _ ⟨rfl, rfl⟩
  refine g_is (ws' := [((R 0), .inr (7, [vR (R 1), vR (R 17), vR (R 18), vR (R 22), vR (R 25), vR (R 29), vR (R 31), vR (R 33), vR (R 34), vR (R 35), vI ma, vI mb, vI ag, vI bt_, vI sw, vI il, vI 0, vI tm])), ((R 18), cQ E 5 3 (zq R)), ((R 19), .inr (10, [vI d0, vI w0, vI t0, vI p0])), ((R 20), .inr (10, [vI d1, vI w1, vI t1, vI p1])), ((R 21), .inr (10, [vI d2, vI w2, vI t2, vI p2])), ((R 35), .inr (2, [vR (R 36), vR (R 37), vI (n + 1)])), ((R 36), cI E 60 (ua T (Int.tmod n 60) tm)), ((R 37), cI E 60 (ua K (Int.tmod n 60) 30))]) (st' := []) rfl rfl ?_
  refine g_iinc C (r := 1) (lv' := [(0, vR (R 0)), (1, vI 1)]) 1 [1, 0] rfl (by decide) (by decide) rfl rfl dX6_trip_57 rfl ?_
  refine g_goto C (pc' := 2) dX6_trip_60 (by decide) ?_
  refine g_iload_n C 1 rfl dX6_trip_2 rfl ?_
  refine g_iconst C dX6_trip_3 rfl ?_
  refine g_icmp_ge C (tgt := 63) ⟨by decide, by decide⟩ ⟨by decide, by decide⟩ dX6_trip_4 (by decide) rfl (fun c_30 => ?_) (fun c_30 => ?_)
  · exact absurd c_30 (by decide)
  refine g_aload_n C 0 rfl dX6_trip_7 rfl ?_
  refine g_get C 0 fd_X6_trip_75 rfl rfl rfl dX6_trip_8 rfl ?_
  refine g_bipush C (by decide) dX6_trip_11 rfl ?_
  refine g_icmp_ne C (tgt := 63) ⟨by decide, by decide⟩ ⟨by decide, by decide⟩ dX6_trip_13 (by decide) rfl (fun c_31 => ?_) (fun c_31 => ?_)
  · have z_32 : (ntN (tr = -6 ∧ ¬ 0 = -6) n) = (n + 1) := by first | (rw [ntN_t (c := (tr = -6 ∧ ¬ 0 = -6)) (by omega)] <;> rfl) | (rw [ntN_f (c := (tr = -6 ∧ ¬ 0 = -6)) (by omega)] <;> rfl)
    have z_33 : cI E 60 (ntA (tr = -6 ∧ ¬ 0 = -6) T n tm) = cI E 60 (ua T (Int.tmod n 60) tm) := cI_c (fun k_ k0_ k1_ => by first | (rw [ntA_t (c := (tr = -6 ∧ ¬ 0 = -6)) (by omega)] <;> rfl) | (rw [ntA_f (c := (tr = -6 ∧ ¬ 0 = -6)) (by omega)] <;> rfl))
    have z_34 : cI E 60 (ntA (tr = -6 ∧ ¬ 0 = -6) K n (30 + 0)) = cI E 60 (ua K (Int.tmod n 60) 30) := cI_c (fun k_ k0_ k1_ => by first | (rw [ntA_t (c := (tr = -6 ∧ ¬ 0 = -6)) (by omega)] <;> rfl) | (rw [ntA_f (c := (tr = -6 ∧ ¬ 0 = -6)) (by omega)] <;> rfl))
    have zz_35 := congr (congr (congrArg (fun (y9_0 : Int) (y9_1 : va_E) (y9_2 : va_E) => ([((R 0), .inr (7, [vR (R 1), vR (R 17), vR (R 18), vR (R 22), vR (R 25), vR (R 29), vR (R 31), vR (R 33), vR (R 34), vR (R 35), vI ma, vI mb, vI ag, vI bt_, vI sw, vI il, vI 0, vI tm])), ((R 18), cQ E 5 3 (zq R)), ((R 19), .inr (10, [vI d0, vI w0, vI t0, vI p0])), ((R 20), .inr (10, [vI d1, vI w1, vI t1, vI p1])), ((R 21), .inr (10, [vI d2, vI w2, vI t2, vI p2])), ((R 35), .inr (2, [vR (R 36), vR (R 37), vI y9_0])), ((R 36), y9_1), ((R 37), y9_2)] : va_W)) z_32) z_33) z_34
    refine g_ws (ws' := [((R 0), .inr (7, [vR (R 1), vR (R 17), vR (R 18), vR (R 22), vR (R 25), vR (R 29), vR (R 31), vR (R 33), vR (R 34), vR (R 35), vI ma, vI mb, vI ag, vI bt_, vI sw, vI il, vI 0, vI tm])), ((R 18), cQ E 5 3 (zq R)), ((R 19), .inr (10, [vI d0, vI w0, vI t0, vI p0])), ((R 20), .inr (10, [vI d1, vI w1, vI t1, vI p1])), ((R 21), .inr (10, [vI d2, vI w2, vI t2, vI p2])), ((R 35), .inr (2, [vR (R 36), vR (R 37), vI (ntN (tr = -6 ∧ ¬ 0 = -6) n)])), ((R 36), cI E 60 (ntA (tr = -6 ∧ ¬ 0 = -6) T n tm)), ((R 37), cI E 60 (ntA (tr = -6 ∧ ¬ 0 = -6) K n (30 + 0)))]) zz_35 ?_
    exact g_vret C hr (Nat.le_of_ble_eq_true rfl) (Nat.le_of_ble_eq_true rfl) dX6_trip_63 ⟨0, rfl, rfl, (by unfold rip; (repeat' split) <;> first | rfl | omega)⟩
  exact absurd c_31 (by decide)
