theorem in_J5_length_8abf5_J4 : ∀ w ∈ u_ws RJ4 TJ4 4, w ∈ wsJ5_length_8abf5 := by decide +kernel
theorem fd_J5_length_8abf5_79 : fdk wsJ5_length_8abf5 RJ5 79 "java/lang/AbstractStringBuilder" RJ4 TJ4 4 3 := ⟨in_J5_length_8abf5_J4, by decide +kernel, by decide, rfl⟩
abbrev rm_K_sb_len5 : Room := { frames := 0, cells := 0, slots := 0, locals := 0 }
set_option maxHeartbeats 1000000 in
set_option maxRecDepth 100000 in
theorem K_sb_len5 (l : Launch) (E : Ev) (h b : Nat) (ml n : Int)  : Mc l yJ5_length_8abf5 wsJ5_length_8abf5 rm_K_sb_len5 E [vR h] [(h, .inr (0, [vR b, vI 0, vI ml, vI n]))] 0 0 (fun v9 w9 => v9 = some (vI n) ∧ w9 = [(h, .inr (0, [vR b, vI 0, vI ml, vI n]))]) := by
  refine Mc.intro (cc := cJ5_length_8abf5) (maxL := 1) (ret := (some .int)) (lv0 := [(0, vR h)]) (by decide +kernel) rfl rfl (Nat.le_of_ble_eq_true rfl) ?_
  intro p9 e9 s9 m9 args9 below9 meth9 c9 A9 C hr hmn
  have C : Cx p9 s9 m9 args9 meth9 c9 E A9 1 cJ5_length_8abf5 wsJ5_length_8abf5 RJ5 := C
  refine g_aload_n C 0 rfl dJ5_length_8abf5_0 rfl ?_
  refine g_get C 0 fd_J5_length_8abf5_79 rfl rfl rfl dJ5_length_8abf5_1 rfl ?_
  exact g_iret C hr rfl (Nat.le_of_ble_eq_true rfl) (Nat.le_of_ble_eq_true rfl) dJ5_length_8abf5_4 ⟨rfl, rfl⟩

theorem hyd_J5_length_8abf5 : yJ5_length_8abf5.cls ≠ "java/lang/invoke/MethodHandle" ∧ yJ5_length_8abf5.cls ≠ "java/lang/invoke/VarHandle" ∧ (parseMethodDescriptor yJ5_length_8abf5.desc).map (fun d => d.parameters.length) = some 0 := by decide +kernel
theorem hys_J5_length_8abf5 : yJ5_length_8abf5.name ≠ "<init>" ∧ (parseMethodDescriptor yJ5_length_8abf5.desc).map (fun d => d.parameters.length) = some 0 := by decide +kernel
abbrev rm_K_sb_len : Room := { frames := 1, cells := 0, slots := 0, locals := 20 }
set_option maxHeartbeats 1000000 in
set_option maxRecDepth 100000 in
theorem K_sb_len (l : Launch) (E : Ev) (h b : Nat) (ml n : Int)  : Mc l yJ4_length_8abf5 wsJ4_length_8abf5 rm_K_sb_len E [vR h] [(h, .inr (0, [vR b, vI 0, vI ml, vI n]))] 0 0 (fun v9 w9 => v9 = some (vI n) ∧ w9 = [(h, .inr (0, [vR b, vI 0, vI ml, vI n]))]) := by
  refine Mc.intro (cc := cJ4_length_8abf5) (maxL := 1) (ret := (some .int)) (lv0 := [(0, vR h)]) (by decide +kernel) rfl rfl (Nat.le_of_ble_eq_true rfl) ?_
  intro p9 e9 s9 m9 args9 below9 meth9 c9 A9 C hr hmn
  have C : Cx p9 s9 m9 args9 meth9 c9 E A9 1 cJ4_length_8abf5 wsJ4_length_8abf5 RJ4 := C
  refine g_aload_n C 0 rfl dJ4_length_8abf5_0 rfl ?_
  refine g_callSU C (b := h) (As := []) (wc := [(h, .inr (0, [vR b, vI 0, vI ml, vI n]))]) (wr := []) (st := []) gJ4_length_8abf5_J5_length_8abf5_s343 (q9 := 0) (ci := 0) rfl rfl rfl (K_sb_len5 l E h b ml n ) hys_J5_length_8abf5 rfl [0] [] rfl rfl rfl rfl rfl (by decide) ⟨rfl, rfl⟩ ⟨Nat.le_of_ble_eq_true rfl, Nat.le_of_ble_eq_true rfl, Nat.le_of_ble_eq_true rfl, Nat.le_of_ble_eq_true rfl⟩ (Nat.le_of_ble_eq_true rfl) dJ4_length_8abf5_1 (rfl : _ = 0) (rfl : _ = 0) rfl ?_
  rintro _ _ ⟨rfl, rfl⟩
  refine g_is (ws' := [(h, .inr (0, [vR b, vI 0, vI ml, vI n]))]) (st' := [vI n]) rfl rfl ?_
  exact g_iret C hr rfl (Nat.le_of_ble_eq_true rfl) (Nat.le_of_ble_eq_true rfl) dJ4_length_8abf5_4 ⟨rfl, rfl⟩

theorem w_J5_isLatin1_aae02_st18 : Cond.fieldLink RJ5 18 "java/lang/String" "COMPACT_STRINGS" "Z" ∈ wsJ5_isLatin1_aae02 := by decide +kernel
theorem in_J5_isLatin1_aae02_J4 : ∀ w ∈ u_ws RJ4 TJ4 4, w ∈ wsJ5_isLatin1_aae02 := by decide +kernel
theorem fd_J5_isLatin1_aae02_22 : fdk wsJ5_isLatin1_aae02 RJ5 22 "java/lang/AbstractStringBuilder" RJ4 TJ4 4 1 := ⟨in_J5_isLatin1_aae02_J4, by decide +kernel, by decide, rfl⟩
abbrev rm_K_sb_lat : Room := { frames := 0, cells := 0, slots := 0, locals := 0 }
set_option maxHeartbeats 1000000 in
set_option maxRecDepth 100000 in
theorem K_sb_lat (l : Launch) (E : Ev) (h b : Nat) (ml n : Int)  : Mc l yJ5_isLatin1_aae02 wsJ5_isLatin1_aae02 rm_K_sb_lat E [vR h] [(h, .inr (0, [vR b, vI 0, vI ml, vI n]))] 0 0 (fun v9 w9 => v9 = some (vI 1) ∧ w9 = [(h, .inr (0, [vR b, vI 0, vI ml, vI n]))]) := by
  refine Mc.intro (cc := cJ5_isLatin1_aae02) (maxL := 1) (ret := (some .boolean)) (lv0 := [(0, vR h)]) (by decide +kernel) rfl rfl (Nat.le_of_ble_eq_true rfl) ?_
  intro p9 e9 s9 m9 args9 below9 meth9 c9 A9 C hr hmn
  have C : Cx p9 s9 m9 args9 meth9 c9 E A9 1 cJ5_isLatin1_aae02 wsJ5_isLatin1_aae02 RJ5 := C
  refine g_gets C C.2.2.1.2.2.2.1 w_J5_isLatin1_aae02_st18 rfl dJ5_isLatin1_aae02_0 rfl ?_
  refine g_if_eq C (tgt := 17) ⟨by decide, by decide⟩ dJ5_isLatin1_aae02_3 (by decide) rfl (fun c_1 => ?_) (fun c_1 => ?_)
  · exact absurd c_1 (by decide)
  refine g_aload_n C 0 rfl dJ5_isLatin1_aae02_6 rfl ?_
  refine g_get C 0 fd_J5_isLatin1_aae02_22 rfl rfl rfl dJ5_isLatin1_aae02_7 rfl ?_
  refine g_if_ne C (tgt := 17) ⟨by decide, by decide⟩ dJ5_isLatin1_aae02_10 (by decide) rfl (fun c_2 => ?_) (fun c_2 => ?_)
  · exact absurd c_2 (by decide)
  refine g_iconst C dJ5_isLatin1_aae02_13 rfl ?_
  refine g_goto C (pc' := 18) dJ5_isLatin1_aae02_14 (by decide) ?_
  exact g_iret C hr (by decide) (Nat.le_of_ble_eq_true rfl) (Nat.le_of_ble_eq_true rfl) dJ5_isLatin1_aae02_18 ⟨rfl, rfl⟩

abbrev rm_K_canEnc : Room := { frames := 0, cells := 0, slots := 0, locals := 0 }
set_option maxHeartbeats 1000000 in
set_option maxRecDepth 100000 in
theorem K_canEnc (l : Launch) (E : Ev) (c : Int) (hc : ch c) : Mc l yJ1_canEncode_fc78d wsJ1_canEncode_fc78d rm_K_canEnc E [vI c] [] 0 0 (fun v9 w9 => v9 = some (vI 1) ∧ w9 = []) := by
  refine Mc.intro (cc := cJ1_canEncode_fc78d) (maxL := 1) (ret := (some .boolean)) (lv0 := [(0, vI c)]) (by decide +kernel) rfl rfl (Nat.le_of_ble_eq_true rfl) ?_
  intro p9 e9 s9 m9 args9 below9 meth9 c9 A9 C hr hmn
  have C : Cx p9 s9 m9 args9 meth9 c9 E A9 1 cJ1_canEncode_fc78d wsJ1_canEncode_fc78d RJ1 := C
  refine g_iload_n C 0 rfl dJ1_canEncode_fc78d_0 rfl ?_
  refine g_sipush C (by decide) dJ1_canEncode_fc78d_1 rfl ?_
  refine g_icmp_gt C (tgt := 11) ⟨by omega, by omega⟩ ⟨by decide, by decide⟩ dJ1_canEncode_fc78d_4 (by decide) rfl (fun c_1 => ?_) (fun c_1 => ?_)
  · exfalso; omega
  refine g_iconst C dJ1_canEncode_fc78d_7 rfl ?_
  refine g_goto C (pc' := 12) dJ1_canEncode_fc78d_8 (by decide) ?_
  exact g_iret C hr (by decide) (Nat.le_of_ble_eq_true rfl) (Nat.le_of_ble_eq_true rfl) dJ1_canEncode_fc78d_12 ⟨rfl, rfl⟩

theorem w_J8_newLength_cabcc_m194 : Cond.methodLink RJ8 194 Lib.Math.max.name ∈ wsJ8_newLength_cabcc ∧ Cond.static Lib.Math.max.name ∈ wsJ8_newLength_cabcc ∧ Cond.initialized "java/lang/Math" ∈ wsJ8_newLength_cabcc ∧ Cond.code Lib.Math.max.name Lib.Math.max.code 2 (some .int) ∈ wsJ8_newLength_cabcc := ⟨by decide +kernel, by decide +kernel, by decide +kernel, by decide +kernel⟩
theorem w_J8_newLength_cabcc_k200 : Cond.constant RJ8 200 (2147483639) ∈ wsJ8_newLength_cabcc := by decide +kernel
abbrev rm_K_newLen : Room := { frames := 1, cells := 0, slots := 0, locals := 16 }
set_option maxHeartbeats 1000000 in
set_option maxRecDepth 100000 in
theorem K_newLen (l : Launch) (E : Ev) (o g f : Int) (ho : 0 ≤ o ∧ o ≤ 1000) (hg : 0 ≤ g ∧ g ≤ 1000) (hf : 1 ≤ f ∧ f ≤ 1000) : Mc l yJ8_newLength_cabcc wsJ8_newLength_cabcc rm_K_newLen E [vI o, vI g, vI f] [] 0 0 (fun v9 w9 => v9 = some (vI (o + (maxI g f))) ∧ w9 = []) := by
  refine Mc.intro (cc := cJ8_newLength_cabcc) (maxL := 4) (ret := (some .int)) (lv0 := [(0, vI o), (1, vI g), (2, vI f)]) (by decide +kernel) rfl rfl (Nat.le_of_ble_eq_true rfl) ?_
  intro p9 e9 s9 m9 args9 below9 meth9 c9 A9 C hr hmn
  have C : Cx p9 s9 m9 args9 meth9 c9 E A9 4 cJ8_newLength_cabcc wsJ8_newLength_cabcc RJ8 := C
  refine g_iload_n C 0 rfl dJ8_newLength_cabcc_0 rfl ?_
  refine g_iload_n C 1 rfl dJ8_newLength_cabcc_1 rfl ?_
  refine g_iload_n C 2 rfl dJ8_newLength_cabcc_2 rfl ?_
  refine g_mmax C ⟨by omega, by omega⟩ ⟨by omega, by omega⟩ (r := (maxI g f)) rfl w_J8_newLength_cabcc_m194 ⟨Nat.le_of_ble_eq_true rfl, Nat.le_of_ble_eq_true rfl, Nat.le_of_ble_eq_true rfl, Nat.le_of_ble_eq_true rfl⟩ dJ8_newLength_cabcc_3 rfl ?_
  refine g_iadd C rfl dJ8_newLength_cabcc_6 rfl ?_
  refine g_istore_n C (lv' := [(0, vI o), (1, vI g), (2, vI f), (3, vI (o + (maxI g f)))]) [1, 2, 3, 0] (by decide) rfl rfl dJ8_newLength_cabcc_7 rfl ?_
  have mx : 1 ≤ maxI g f ∧ maxI g f ≤ 1000 := by unfold maxI; split <;> omega
  refine g_iconst C dJ8_newLength_cabcc_8 rfl ?_
  refine g_iload_n C 3 rfl dJ8_newLength_cabcc_9 rfl ?_
  refine g_icmp_ge C (tgt := 21) ⟨by decide, by decide⟩ ⟨by omega, by omega⟩ dJ8_newLength_cabcc_10 (by decide) rfl (fun c_1 => ?_) (fun c_1 => ?_)
  · exfalso; omega
  refine g_iload_n C 3 rfl dJ8_newLength_cabcc_13 rfl ?_
  refine g_ldc C (x := 2147483639) w_J8_newLength_cabcc_k200 (by decide) dJ8_newLength_cabcc_14 rfl ?_
  refine g_icmp_gt C (tgt := 21) ⟨by omega, by omega⟩ ⟨by decide, by decide⟩ dJ8_newLength_cabcc_16 (by decide) rfl (fun c_2 => ?_) (fun c_2 => ?_)
  · exfalso; omega
  refine g_iload_n C 3 rfl dJ8_newLength_cabcc_19 rfl ?_
  exact g_iret C hr rfl (Nat.le_of_ble_eq_true rfl) (Nat.le_of_ble_eq_true rfl) dJ8_newLength_cabcc_20 ⟨rfl, rfl⟩

theorem in_J5_newCapacity_0f7a4_J4 : ∀ w ∈ u_ws RJ4 TJ4 4, w ∈ wsJ5_newCapacity_0f7a4 := by decide +kernel
theorem fd_J5_newCapacity_0f7a4_15 : fdk wsJ5_newCapacity_0f7a4 RJ5 15 "java/lang/AbstractStringBuilder" RJ4 TJ4 4 0 := ⟨in_J5_newCapacity_0f7a4_J4, by decide +kernel, by decide, rfl⟩
theorem fd_J5_newCapacity_0f7a4_22 : fdk wsJ5_newCapacity_0f7a4 RJ5 22 "java/lang/AbstractStringBuilder" RJ4 TJ4 4 1 := ⟨in_J5_newCapacity_0f7a4_J4, by decide +kernel, by decide, rfl⟩
theorem hyd_J8_newLength_cabcc : yJ8_newLength_cabcc.cls ≠ "java/lang/invoke/MethodHandle" ∧ yJ8_newLength_cabcc.cls ≠ "java/lang/invoke/VarHandle" ∧ (parseMethodDescriptor yJ8_newLength_cabcc.desc).map (fun d => d.parameters.length) = some 3 := by decide +kernel
theorem w_J5_newCapacity_0f7a4_k39 : Cond.constant RJ5 39 (2147483647) ∈ wsJ5_newCapacity_0f7a4 := by decide +kernel
abbrev rm_K_newCap_16 : Room := { frames := 2, cells := 0, slots := 0, locals := 39 }
set_option maxHeartbeats 1000000 in
set_option maxRecDepth 100000 in
theorem K_newCap_16 (l : Launch) (E : Ev) (h b : Nat) (ml n : Int) (t : Int → Int) (q : Int) (hq : 16 < q ∧ q ≤ 34) : Mc l yJ5_newCapacity_0f7a4 wsJ5_newCapacity_0f7a4 rm_K_newCap_16 E [vR h, vI q] [(h, .inr (0, [vR b, vI 0, vI ml, vI n])), (b, cB E 16 t)] 0 0 (fun v9 w9 => v9 = some (vI 34) ∧ w9 = [(h, .inr (0, [vR b, vI 0, vI ml, vI n])), (b, cB E 16 t)]) := by
  refine Mc.intro (cc := cJ5_newCapacity_0f7a4) (maxL := 6) (ret := (some .int)) (lv0 := [(0, vR h), (1, vI q)]) (by decide +kernel) rfl rfl (Nat.le_of_ble_eq_true rfl) ?_
  intro p9 e9 s9 m9 args9 below9 meth9 c9 A9 C hr hmn
  have C : Cx p9 s9 m9 args9 meth9 c9 E A9 6 cJ5_newCapacity_0f7a4 wsJ5_newCapacity_0f7a4 RJ5 := C
  refine g_aload_n C 0 rfl dJ5_newCapacity_0f7a4_0 rfl ?_
  refine g_get C 0 fd_J5_newCapacity_0f7a4_15 rfl rfl rfl dJ5_newCapacity_0f7a4_1 rfl ?_
  refine g_alen C 1 3 rfl rfl dJ5_newCapacity_0f7a4_4 rfl ?_
  refine g_istore_n C (lv' := [(0, vR h), (1, vI q), (2, vI 16)]) [1, 2, 0] (by decide) rfl rfl dJ5_newCapacity_0f7a4_5 rfl ?_
  refine g_iload_n C 1 rfl dJ5_newCapacity_0f7a4_6 rfl ?_
  refine g_aload_n C 0 rfl dJ5_newCapacity_0f7a4_7 rfl ?_
  refine g_get C 0 fd_J5_newCapacity_0f7a4_22 rfl rfl rfl dJ5_newCapacity_0f7a4_8 rfl ?_
  refine g_ishl C (z := I32 q) (shl0 _) dJ5_newCapacity_0f7a4_11 rfl ?_
  refine g_istore_n C (lv' := [(0, vR h), (1, vI q), (2, vI 16), (3, vI q)]) [1, 2, 3, 0] (by decide) rfl rfl dJ5_newCapacity_0f7a4_12 rfl ?_
  refine g_iload_n C 3 rfl dJ5_newCapacity_0f7a4_13 rfl ?_
  refine g_iload_n C 2 rfl dJ5_newCapacity_0f7a4_14 rfl ?_
  refine g_isub C rfl dJ5_newCapacity_0f7a4_15 rfl ?_
  refine g_istore C (lv' := [(0, vR h), (1, vI q), (2, vI 16), (3, vI q), (4, vI (q - 16))]) [1, 2, 3, 4, 0] (by decide) rfl rfl dJ5_newCapacity_0f7a4_16 rfl ?_
  refine g_iload_n C 2 rfl dJ5_newCapacity_0f7a4_18 rfl ?_
  refine g_iload C 4 rfl dJ5_newCapacity_0f7a4_19 rfl ?_
  refine g_iload_n C 2 rfl dJ5_newCapacity_0f7a4_21 rfl ?_
  refine g_iconst C dJ5_newCapacity_0f7a4_22 rfl ?_
  refine g_aload_n C 0 rfl dJ5_newCapacity_0f7a4_23 rfl ?_
  refine g_get C 0 fd_J5_newCapacity_0f7a4_22 rfl rfl rfl dJ5_newCapacity_0f7a4_24 rfl ?_
  refine g_ishl C (z := I32 2) (shl0 _) dJ5_newCapacity_0f7a4_27 rfl ?_
  refine g_iadd C (r := 18) (by decide) dJ5_newCapacity_0f7a4_28 rfl ?_
  refine g_callS C (As := [vI 16, vI (q - 16), vI 18]) (wc := []) (wr := [(h, .inr (0, [vR b, vI 0, vI ml, vI n])), (b, cB E 16 t)]) (st := []) gJ5_newCapacity_0f7a4_J8_newLength_cabcc rfl (K_newLen l E 16 (q - 16) 18 (by first | assumption | omega) (by first | assumption | omega) (by first | assumption | omega)) hyd_J8_newLength_cabcc rfl [] [0, 1] rfl rfl rfl rfl rfl (by decide) ⟨rfl, rfl⟩ ⟨Nat.le_of_ble_eq_true rfl, Nat.le_of_ble_eq_true rfl, Nat.le_of_ble_eq_true rfl, Nat.le_of_ble_eq_true rfl⟩ (Nat.le_of_ble_eq_true rfl) dJ5_newCapacity_0f7a4_29 (rfl : _ = 0) (rfl : _ = 0) rfl ?_
  rintro _ _ ⟨rfl, rfl⟩
  refine g_is (ws' := [(h, .inr (0, [vR b, vI 0, vI ml, vI n])), (b, cB E 16 t)]) (st' := [vI (16 + (maxI (q - 16) 18))]) rfl rfl ?_
  refine g_top (v' := vI 34) (congrArg (fun z_ : Int => vI z_) (show (34 : Int) = (16 + (maxI (q - 16) 18)) by unfold maxI; split <;> omega)) ?_
  refine g_istore C (lv' := [(0, vR h), (1, vI q), (2, vI 16), (3, vI q), (4, vI (q - 16)), (5, vI 34)]) [1, 2, 3, 4, 5, 0] (by decide) rfl rfl dJ5_newCapacity_0f7a4_32 rfl ?_
  refine g_iload C 5 rfl dJ5_newCapacity_0f7a4_34 rfl ?_
  refine g_ldc C (x := 2147483647) w_J5_newCapacity_0f7a4_k39 (by decide) dJ5_newCapacity_0f7a4_36 rfl ?_
  refine g_icmp_ne C (tgt := 51) ⟨by decide, by decide⟩ ⟨by decide, by decide⟩ dJ5_newCapacity_0f7a4_38 (by decide) rfl (fun c_1 => ?_) (fun c_1 => ?_)
  · refine g_iload C 5 rfl dJ5_newCapacity_0f7a4_51 rfl ?_
    refine g_aload_n C 0 rfl dJ5_newCapacity_0f7a4_53 rfl ?_
    refine g_get C 0 fd_J5_newCapacity_0f7a4_22 rfl rfl rfl dJ5_newCapacity_0f7a4_54 rfl ?_
    refine g_ishr C (z := I32 34) (shr0 _) dJ5_newCapacity_0f7a4_57 rfl ?_
    exact g_iret C hr rfl (Nat.le_of_ble_eq_true rfl) (Nat.le_of_ble_eq_true rfl) dJ5_newCapacity_0f7a4_58 ⟨rfl, rfl⟩
  exact absurd c_1 (by decide)

theorem w_J7_copyOf_9075b_acb : Cond.arrayClass .byte ∈ wsJ7_copyOf_9075b := by decide +kernel
theorem w_J7_copyOf_9075b_m304 : Cond.methodLink RJ7 304 Lib.Math.min.name ∈ wsJ7_copyOf_9075b ∧ Cond.static Lib.Math.min.name ∈ wsJ7_copyOf_9075b ∧ Cond.initialized "java/lang/Math" ∈ wsJ7_copyOf_9075b ∧ Cond.code Lib.Math.min.name Lib.Math.min.code 2 (some .int) ∈ wsJ7_copyOf_9075b := ⟨by decide +kernel, by decide +kernel, by decide +kernel, by decide +kernel⟩
theorem w_J7_copyOf_9075b_ac150 : Cond.methodLink RJ7 150 arraycopyName ∈ wsJ7_copyOf_9075b ∧ Cond.native arraycopyName ∈ wsJ7_copyOf_9075b ∧ Cond.static arraycopyName ∈ wsJ7_copyOf_9075b ∧ Cond.initialized "java/lang/System" ∈ wsJ7_copyOf_9075b := ⟨by decide +kernel, by decide +kernel, by decide +kernel, by decide +kernel⟩
abbrev rm_K_copyOf_16 : Room := { frames := 1, cells := 1, slots := 34, locals := 60 }
set_option maxHeartbeats 1000000 in
set_option maxRecDepth 100000 in
theorem K_copyOf_16 (l : Launch) (E : Ev) (b : Nat) (t : Int → Int) (hb : BX 16 t) : Mc l yJ7_copyOf_9075b wsJ7_copyOf_9075b rm_K_copyOf_16 E [vR b, vI 34] [(b, cB E 16 t)] 1 34 (fun v9 w9 => ∃ (q9 : Nat), v9 = some (vR q9) ∧ w9 = [(b, cB E 16 t), (q9, cB E 34 (cpyT t (fun _ => 0) 0 0 16))]) := by
  refine Mc.intro (cc := cJ7_copyOf_9075b) (maxL := 3) (ret := (some (.array .byte))) (lv0 := [(0, vR b), (1, vI 34)]) (by decide +kernel) rfl rfl (Nat.le_of_ble_eq_true rfl) ?_
  intro p9 e9 s9 m9 args9 below9 meth9 c9 A9 C hr hmn
  have C : Cx p9 s9 m9 args9 meth9 c9 E A9 3 cJ7_copyOf_9075b wsJ7_copyOf_9075b RJ7 := C
  refine g_iload_n C 1 rfl dJ7_copyOf_9075b_0 rfl ?_
  refine g_aload_n C 0 rfl dJ7_copyOf_9075b_1 rfl ?_
  refine g_alen C 0 3 rfl rfl dJ7_copyOf_9075b_2 rfl ?_
  refine g_icmp_ne C (tgt := 14) ⟨by decide, by decide⟩ ⟨by decide, by decide⟩ dJ7_copyOf_9075b_3 (by decide) rfl (fun c_1 => ?_) (fun c_1 => ?_)
  · refine g_iload_n C 1 rfl dJ7_copyOf_9075b_14 rfl ?_
    refine g_newab C (N := 34) (by decide) rfl (by decide) (rfl : _ = 1) (rfl : _ = 34) ⟨by decide, Nat.le_of_ble_eq_true rfl⟩ w_J7_copyOf_9075b_acb dJ7_copyOf_9075b_15 rfl (fun q_2 => ?_)
    refine g_is (ws' := [(b, cB E 16 t), (q_2, cB E 34 (fun _ => 0))]) (st' := [vR q_2]) rfl rfl ?_
    refine g_astore_n C (lv' := [(0, vR b), (1, vI 34), (2, vR q_2)]) [1, 2, 0] (by decide) rfl rfl dJ7_copyOf_9075b_17 rfl ?_
    refine g_aload_n C 0 rfl dJ7_copyOf_9075b_18 rfl ?_
    refine g_iconst C dJ7_copyOf_9075b_19 rfl ?_
    refine g_aload_n C 2 rfl dJ7_copyOf_9075b_20 rfl ?_
    refine g_iconst C dJ7_copyOf_9075b_21 rfl ?_
    refine g_aload_n C 0 rfl dJ7_copyOf_9075b_22 rfl ?_
    refine g_alen C 0 3 rfl rfl dJ7_copyOf_9075b_23 rfl ?_
    refine g_iload_n C 1 rfl dJ7_copyOf_9075b_24 rfl ?_
    refine g_mmin C ⟨by decide, by decide⟩ ⟨by decide, by decide⟩ (r := (minI 16 34)) rfl w_J7_copyOf_9075b_m304 ⟨Nat.le_of_ble_eq_true rfl, Nat.le_of_ble_eq_true rfl, Nat.le_of_ble_eq_true rfl, Nat.le_of_ble_eq_true rfl⟩ dJ7_copyOf_9075b_25 rfl ?_
    refine g_top (v' := vI 16) (congrArg (fun z_ : Int => vI z_) (show (16 : Int) = (minI 16 34) by rfl)) ?_
    refine g_copy C 0 1 3 rfl rfl rfl rfl (by decide) (by decide) (by decide) (by decide) (by decide) (by decide) (fun i hi => fit_N hb (show i < 16 from hi)) w_J7_copyOf_9075b_ac150 ⟨Nat.le_of_ble_eq_true rfl, Nat.le_of_ble_eq_true rfl⟩ (ws' := [(b, cB E 16 t), (q_2, cB E 34 (cpyT t (fun _ => 0) 0 0 16))]) rfl dJ7_copyOf_9075b_28 rfl ?_
    refine g_aload_n C 2 rfl dJ7_copyOf_9075b_31 rfl ?_
    exact g_aret C hr (Or.inr ⟨_, rfl⟩) (Nat.le_of_ble_eq_true rfl) (Nat.le_of_ble_eq_true rfl) dJ7_copyOf_9075b_32 ⟨q_2, rfl, rfl⟩
  exact absurd c_1 (by decide)

abbrev rm_K_newCap_34 : Room := { frames := 2, cells := 0, slots := 0, locals := 39 }
set_option maxHeartbeats 1000000 in
set_option maxRecDepth 100000 in
theorem K_newCap_34 (l : Launch) (E : Ev) (h b : Nat) (ml n : Int) (t : Int → Int) (q : Int) (hq : 34 < q ∧ q ≤ 70) : Mc l yJ5_newCapacity_0f7a4 wsJ5_newCapacity_0f7a4 rm_K_newCap_34 E [vR h, vI q] [(h, .inr (0, [vR b, vI 0, vI ml, vI n])), (b, cB E 34 t)] 0 0 (fun v9 w9 => v9 = some (vI 70) ∧ w9 = [(h, .inr (0, [vR b, vI 0, vI ml, vI n])), (b, cB E 34 t)]) := by
  refine Mc.intro (cc := cJ5_newCapacity_0f7a4) (maxL := 6) (ret := (some .int)) (lv0 := [(0, vR h), (1, vI q)]) (by decide +kernel) rfl rfl (Nat.le_of_ble_eq_true rfl) ?_
  intro p9 e9 s9 m9 args9 below9 meth9 c9 A9 C hr hmn
  have C : Cx p9 s9 m9 args9 meth9 c9 E A9 6 cJ5_newCapacity_0f7a4 wsJ5_newCapacity_0f7a4 RJ5 := C
  refine g_aload_n C 0 rfl dJ5_newCapacity_0f7a4_0 rfl ?_
  refine g_get C 0 fd_J5_newCapacity_0f7a4_15 rfl rfl rfl dJ5_newCapacity_0f7a4_1 rfl ?_
  refine g_alen C 1 3 rfl rfl dJ5_newCapacity_0f7a4_4 rfl ?_
  refine g_istore_n C (lv' := [(0, vR h), (1, vI q), (2, vI 34)]) [1, 2, 0] (by decide) rfl rfl dJ5_newCapacity_0f7a4_5 rfl ?_
  refine g_iload_n C 1 rfl dJ5_newCapacity_0f7a4_6 rfl ?_
  refine g_aload_n C 0 rfl dJ5_newCapacity_0f7a4_7 rfl ?_
  refine g_get C 0 fd_J5_newCapacity_0f7a4_22 rfl rfl rfl dJ5_newCapacity_0f7a4_8 rfl ?_
  refine g_ishl C (z := I32 q) (shl0 _) dJ5_newCapacity_0f7a4_11 rfl ?_
  refine g_istore_n C (lv' := [(0, vR h), (1, vI q), (2, vI 34), (3, vI q)]) [1, 2, 3, 0] (by decide) rfl rfl dJ5_newCapacity_0f7a4_12 rfl ?_
  refine g_iload_n C 3 rfl dJ5_newCapacity_0f7a4_13 rfl ?_
  refine g_iload_n C 2 rfl dJ5_newCapacity_0f7a4_14 rfl ?_
  refine g_isub C rfl dJ5_newCapacity_0f7a4_15 rfl ?_
  refine g_istore C (lv' := [(0, vR h), (1, vI q), (2, vI 34), (3, vI q), (4, vI (q - 34))]) [1, 2, 3, 4, 0] (by decide) rfl rfl dJ5_newCapacity_0f7a4_16 rfl ?_
  refine g_iload_n C 2 rfl dJ5_newCapacity_0f7a4_18 rfl ?_
  refine g_iload C 4 rfl dJ5_newCapacity_0f7a4_19 rfl ?_
  refine g_iload_n C 2 rfl dJ5_newCapacity_0f7a4_21 rfl ?_
  refine g_iconst C dJ5_newCapacity_0f7a4_22 rfl ?_
  refine g_aload_n C 0 rfl dJ5_newCapacity_0f7a4_23 rfl ?_
  refine g_get C 0 fd_J5_newCapacity_0f7a4_22 rfl rfl rfl dJ5_newCapacity_0f7a4_24 rfl ?_
  refine g_ishl C (z := I32 2) (shl0 _) dJ5_newCapacity_0f7a4_27 rfl ?_
  refine g_iadd C (r := 36) (by decide) dJ5_newCapacity_0f7a4_28 rfl ?_
  refine g_callS C (As := [vI 34, vI (q - 34), vI 36]) (wc := []) (wr := [(h, .inr (0, [vR b, vI 0, vI ml, vI n])), (b, cB E 34 t)]) (st := []) gJ5_newCapacity_0f7a4_J8_newLength_cabcc rfl (K_newLen l E 34 (q - 34) 36 (by first | assumption | omega) (by first | assumption | omega) (by first | assumption | omega)) hyd_J8_newLength_cabcc rfl [] [0, 1] rfl rfl rfl rfl rfl (by decide) ⟨rfl, rfl⟩ ⟨Nat.le_of_ble_eq_true rfl, Nat.le_of_ble_eq_true rfl, Nat.le_of_ble_eq_true rfl, Nat.le_of_ble_eq_true rfl⟩ (Nat.le_of_ble_eq_true rfl) dJ5_newCapacity_0f7a4_29 (rfl : _ = 0) (rfl : _ = 0) rfl ?_
  rintro _ _ ⟨rfl, rfl⟩
  refine g_is (ws' := [(h, .inr (0, [vR b, vI 0, vI ml, vI n])), (b, cB E 34 t)]) (st' := [vI (34 + (maxI (q - 34) 36))]) rfl rfl ?_
  refine g_top (v' := vI 70) (congrArg (fun z_ : Int => vI z_) (show (70 : Int) = (34 + (maxI (q - 34) 36)) by unfold maxI; split <;> omega)) ?_
  refine g_istore C (lv' := [(0, vR h), (1, vI q), (2, vI 34), (3, vI q), (4, vI (q - 34)), (5, vI 70)]) [1, 2, 3, 4, 5, 0] (by decide) rfl rfl dJ5_newCapacity_0f7a4_32 rfl ?_
  refine g_iload C 5 rfl dJ5_newCapacity_0f7a4_34 rfl ?_
  refine g_ldc C (x := 2147483647) w_J5_newCapacity_0f7a4_k39 (by decide) dJ5_newCapacity_0f7a4_36 rfl ?_
  refine g_icmp_ne C (tgt := 51) ⟨by decide, by decide⟩ ⟨by decide, by decide⟩ dJ5_newCapacity_0f7a4_38 (by decide) rfl (fun c_1 => ?_) (fun c_1 => ?_)
  · refine g_iload C 5 rfl dJ5_newCapacity_0f7a4_51 rfl ?_
    refine g_aload_n C 0 rfl dJ5_newCapacity_0f7a4_53 rfl ?_
    refine g_get C 0 fd_J5_newCapacity_0f7a4_22 rfl rfl rfl dJ5_newCapacity_0f7a4_54 rfl ?_
    refine g_ishr C (z := I32 70) (shr0 _) dJ5_newCapacity_0f7a4_57 rfl ?_
    exact g_iret C hr rfl (Nat.le_of_ble_eq_true rfl) (Nat.le_of_ble_eq_true rfl) dJ5_newCapacity_0f7a4_58 ⟨rfl, rfl⟩
  exact absurd c_1 (by decide)

abbrev rm_K_copyOf_34 : Room := { frames := 1, cells := 1, slots := 70, locals := 60 }
set_option maxHeartbeats 1000000 in
set_option maxRecDepth 100000 in
theorem K_copyOf_34 (l : Launch) (E : Ev) (b : Nat) (t : Int → Int) (hb : BX 34 t) : Mc l yJ7_copyOf_9075b wsJ7_copyOf_9075b rm_K_copyOf_34 E [vR b, vI 70] [(b, cB E 34 t)] 1 70 (fun v9 w9 => ∃ (q9 : Nat), v9 = some (vR q9) ∧ w9 = [(b, cB E 34 t), (q9, cB E 70 (cpyT t (fun _ => 0) 0 0 34))]) := by
  refine Mc.intro (cc := cJ7_copyOf_9075b) (maxL := 3) (ret := (some (.array .byte))) (lv0 := [(0, vR b), (1, vI 70)]) (by decide +kernel) rfl rfl (Nat.le_of_ble_eq_true rfl) ?_
  intro p9 e9 s9 m9 args9 below9 meth9 c9 A9 C hr hmn
  have C : Cx p9 s9 m9 args9 meth9 c9 E A9 3 cJ7_copyOf_9075b wsJ7_copyOf_9075b RJ7 := C
  refine g_iload_n C 1 rfl dJ7_copyOf_9075b_0 rfl ?_
  refine g_aload_n C 0 rfl dJ7_copyOf_9075b_1 rfl ?_
  refine g_alen C 0 3 rfl rfl dJ7_copyOf_9075b_2 rfl ?_
  refine g_icmp_ne C (tgt := 14) ⟨by decide, by decide⟩ ⟨by decide, by decide⟩ dJ7_copyOf_9075b_3 (by decide) rfl (fun c_1 => ?_) (fun c_1 => ?_)
  · refine g_iload_n C 1 rfl dJ7_copyOf_9075b_14 rfl ?_
    refine g_newab C (N := 70) (by decide) rfl (by decide) (rfl : _ = 1) (rfl : _ = 70) ⟨by decide, Nat.le_of_ble_eq_true rfl⟩ w_J7_copyOf_9075b_acb dJ7_copyOf_9075b_15 rfl (fun q_2 => ?_)
    refine g_is (ws' := [(b, cB E 34 t), (q_2, cB E 70 (fun _ => 0))]) (st' := [vR q_2]) rfl rfl ?_
    refine g_astore_n C (lv' := [(0, vR b), (1, vI 70), (2, vR q_2)]) [1, 2, 0] (by decide) rfl rfl dJ7_copyOf_9075b_17 rfl ?_
    refine g_aload_n C 0 rfl dJ7_copyOf_9075b_18 rfl ?_
    refine g_iconst C dJ7_copyOf_9075b_19 rfl ?_
    refine g_aload_n C 2 rfl dJ7_copyOf_9075b_20 rfl ?_
    refine g_iconst C dJ7_copyOf_9075b_21 rfl ?_
    refine g_aload_n C 0 rfl dJ7_copyOf_9075b_22 rfl ?_
    refine g_alen C 0 3 rfl rfl dJ7_copyOf_9075b_23 rfl ?_
    refine g_iload_n C 1 rfl dJ7_copyOf_9075b_24 rfl ?_
    refine g_mmin C ⟨by decide, by decide⟩ ⟨by decide, by decide⟩ (r := (minI 34 70)) rfl w_J7_copyOf_9075b_m304 ⟨Nat.le_of_ble_eq_true rfl, Nat.le_of_ble_eq_true rfl, Nat.le_of_ble_eq_true rfl, Nat.le_of_ble_eq_true rfl⟩ dJ7_copyOf_9075b_25 rfl ?_
    refine g_top (v' := vI 34) (congrArg (fun z_ : Int => vI z_) (show (34 : Int) = (minI 34 70) by rfl)) ?_
    refine g_copy C 0 1 3 rfl rfl rfl rfl (by decide) (by decide) (by decide) (by decide) (by decide) (by decide) (fun i hi => fit_N hb (show i < 34 from hi)) w_J7_copyOf_9075b_ac150 ⟨Nat.le_of_ble_eq_true rfl, Nat.le_of_ble_eq_true rfl⟩ (ws' := [(b, cB E 34 t), (q_2, cB E 70 (cpyT t (fun _ => 0) 0 0 34))]) rfl dJ7_copyOf_9075b_28 rfl ?_
    refine g_aload_n C 2 rfl dJ7_copyOf_9075b_31 rfl ?_
    exact g_aret C hr (Or.inr ⟨_, rfl⟩) (Nat.le_of_ble_eq_true rfl) (Nat.le_of_ble_eq_true rfl) dJ7_copyOf_9075b_32 ⟨q_2, rfl, rfl⟩
  exact absurd c_1 (by decide)

abbrev rm_K_newCap_70 : Room := { frames := 2, cells := 0, slots := 0, locals := 39 }
set_option maxHeartbeats 1000000 in
set_option maxRecDepth 100000 in
theorem K_newCap_70 (l : Launch) (E : Ev) (h b : Nat) (ml n : Int) (t : Int → Int) (q : Int) (hq : 70 < q ∧ q ≤ 142) : Mc l yJ5_newCapacity_0f7a4 wsJ5_newCapacity_0f7a4 rm_K_newCap_70 E [vR h, vI q] [(h, .inr (0, [vR b, vI 0, vI ml, vI n])), (b, cB E 70 t)] 0 0 (fun v9 w9 => v9 = some (vI 142) ∧ w9 = [(h, .inr (0, [vR b, vI 0, vI ml, vI n])), (b, cB E 70 t)]) := by
  refine Mc.intro (cc := cJ5_newCapacity_0f7a4) (maxL := 6) (ret := (some .int)) (lv0 := [(0, vR h), (1, vI q)]) (by decide +kernel) rfl rfl (Nat.le_of_ble_eq_true rfl) ?_
  intro p9 e9 s9 m9 args9 below9 meth9 c9 A9 C hr hmn
  have C : Cx p9 s9 m9 args9 meth9 c9 E A9 6 cJ5_newCapacity_0f7a4 wsJ5_newCapacity_0f7a4 RJ5 := C
  refine g_aload_n C 0 rfl dJ5_newCapacity_0f7a4_0 rfl ?_
  refine g_get C 0 fd_J5_newCapacity_0f7a4_15 rfl rfl rfl dJ5_newCapacity_0f7a4_1 rfl ?_
  refine g_alen C 1 3 rfl rfl dJ5_newCapacity_0f7a4_4 rfl ?_
  refine g_istore_n C (lv' := [(0, vR h), (1, vI q), (2, vI 70)]) [1, 2, 0] (by decide) rfl rfl dJ5_newCapacity_0f7a4_5 rfl ?_
  refine g_iload_n C 1 rfl dJ5_newCapacity_0f7a4_6 rfl ?_
  refine g_aload_n C 0 rfl dJ5_newCapacity_0f7a4_7 rfl ?_
  refine g_get C 0 fd_J5_newCapacity_0f7a4_22 rfl rfl rfl dJ5_newCapacity_0f7a4_8 rfl ?_
  refine g_ishl C (z := I32 q) (shl0 _) dJ5_newCapacity_0f7a4_11 rfl ?_
  refine g_istore_n C (lv' := [(0, vR h), (1, vI q), (2, vI 70), (3, vI q)]) [1, 2, 3, 0] (by decide) rfl rfl dJ5_newCapacity_0f7a4_12 rfl ?_
  refine g_iload_n C 3 rfl dJ5_newCapacity_0f7a4_13 rfl ?_
  refine g_iload_n C 2 rfl dJ5_newCapacity_0f7a4_14 rfl ?_
  refine g_isub C rfl dJ5_newCapacity_0f7a4_15 rfl ?_
  refine g_istore C (lv' := [(0, vR h), (1, vI q), (2, vI 70), (3, vI q), (4, vI (q - 70))]) [1, 2, 3, 4, 0] (by decide) rfl rfl dJ5_newCapacity_0f7a4_16 rfl ?_
  refine g_iload_n C 2 rfl dJ5_newCapacity_0f7a4_18 rfl ?_
  refine g_iload C 4 rfl dJ5_newCapacity_0f7a4_19 rfl ?_
  refine g_iload_n C 2 rfl dJ5_newCapacity_0f7a4_21 rfl ?_
  refine g_iconst C dJ5_newCapacity_0f7a4_22 rfl ?_
  refine g_aload_n C 0 rfl dJ5_newCapacity_0f7a4_23 rfl ?_
  refine g_get C 0 fd_J5_newCapacity_0f7a4_22 rfl rfl rfl dJ5_newCapacity_0f7a4_24 rfl ?_
  refine g_ishl C (z := I32 2) (shl0 _) dJ5_newCapacity_0f7a4_27 rfl ?_
  refine g_iadd C (r := 72) (by decide) dJ5_newCapacity_0f7a4_28 rfl ?_
  refine g_callS C (As := [vI 70, vI (q - 70), vI 72]) (wc := []) (wr := [(h, .inr (0, [vR b, vI 0, vI ml, vI n])), (b, cB E 70 t)]) (st := []) gJ5_newCapacity_0f7a4_J8_newLength_cabcc rfl (K_newLen l E 70 (q - 70) 72 (by first | assumption | omega) (by first | assumption | omega) (by first | assumption | omega)) hyd_J8_newLength_cabcc rfl [] [0, 1] rfl rfl rfl rfl rfl (by decide) ⟨rfl, rfl⟩ ⟨Nat.le_of_ble_eq_true rfl, Nat.le_of_ble_eq_true rfl, Nat.le_of_ble_eq_true rfl, Nat.le_of_ble_eq_true rfl⟩ (Nat.le_of_ble_eq_true rfl) dJ5_newCapacity_0f7a4_29 (rfl : _ = 0) (rfl : _ = 0) rfl ?_
  rintro _ _ ⟨rfl, rfl⟩
  refine g_is (ws' := [(h, .inr (0, [vR b, vI 0, vI ml, vI n])), (b, cB E 70 t)]) (st' := [vI (70 + (maxI (q - 70) 72))]) rfl rfl ?_
  refine g_top (v' := vI 142) (congrArg (fun z_ : Int => vI z_) (show (142 : Int) = (70 + (maxI (q - 70) 72)) by unfold maxI; split <;> omega)) ?_
  refine g_istore C (lv' := [(0, vR h), (1, vI q), (2, vI 70), (3, vI q), (4, vI (q - 70)), (5, vI 142)]) [1, 2, 3, 4, 5, 0] (by decide) rfl rfl dJ5_newCapacity_0f7a4_32 rfl ?_
  refine g_iload C 5 rfl dJ5_newCapacity_0f7a4_34 rfl ?_
  refine g_ldc C (x := 2147483647) w_J5_newCapacity_0f7a4_k39 (by decide) dJ5_newCapacity_0f7a4_36 rfl ?_
  refine g_icmp_ne C (tgt := 51) ⟨by decide, by decide⟩ ⟨by decide, by decide⟩ dJ5_newCapacity_0f7a4_38 (by decide) rfl (fun c_1 => ?_) (fun c_1 => ?_)
  · refine g_iload C 5 rfl dJ5_newCapacity_0f7a4_51 rfl ?_
    refine g_aload_n C 0 rfl dJ5_newCapacity_0f7a4_53 rfl ?_
    refine g_get C 0 fd_J5_newCapacity_0f7a4_22 rfl rfl rfl dJ5_newCapacity_0f7a4_54 rfl ?_
    refine g_ishr C (z := I32 142) (shr0 _) dJ5_newCapacity_0f7a4_57 rfl ?_
    exact g_iret C hr rfl (Nat.le_of_ble_eq_true rfl) (Nat.le_of_ble_eq_true rfl) dJ5_newCapacity_0f7a4_58 ⟨rfl, rfl⟩
  exact absurd c_1 (by decide)

abbrev rm_K_copyOf_70 : Room := { frames := 1, cells := 1, slots := 142, locals := 60 }
set_option maxHeartbeats 1000000 in
set_option maxRecDepth 100000 in
theorem K_copyOf_70 (l : Launch) (E : Ev) (b : Nat) (t : Int → Int) (hb : BX 70 t) : Mc l yJ7_copyOf_9075b wsJ7_copyOf_9075b rm_K_copyOf_70 E [vR b, vI 142] [(b, cB E 70 t)] 1 142 (fun v9 w9 => ∃ (q9 : Nat), v9 = some (vR q9) ∧ w9 = [(b, cB E 70 t), (q9, cB E 142 (cpyT t (fun _ => 0) 0 0 70))]) := by
  refine Mc.intro (cc := cJ7_copyOf_9075b) (maxL := 3) (ret := (some (.array .byte))) (lv0 := [(0, vR b), (1, vI 142)]) (by decide +kernel) rfl rfl (Nat.le_of_ble_eq_true rfl) ?_
  intro p9 e9 s9 m9 args9 below9 meth9 c9 A9 C hr hmn
  have C : Cx p9 s9 m9 args9 meth9 c9 E A9 3 cJ7_copyOf_9075b wsJ7_copyOf_9075b RJ7 := C
  refine g_iload_n C 1 rfl dJ7_copyOf_9075b_0 rfl ?_
  refine g_aload_n C 0 rfl dJ7_copyOf_9075b_1 rfl ?_
  refine g_alen C 0 3 rfl rfl dJ7_copyOf_9075b_2 rfl ?_
  refine g_icmp_ne C (tgt := 14) ⟨by decide, by decide⟩ ⟨by decide, by decide⟩ dJ7_copyOf_9075b_3 (by decide) rfl (fun c_1 => ?_) (fun c_1 => ?_)
  · refine g_iload_n C 1 rfl dJ7_copyOf_9075b_14 rfl ?_
    refine g_newab C (N := 142) (by decide) rfl (by decide) (rfl : _ = 1) (rfl : _ = 142) ⟨by decide, Nat.le_of_ble_eq_true rfl⟩ w_J7_copyOf_9075b_acb dJ7_copyOf_9075b_15 rfl (fun q_2 => ?_)
    refine g_is (ws' := [(b, cB E 70 t), (q_2, cB E 142 (fun _ => 0))]) (st' := [vR q_2]) rfl rfl ?_
    refine g_astore_n C (lv' := [(0, vR b), (1, vI 142), (2, vR q_2)]) [1, 2, 0] (by decide) rfl rfl dJ7_copyOf_9075b_17 rfl ?_
    refine g_aload_n C 0 rfl dJ7_copyOf_9075b_18 rfl ?_
    refine g_iconst C dJ7_copyOf_9075b_19 rfl ?_
    refine g_aload_n C 2 rfl dJ7_copyOf_9075b_20 rfl ?_
    refine g_iconst C dJ7_copyOf_9075b_21 rfl ?_
    refine g_aload_n C 0 rfl dJ7_copyOf_9075b_22 rfl ?_
    refine g_alen C 0 3 rfl rfl dJ7_copyOf_9075b_23 rfl ?_
    refine g_iload_n C 1 rfl dJ7_copyOf_9075b_24 rfl ?_
    refine g_mmin C ⟨by decide, by decide⟩ ⟨by decide, by decide⟩ (r := (minI 70 142)) rfl w_J7_copyOf_9075b_m304 ⟨Nat.le_of_ble_eq_true rfl, Nat.le_of_ble_eq_true rfl, Nat.le_of_ble_eq_true rfl, Nat.le_of_ble_eq_true rfl⟩ dJ7_copyOf_9075b_25 rfl ?_
    refine g_top (v' := vI 70) (congrArg (fun z_ : Int => vI z_) (show (70 : Int) = (minI 70 142) by rfl)) ?_
    refine g_copy C 0 1 3 rfl rfl rfl rfl (by decide) (by decide) (by decide) (by decide) (by decide) (by decide) (fun i hi => fit_N hb (show i < 70 from hi)) w_J7_copyOf_9075b_ac150 ⟨Nat.le_of_ble_eq_true rfl, Nat.le_of_ble_eq_true rfl⟩ (ws' := [(b, cB E 70 t), (q_2, cB E 142 (cpyT t (fun _ => 0) 0 0 70))]) rfl dJ7_copyOf_9075b_28 rfl ?_
    refine g_aload_n C 2 rfl dJ7_copyOf_9075b_31 rfl ?_
    exact g_aret C hr (Or.inr ⟨_, rfl⟩) (Nat.le_of_ble_eq_true rfl) (Nat.le_of_ble_eq_true rfl) dJ7_copyOf_9075b_32 ⟨q_2, rfl, rfl⟩
  exact absurd c_1 (by decide)

theorem in_J5_ensureCapacityInternal_d00df_J4 : ∀ w ∈ u_ws RJ4 TJ4 4, w ∈ wsJ5_ensureCapacityInternal_d00df := by decide +kernel
theorem fd_J5_ensureCapacityInternal_d00df_15 : fdk wsJ5_ensureCapacityInternal_d00df RJ5 15 "java/lang/AbstractStringBuilder" RJ4 TJ4 4 0 := ⟨in_J5_ensureCapacityInternal_d00df_J4, by decide +kernel, by decide, rfl⟩
theorem fd_J5_ensureCapacityInternal_d00df_22 : fdk wsJ5_ensureCapacityInternal_d00df RJ5 22 "java/lang/AbstractStringBuilder" RJ4 TJ4 4 1 := ⟨in_J5_ensureCapacityInternal_d00df_J4, by decide +kernel, by decide, rfl⟩
abbrev rm_K_ens_k : Room := { frames := 0, cells := 0, slots := 0, locals := 0 }
set_option maxHeartbeats 1000000 in
set_option maxRecDepth 100000 in
theorem K_ens_k (l : Launch) (E : Ev) (h b : Nat) (ml n : Int) (t : Int → Int) (N : Nat) (q : Int) (hq : q ≤ (N : Int)) (hq0 : 0 ≤ q) (hN : (N : Int) ≤ 1000) : Mc l yJ5_ensureCapacityInternal_d00df wsJ5_ensureCapacityInternal_d00df rm_K_ens_k E [vR h, vI q] [(h, .inr (0, [vR b, vI 0, vI ml, vI n])), (b, cB E N t)] 0 0 (fun v9 w9 => v9 = none ∧ w9 = [(h, .inr (0, [vR b, vI 0, vI ml, vI n])), (b, cB E N t)]) := by
  refine Mc.intro (cc := cJ5_ensureCapacityInternal_d00df) (maxL := 3) (ret := none) (lv0 := [(0, vR h), (1, vI q)]) (by decide +kernel) rfl rfl (Nat.le_of_ble_eq_true rfl) ?_
  intro p9 e9 s9 m9 args9 below9 meth9 c9 A9 C hr hmn
  have C : Cx p9 s9 m9 args9 meth9 c9 E A9 3 cJ5_ensureCapacityInternal_d00df wsJ5_ensureCapacityInternal_d00df RJ5 := C
  refine g_aload_n C 0 rfl dJ5_ensureCapacityInternal_d00df_0 rfl ?_
  refine g_get C 0 fd_J5_ensureCapacityInternal_d00df_15 rfl rfl rfl dJ5_ensureCapacityInternal_d00df_1 rfl ?_
  refine g_alen C 1 3 rfl rfl dJ5_ensureCapacityInternal_d00df_4 rfl ?_
  refine g_aload_n C 0 rfl dJ5_ensureCapacityInternal_d00df_5 rfl ?_
  refine g_get C 0 fd_J5_ensureCapacityInternal_d00df_22 rfl rfl rfl dJ5_ensureCapacityInternal_d00df_6 rfl ?_
  refine g_ishr C (z := I32 ((N : Int))) (shr0 _) dJ5_ensureCapacityInternal_d00df_9 rfl ?_
  refine g_istore_n C (lv' := [(0, vR h), (1, vI q), (2, vI ((N : Int)))]) [1, 2, 0] (by decide) rfl rfl dJ5_ensureCapacityInternal_d00df_10 rfl ?_
  refine g_iload_n C 1 rfl dJ5_ensureCapacityInternal_d00df_11 rfl ?_
  refine g_iload_n C 2 rfl dJ5_ensureCapacityInternal_d00df_12 rfl ?_
  refine g_isub C rfl dJ5_ensureCapacityInternal_d00df_13 rfl ?_
  refine g_if_le C (tgt := 38) ⟨by omega, by omega⟩ dJ5_ensureCapacityInternal_d00df_14 (by decide) rfl (fun c_1 => ?_) (fun c_1 => ?_)
  · exact g_vret C hr (Nat.le_of_ble_eq_true rfl) (Nat.le_of_ble_eq_true rfl) dJ5_ensureCapacityInternal_d00df_38 ⟨rfl, rfl⟩
  exfalso; omega

theorem hyd_J5_newCapacity_0f7a4 : yJ5_newCapacity_0f7a4.cls ≠ "java/lang/invoke/MethodHandle" ∧ yJ5_newCapacity_0f7a4.cls ≠ "java/lang/invoke/VarHandle" ∧ (parseMethodDescriptor yJ5_newCapacity_0f7a4.desc).map (fun d => d.parameters.length) = some 1 := by decide +kernel
theorem hyu_J5_newCapacity_0f7a4 : RJ5 ≠ "java/lang/invoke/MethodHandle" ∧ RJ5 ≠ "java/lang/invoke/VarHandle" ∧ (parseMethodDescriptor yJ5_newCapacity_0f7a4.desc).map (fun d => d.parameters.length) = some 1 := by decide +kernel
theorem hyd_J7_copyOf_9075b : yJ7_copyOf_9075b.cls ≠ "java/lang/invoke/MethodHandle" ∧ yJ7_copyOf_9075b.cls ≠ "java/lang/invoke/VarHandle" ∧ (parseMethodDescriptor yJ7_copyOf_9075b.desc).map (fun d => d.parameters.length) = some 2 := by decide +kernel
abbrev rm_K_ens_16 : Room := { frames := 3, cells := 1, slots := 34, locals := 82 }
set_option maxHeartbeats 1000000 in
set_option maxRecDepth 100000 in
theorem K_ens_16 (l : Launch) (E : Ev) (h b : Nat) (ml n : Int) (t : Int → Int) (q : Int) (hq : 16 < q ∧ q ≤ 34) (hb : BX 16 t) : Mc l yJ5_ensureCapacityInternal_d00df wsJ5_ensureCapacityInternal_d00df rm_K_ens_16 E [vR h, vI q] [(h, .inr (0, [vR b, vI 0, vI ml, vI n])), (b, cB E 16 t)] 1 34 (fun v9 w9 => ∃ (q9 : Nat), v9 = none ∧ w9 = [(h, .inr (0, [vR q9, vI 0, vI ml, vI n])), (q9, cB E 34 (cpyT t (fun _ => 0) 0 0 16))]) := by
  refine Mc.intro (cc := cJ5_ensureCapacityInternal_d00df) (maxL := 3) (ret := none) (lv0 := [(0, vR h), (1, vI q)]) (by decide +kernel) rfl rfl (Nat.le_of_ble_eq_true rfl) ?_
  intro p9 e9 s9 m9 args9 below9 meth9 c9 A9 C hr hmn
  have C : Cx p9 s9 m9 args9 meth9 c9 E A9 3 cJ5_ensureCapacityInternal_d00df wsJ5_ensureCapacityInternal_d00df RJ5 := C
  refine g_aload_n C 0 rfl dJ5_ensureCapacityInternal_d00df_0 rfl ?_
  refine g_get C 0 fd_J5_ensureCapacityInternal_d00df_15 rfl rfl rfl dJ5_ensureCapacityInternal_d00df_1 rfl ?_
  refine g_alen C 1 3 rfl rfl dJ5_ensureCapacityInternal_d00df_4 rfl ?_
  refine g_aload_n C 0 rfl dJ5_ensureCapacityInternal_d00df_5 rfl ?_
  refine g_get C 0 fd_J5_ensureCapacityInternal_d00df_22 rfl rfl rfl dJ5_ensureCapacityInternal_d00df_6 rfl ?_
  refine g_ishr C (z := I32 16) (shr0 _) dJ5_ensureCapacityInternal_d00df_9 rfl ?_
  refine g_istore_n C (lv' := [(0, vR h), (1, vI q), (2, vI 16)]) [1, 2, 0] (by decide) rfl rfl dJ5_ensureCapacityInternal_d00df_10 rfl ?_
  refine g_iload_n C 1 rfl dJ5_ensureCapacityInternal_d00df_11 rfl ?_
  refine g_iload_n C 2 rfl dJ5_ensureCapacityInternal_d00df_12 rfl ?_
  refine g_isub C rfl dJ5_ensureCapacityInternal_d00df_13 rfl ?_
  refine g_if_le C (tgt := 38) ⟨by omega, by omega⟩ dJ5_ensureCapacityInternal_d00df_14 (by decide) rfl (fun c_1 => ?_) (fun c_1 => ?_)
  · exfalso; omega
  refine g_aload_n C 0 rfl dJ5_ensureCapacityInternal_d00df_17 rfl ?_
  refine g_aload_n C 0 rfl dJ5_ensureCapacityInternal_d00df_18 rfl ?_
  refine g_get C 0 fd_J5_ensureCapacityInternal_d00df_15 rfl rfl rfl dJ5_ensureCapacityInternal_d00df_19 rfl ?_
  refine g_aload_n C 0 rfl dJ5_ensureCapacityInternal_d00df_22 rfl ?_
  refine g_iload_n C 1 rfl dJ5_ensureCapacityInternal_d00df_23 rfl ?_
  refine g_callU C (b := h) (As := [vI q]) (wc := [(h, .inr (0, [vR b, vI 0, vI ml, vI n])), (b, cB E 16 t)]) (wr := []) (st := [vR b, vR h]) (q9 := 0) (ci := 0) (x := ⟨"java/lang/AbstractStringBuilder", yJ5_newCapacity_0f7a4.name, yJ5_newCapacity_0f7a4.desc⟩) (y := yJ5_newCapacity_0f7a4) gJ5_ensureCapacityInternal_d00df_J5_newCapacity_0f7a4_u104J4 rfl rfl rfl rfl (K_newCap_16 l E h b ml n t q hq) hyu_J5_newCapacity_0f7a4 rfl [0, 1] [] rfl rfl rfl rfl rfl (by decide) ⟨rfl, rfl⟩ ⟨Nat.le_of_ble_eq_true rfl, Nat.le_of_ble_eq_true rfl, Nat.le_of_ble_eq_true rfl, Nat.le_of_ble_eq_true rfl⟩ (Nat.le_of_ble_eq_true rfl) dJ5_ensureCapacityInternal_d00df_24 (rfl : _ = 0) (rfl : _ = 0) rfl ?_
  rintro _ _ ⟨rfl, rfl⟩
  refine g_is (ws' := [(h, .inr (0, [vR b, vI 0, vI ml, vI n])), (b, cB E 16 t)]) (st' := [vI 34, vR b, vR h]) rfl rfl ?_
  refine g_aload_n C 0 rfl dJ5_ensureCapacityInternal_d00df_27 rfl ?_
  refine g_get C 0 fd_J5_ensureCapacityInternal_d00df_22 rfl rfl rfl dJ5_ensureCapacityInternal_d00df_28 rfl ?_
  refine g_ishl C (z := I32 34) (shl0 _) dJ5_ensureCapacityInternal_d00df_31 rfl ?_
  refine g_callS C (As := [vR b, vI 34]) (wc := [(b, cB E 16 t)]) (wr := [(h, .inr (0, [vR b, vI 0, vI ml, vI n]))]) (st := [vR h]) gJ5_ensureCapacityInternal_d00df_J7_copyOf_9075b rfl (K_copyOf_16 l E b t hb) hyd_J7_copyOf_9075b rfl [1] [0] rfl rfl rfl rfl rfl (by decide) ⟨rfl, rfl⟩ ⟨Nat.le_of_ble_eq_true rfl, Nat.le_of_ble_eq_true rfl, Nat.le_of_ble_eq_true rfl, Nat.le_of_ble_eq_true rfl⟩ (Nat.le_of_ble_eq_true rfl) dJ5_ensureCapacityInternal_d00df_32 (rfl : _ = 1) (rfl : _ = 34) rfl ?_
  rintro _ _ ⟨q9_2, rfl, rfl⟩
  refine g_is (ws' := [(h, .inr (0, [vR b, vI 0, vI ml, vI n])), (b, cB E 16 t), (q9_2, cB E 34 (cpyT t (fun _ => 0) 0 0 16))]) (st' := [vR q9_2, vR h]) rfl rfl ?_
  refine g_put C tyJ4 tyJ4_ok nmJ4 0 fd_J5_ensureCapacityInternal_d00df_15 rfl rfl rfl rfl rfl rfl (Nat.le_of_ble_eq_true rfl) (ws' := [(h, .inr (0, [vR q9_2, vI 0, vI ml, vI n])), (b, cB E 16 t), (q9_2, cB E 34 (cpyT t (fun _ => 0) 0 0 16))]) rfl dJ5_ensureCapacityInternal_d00df_35 rfl ?_
  refine g_sub (ws' := [(h, .inr (0, [vR q9_2, vI 0, vI ml, vI n])), (q9_2, cB E 34 (cpyT t (fun _ => 0) 0 0 16))]) [0, 2] rfl rfl rfl ?_
  exact g_vret C hr (Nat.le_of_ble_eq_true rfl) (Nat.le_of_ble_eq_true rfl) dJ5_ensureCapacityInternal_d00df_38 ⟨q9_2, rfl, rfl⟩

abbrev rm_K_ens_34 : Room := { frames := 3, cells := 1, slots := 70, locals := 82 }
set_option maxHeartbeats 1000000 in
set_option maxRecDepth 100000 in
theorem K_ens_34 (l : Launch) (E : Ev) (h b : Nat) (ml n : Int) (t : Int → Int) (q : Int) (hq : 34 < q ∧ q ≤ 70) (hb : BX 34 t) : Mc l yJ5_ensureCapacityInternal_d00df wsJ5_ensureCapacityInternal_d00df rm_K_ens_34 E [vR h, vI q] [(h, .inr (0, [vR b, vI 0, vI ml, vI n])), (b, cB E 34 t)] 1 70 (fun v9 w9 => ∃ (q9 : Nat), v9 = none ∧ w9 = [(h, .inr (0, [vR q9, vI 0, vI ml, vI n])), (q9, cB E 70 (cpyT t (fun _ => 0) 0 0 34))]) := by
  refine Mc.intro (cc := cJ5_ensureCapacityInternal_d00df) (maxL := 3) (ret := none) (lv0 := [(0, vR h), (1, vI q)]) (by decide +kernel) rfl rfl (Nat.le_of_ble_eq_true rfl) ?_
  intro p9 e9 s9 m9 args9 below9 meth9 c9 A9 C hr hmn
  have C : Cx p9 s9 m9 args9 meth9 c9 E A9 3 cJ5_ensureCapacityInternal_d00df wsJ5_ensureCapacityInternal_d00df RJ5 := C
  refine g_aload_n C 0 rfl dJ5_ensureCapacityInternal_d00df_0 rfl ?_
  refine g_get C 0 fd_J5_ensureCapacityInternal_d00df_15 rfl rfl rfl dJ5_ensureCapacityInternal_d00df_1 rfl ?_
  refine g_alen C 1 3 rfl rfl dJ5_ensureCapacityInternal_d00df_4 rfl ?_
  refine g_aload_n C 0 rfl dJ5_ensureCapacityInternal_d00df_5 rfl ?_
  refine g_get C 0 fd_J5_ensureCapacityInternal_d00df_22 rfl rfl rfl dJ5_ensureCapacityInternal_d00df_6 rfl ?_
  refine g_ishr C (z := I32 34) (shr0 _) dJ5_ensureCapacityInternal_d00df_9 rfl ?_
  refine g_istore_n C (lv' := [(0, vR h), (1, vI q), (2, vI 34)]) [1, 2, 0] (by decide) rfl rfl dJ5_ensureCapacityInternal_d00df_10 rfl ?_
  refine g_iload_n C 1 rfl dJ5_ensureCapacityInternal_d00df_11 rfl ?_
  refine g_iload_n C 2 rfl dJ5_ensureCapacityInternal_d00df_12 rfl ?_
  refine g_isub C rfl dJ5_ensureCapacityInternal_d00df_13 rfl ?_
  refine g_if_le C (tgt := 38) ⟨by omega, by omega⟩ dJ5_ensureCapacityInternal_d00df_14 (by decide) rfl (fun c_1 => ?_) (fun c_1 => ?_)
  · exfalso; omega
  refine g_aload_n C 0 rfl dJ5_ensureCapacityInternal_d00df_17 rfl ?_
  refine g_aload_n C 0 rfl dJ5_ensureCapacityInternal_d00df_18 rfl ?_
  refine g_get C 0 fd_J5_ensureCapacityInternal_d00df_15 rfl rfl rfl dJ5_ensureCapacityInternal_d00df_19 rfl ?_
  refine g_aload_n C 0 rfl dJ5_ensureCapacityInternal_d00df_22 rfl ?_
  refine g_iload_n C 1 rfl dJ5_ensureCapacityInternal_d00df_23 rfl ?_
  refine g_callU C (b := h) (As := [vI q]) (wc := [(h, .inr (0, [vR b, vI 0, vI ml, vI n])), (b, cB E 34 t)]) (wr := []) (st := [vR b, vR h]) (q9 := 0) (ci := 0) (x := ⟨"java/lang/AbstractStringBuilder", yJ5_newCapacity_0f7a4.name, yJ5_newCapacity_0f7a4.desc⟩) (y := yJ5_newCapacity_0f7a4) gJ5_ensureCapacityInternal_d00df_J5_newCapacity_0f7a4_u104J4 rfl rfl rfl rfl (K_newCap_34 l E h b ml n t q hq) hyu_J5_newCapacity_0f7a4 rfl [0, 1] [] rfl rfl rfl rfl rfl (by decide) ⟨rfl, rfl⟩ ⟨Nat.le_of_ble_eq_true rfl, Nat.le_of_ble_eq_true rfl, Nat.le_of_ble_eq_true rfl, Nat.le_of_ble_eq_true rfl⟩ (Nat.le_of_ble_eq_true rfl) dJ5_ensureCapacityInternal_d00df_24 (rfl : _ = 0) (rfl : _ = 0) rfl ?_
  rintro _ _ ⟨rfl, rfl⟩
  refine g_is (ws' := [(h, .inr (0, [vR b, vI 0, vI ml, vI n])), (b, cB E 34 t)]) (st' := [vI 70, vR b, vR h]) rfl rfl ?_
  refine g_aload_n C 0 rfl dJ5_ensureCapacityInternal_d00df_27 rfl ?_
  refine g_get C 0 fd_J5_ensureCapacityInternal_d00df_22 rfl rfl rfl dJ5_ensureCapacityInternal_d00df_28 rfl ?_
  refine g_ishl C (z := I32 70) (shl0 _) dJ5_ensureCapacityInternal_d00df_31 rfl ?_
  refine g_callS C (As := [vR b, vI 70]) (wc := [(b, cB E 34 t)]) (wr := [(h, .inr (0, [vR b, vI 0, vI ml, vI n]))]) (st := [vR h]) gJ5_ensureCapacityInternal_d00df_J7_copyOf_9075b rfl (K_copyOf_34 l E b t hb) hyd_J7_copyOf_9075b rfl [1] [0] rfl rfl rfl rfl rfl (by decide) ⟨rfl, rfl⟩ ⟨Nat.le_of_ble_eq_true rfl, Nat.le_of_ble_eq_true rfl, Nat.le_of_ble_eq_true rfl, Nat.le_of_ble_eq_true rfl⟩ (Nat.le_of_ble_eq_true rfl) dJ5_ensureCapacityInternal_d00df_32 (rfl : _ = 1) (rfl : _ = 70) rfl ?_
  rintro _ _ ⟨q9_2, rfl, rfl⟩
  refine g_is (ws' := [(h, .inr (0, [vR b, vI 0, vI ml, vI n])), (b, cB E 34 t), (q9_2, cB E 70 (cpyT t (fun _ => 0) 0 0 34))]) (st' := [vR q9_2, vR h]) rfl rfl ?_
  refine g_put C tyJ4 tyJ4_ok nmJ4 0 fd_J5_ensureCapacityInternal_d00df_15 rfl rfl rfl rfl rfl rfl (Nat.le_of_ble_eq_true rfl) (ws' := [(h, .inr (0, [vR q9_2, vI 0, vI ml, vI n])), (b, cB E 34 t), (q9_2, cB E 70 (cpyT t (fun _ => 0) 0 0 34))]) rfl dJ5_ensureCapacityInternal_d00df_35 rfl ?_
  refine g_sub (ws' := [(h, .inr (0, [vR q9_2, vI 0, vI ml, vI n])), (q9_2, cB E 70 (cpyT t (fun _ => 0) 0 0 34))]) [0, 2] rfl rfl rfl ?_
  exact g_vret C hr (Nat.le_of_ble_eq_true rfl) (Nat.le_of_ble_eq_true rfl) dJ5_ensureCapacityInternal_d00df_38 ⟨q9_2, rfl, rfl⟩

abbrev rm_K_ens_70 : Room := { frames := 3, cells := 1, slots := 142, locals := 82 }
set_option maxHeartbeats 1000000 in
set_option maxRecDepth 100000 in
theorem K_ens_70 (l : Launch) (E : Ev) (h b : Nat) (ml n : Int) (t : Int → Int) (q : Int) (hq : 70 < q ∧ q ≤ 142) (hb : BX 70 t) : Mc l yJ5_ensureCapacityInternal_d00df wsJ5_ensureCapacityInternal_d00df rm_K_ens_70 E [vR h, vI q] [(h, .inr (0, [vR b, vI 0, vI ml, vI n])), (b, cB E 70 t)] 1 142 (fun v9 w9 => ∃ (q9 : Nat), v9 = none ∧ w9 = [(h, .inr (0, [vR q9, vI 0, vI ml, vI n])), (q9, cB E 142 (cpyT t (fun _ => 0) 0 0 70))]) := by
  refine Mc.intro (cc := cJ5_ensureCapacityInternal_d00df) (maxL := 3) (ret := none) (lv0 := [(0, vR h), (1, vI q)]) (by decide +kernel) rfl rfl (Nat.le_of_ble_eq_true rfl) ?_
  intro p9 e9 s9 m9 args9 below9 meth9 c9 A9 C hr hmn
  have C : Cx p9 s9 m9 args9 meth9 c9 E A9 3 cJ5_ensureCapacityInternal_d00df wsJ5_ensureCapacityInternal_d00df RJ5 := C
  refine g_aload_n C 0 rfl dJ5_ensureCapacityInternal_d00df_0 rfl ?_
  refine g_get C 0 fd_J5_ensureCapacityInternal_d00df_15 rfl rfl rfl dJ5_ensureCapacityInternal_d00df_1 rfl ?_
  refine g_alen C 1 3 rfl rfl dJ5_ensureCapacityInternal_d00df_4 rfl ?_
  refine g_aload_n C 0 rfl dJ5_ensureCapacityInternal_d00df_5 rfl ?_
  refine g_get C 0 fd_J5_ensureCapacityInternal_d00df_22 rfl rfl rfl dJ5_ensureCapacityInternal_d00df_6 rfl ?_
  refine g_ishr C (z := I32 70) (shr0 _) dJ5_ensureCapacityInternal_d00df_9 rfl ?_
  refine g_istore_n C (lv' := [(0, vR h), (1, vI q), (2, vI 70)]) [1, 2, 0] (by decide) rfl rfl dJ5_ensureCapacityInternal_d00df_10 rfl ?_
  refine g_iload_n C 1 rfl dJ5_ensureCapacityInternal_d00df_11 rfl ?_
  refine g_iload_n C 2 rfl dJ5_ensureCapacityInternal_d00df_12 rfl ?_
  refine g_isub C rfl dJ5_ensureCapacityInternal_d00df_13 rfl ?_
  refine g_if_le C (tgt := 38) ⟨by omega, by omega⟩ dJ5_ensureCapacityInternal_d00df_14 (by decide) rfl (fun c_1 => ?_) (fun c_1 => ?_)
  · exfalso; omega
  refine g_aload_n C 0 rfl dJ5_ensureCapacityInternal_d00df_17 rfl ?_
  refine g_aload_n C 0 rfl dJ5_ensureCapacityInternal_d00df_18 rfl ?_
  refine g_get C 0 fd_J5_ensureCapacityInternal_d00df_15 rfl rfl rfl dJ5_ensureCapacityInternal_d00df_19 rfl ?_
  refine g_aload_n C 0 rfl dJ5_ensureCapacityInternal_d00df_22 rfl ?_
  refine g_iload_n C 1 rfl dJ5_ensureCapacityInternal_d00df_23 rfl ?_
  refine g_callU C (b := h) (As := [vI q]) (wc := [(h, .inr (0, [vR b, vI 0, vI ml, vI n])), (b, cB E 70 t)]) (wr := []) (st := [vR b, vR h]) (q9 := 0) (ci := 0) (x := ⟨"java/lang/AbstractStringBuilder", yJ5_newCapacity_0f7a4.name, yJ5_newCapacity_0f7a4.desc⟩) (y := yJ5_newCapacity_0f7a4) gJ5_ensureCapacityInternal_d00df_J5_newCapacity_0f7a4_u104J4 rfl rfl rfl rfl (K_newCap_70 l E h b ml n t q hq) hyu_J5_newCapacity_0f7a4 rfl [0, 1] [] rfl rfl rfl rfl rfl (by decide) ⟨rfl, rfl⟩ ⟨Nat.le_of_ble_eq_true rfl, Nat.le_of_ble_eq_true rfl, Nat.le_of_ble_eq_true rfl, Nat.le_of_ble_eq_true rfl⟩ (Nat.le_of_ble_eq_true rfl) dJ5_ensureCapacityInternal_d00df_24 (rfl : _ = 0) (rfl : _ = 0) rfl ?_
  rintro _ _ ⟨rfl, rfl⟩
  refine g_is (ws' := [(h, .inr (0, [vR b, vI 0, vI ml, vI n])), (b, cB E 70 t)]) (st' := [vI 142, vR b, vR h]) rfl rfl ?_
  refine g_aload_n C 0 rfl dJ5_ensureCapacityInternal_d00df_27 rfl ?_
  refine g_get C 0 fd_J5_ensureCapacityInternal_d00df_22 rfl rfl rfl dJ5_ensureCapacityInternal_d00df_28 rfl ?_
  refine g_ishl C (z := I32 142) (shl0 _) dJ5_ensureCapacityInternal_d00df_31 rfl ?_
  refine g_callS C (As := [vR b, vI 142]) (wc := [(b, cB E 70 t)]) (wr := [(h, .inr (0, [vR b, vI 0, vI ml, vI n]))]) (st := [vR h]) gJ5_ensureCapacityInternal_d00df_J7_copyOf_9075b rfl (K_copyOf_70 l E b t hb) hyd_J7_copyOf_9075b rfl [1] [0] rfl rfl rfl rfl rfl (by decide) ⟨rfl, rfl⟩ ⟨Nat.le_of_ble_eq_true rfl, Nat.le_of_ble_eq_true rfl, Nat.le_of_ble_eq_true rfl, Nat.le_of_ble_eq_true rfl⟩ (Nat.le_of_ble_eq_true rfl) dJ5_ensureCapacityInternal_d00df_32 (rfl : _ = 1) (rfl : _ = 142) rfl ?_
  rintro _ _ ⟨q9_2, rfl, rfl⟩
  refine g_is (ws' := [(h, .inr (0, [vR b, vI 0, vI ml, vI n])), (b, cB E 70 t), (q9_2, cB E 142 (cpyT t (fun _ => 0) 0 0 70))]) (st' := [vR q9_2, vR h]) rfl rfl ?_
  refine g_put C tyJ4 tyJ4_ok nmJ4 0 fd_J5_ensureCapacityInternal_d00df_15 rfl rfl rfl rfl rfl rfl (Nat.le_of_ble_eq_true rfl) (ws' := [(h, .inr (0, [vR q9_2, vI 0, vI ml, vI n])), (b, cB E 70 t), (q9_2, cB E 142 (cpyT t (fun _ => 0) 0 0 70))]) rfl dJ5_ensureCapacityInternal_d00df_35 rfl ?_
  refine g_sub (ws' := [(h, .inr (0, [vR q9_2, vI 0, vI ml, vI n])), (q9_2, cB E 142 (cpyT t (fun _ => 0) 0 0 70))]) [0, 2] rfl rfl rfl ?_
  exact g_vret C hr (Nat.le_of_ble_eq_true rfl) (Nat.le_of_ble_eq_true rfl) dJ5_ensureCapacityInternal_d00df_38 ⟨q9_2, rfl, rfl⟩

theorem in_J5_append_3fe6f_J4 : ∀ w ∈ u_ws RJ4 TJ4 4, w ∈ wsJ5_append_3fe6f := by decide +kernel
theorem fd_J5_append_3fe6f_79 : fdk wsJ5_append_3fe6f RJ5 79 "java/lang/AbstractStringBuilder" RJ4 TJ4 4 3 := ⟨in_J5_append_3fe6f_J4, by decide +kernel, by decide, rfl⟩
theorem hyd_J5_ensureCapacityInternal_d00df : yJ5_ensureCapacityInternal_d00df.cls ≠ "java/lang/invoke/MethodHandle" ∧ yJ5_ensureCapacityInternal_d00df.cls ≠ "java/lang/invoke/VarHandle" ∧ (parseMethodDescriptor yJ5_ensureCapacityInternal_d00df.desc).map (fun d => d.parameters.length) = some 1 := by decide +kernel
theorem hyu_J5_ensureCapacityInternal_d00df : RJ5 ≠ "java/lang/invoke/MethodHandle" ∧ RJ5 ≠ "java/lang/invoke/VarHandle" ∧ (parseMethodDescriptor yJ5_ensureCapacityInternal_d00df.desc).map (fun d => d.parameters.length) = some 1 := by decide +kernel
theorem hyd_J5_isLatin1_aae02 : yJ5_isLatin1_aae02.cls ≠ "java/lang/invoke/MethodHandle" ∧ yJ5_isLatin1_aae02.cls ≠ "java/lang/invoke/VarHandle" ∧ (parseMethodDescriptor yJ5_isLatin1_aae02.desc).map (fun d => d.parameters.length) = some 0 := by decide +kernel
theorem hyu_J5_isLatin1_aae02 : RJ5 ≠ "java/lang/invoke/MethodHandle" ∧ RJ5 ≠ "java/lang/invoke/VarHandle" ∧ (parseMethodDescriptor yJ5_isLatin1_aae02.desc).map (fun d => d.parameters.length) = some 0 := by decide +kernel
theorem hyd_J1_canEncode_fc78d : yJ1_canEncode_fc78d.cls ≠ "java/lang/invoke/MethodHandle" ∧ yJ1_canEncode_fc78d.cls ≠ "java/lang/invoke/VarHandle" ∧ (parseMethodDescriptor yJ1_canEncode_fc78d.desc).map (fun d => d.parameters.length) = some 1 := by decide +kernel
theorem fd_J5_append_3fe6f_15 : fdk wsJ5_append_3fe6f RJ5 15 "java/lang/AbstractStringBuilder" RJ4 TJ4 4 0 := ⟨in_J5_append_3fe6f_J4, by decide +kernel, by decide, rfl⟩
abbrev rm_K_app5_k : Room := { frames := 1, cells := 0, slots := 0, locals := 22 }
set_option maxHeartbeats 1000000 in
set_option maxRecDepth 100000 in
theorem K_app5_k (l : Launch) (E : Ev) (h b : Nat) (ml n : Int) (t : Int → Int) (N : Nat) (c : Int) (hq : 0 ≤ n ∧ n + 1 ≤ (N : Int)) (hN : (N : Int) ≤ 1000) (hc : ch c) : Mc l yJ5_append_3fe6f wsJ5_append_3fe6f rm_K_app5_k E [vR h, vI c] [(h, .inr (0, [vR b, vI 0, vI ml, vI n])), (b, cB E N t)] 0 0 (fun v9 w9 => v9 = some (vR h) ∧ w9 = [(h, .inr (0, [vR b, vI 0, vI ml, vI (n + 1)])), (b, cB E N (ua t n c))]) := by
  refine Mc.intro (cc := cJ5_append_3fe6f) (maxL := 2) (ret := (some (.object "java/lang/AbstractStringBuilder"))) (lv0 := [(0, vR h), (1, vI c)]) (by decide +kernel) rfl rfl (Nat.le_of_ble_eq_true rfl) ?_
  intro p9 e9 s9 m9 args9 below9 meth9 c9 A9 C hr hmn
  have C : Cx p9 s9 m9 args9 meth9 c9 E A9 2 cJ5_append_3fe6f wsJ5_append_3fe6f RJ5 := C
  refine g_aload_n C 0 rfl dJ5_append_3fe6f_0 rfl ?_
  refine g_aload_n C 0 rfl dJ5_append_3fe6f_1 rfl ?_
  refine g_get C 0 fd_J5_append_3fe6f_79 rfl rfl rfl dJ5_append_3fe6f_2 rfl ?_
  refine g_iconst C dJ5_append_3fe6f_5 rfl ?_
  refine g_iadd C rfl dJ5_append_3fe6f_6 rfl ?_
  refine g_callU C (b := h) (As := [vI (n + 1)]) (wc := [(h, .inr (0, [vR b, vI 0, vI ml, vI n])), (b, cB E N t)]) (wr := []) (st := []) (q9 := 0) (ci := 0) (x := ⟨"java/lang/AbstractStringBuilder", yJ5_ensureCapacityInternal_d00df.name, yJ5_ensureCapacityInternal_d00df.desc⟩) (y := yJ5_ensureCapacityInternal_d00df) gJ5_append_3fe6f_J5_ensureCapacityInternal_d00df_u100J4 rfl rfl rfl rfl (K_ens_k l E h b ml n t N (n + 1) (by first | assumption | omega) (by first | assumption | omega) hN) hyu_J5_ensureCapacityInternal_d00df rfl [0, 1] [] rfl rfl rfl rfl rfl (by decide) ⟨rfl, rfl⟩ ⟨Nat.le_of_ble_eq_true rfl, Nat.le_of_ble_eq_true rfl, Nat.le_of_ble_eq_true rfl, Nat.le_of_ble_eq_true rfl⟩ (Nat.le_of_ble_eq_true rfl) dJ5_append_3fe6f_7 (rfl : _ = 0) (rfl : _ = 0) rfl ?_
  rintro _ _ ⟨rfl, rfl⟩
  refine g_is (ws' := [(h, .inr (0, [vR b, vI 0, vI ml, vI n])), (b, cB E N t)]) (st' := []) rfl rfl ?_
  refine g_aload_n C 0 rfl dJ5_append_3fe6f_10 rfl ?_
  refine g_callU C (b := h) (As := []) (wc := [(h, .inr (0, [vR b, vI 0, vI ml, vI n]))]) (wr := [(b, cB E N t)]) (st := []) (q9 := 0) (ci := 0) (x := ⟨"java/lang/AbstractStringBuilder", yJ5_isLatin1_aae02.name, yJ5_isLatin1_aae02.desc⟩) (y := yJ5_isLatin1_aae02) gJ5_append_3fe6f_J5_isLatin1_aae02_u83J4 rfl rfl rfl rfl (K_sb_lat l E h b ml n ) hyu_J5_isLatin1_aae02 rfl [0] [1] rfl rfl rfl rfl rfl (by decide) ⟨rfl, rfl⟩ ⟨Nat.le_of_ble_eq_true rfl, Nat.le_of_ble_eq_true rfl, Nat.le_of_ble_eq_true rfl, Nat.le_of_ble_eq_true rfl⟩ (Nat.le_of_ble_eq_true rfl) dJ5_append_3fe6f_11 (rfl : _ = 0) (rfl : _ = 0) rfl ?_
  rintro _ _ ⟨rfl, rfl⟩
  refine g_is (ws' := [(b, cB E N t), (h, .inr (0, [vR b, vI 0, vI ml, vI n]))]) (st' := [vI 1]) rfl rfl ?_
  refine g_sub (ws' := [(h, .inr (0, [vR b, vI 0, vI ml, vI n])), (b, cB E N t)]) [1, 0] rfl rfl rfl ?_
  refine g_if_eq C (tgt := 45) ⟨by decide, by decide⟩ dJ5_append_3fe6f_14 (by decide) rfl (fun c_1 => ?_) (fun c_1 => ?_)
  · exact absurd c_1 (by decide)
  refine g_iload_n C 1 rfl dJ5_append_3fe6f_17 rfl ?_
  refine g_callS C (As := [vI c]) (wc := []) (wr := [(h, .inr (0, [vR b, vI 0, vI ml, vI n])), (b, cB E N t)]) (st := []) gJ5_append_3fe6f_J1_canEncode_fc78d rfl (K_canEnc l E c hc) hyd_J1_canEncode_fc78d rfl [] [0, 1] rfl rfl rfl rfl rfl (by decide) ⟨rfl, rfl⟩ ⟨Nat.le_of_ble_eq_true rfl, Nat.le_of_ble_eq_true rfl, Nat.le_of_ble_eq_true rfl, Nat.le_of_ble_eq_true rfl⟩ (Nat.le_of_ble_eq_true rfl) dJ5_append_3fe6f_18 (rfl : _ = 0) (rfl : _ = 0) rfl ?_
  rintro _ _ ⟨rfl, rfl⟩
  refine g_is (ws' := [(h, .inr (0, [vR b, vI 0, vI ml, vI n])), (b, cB E N t)]) (st' := [vI 1]) rfl rfl ?_
  refine g_if_eq C (tgt := 45) ⟨by decide, by decide⟩ dJ5_append_3fe6f_21 (by decide) rfl (fun c_2 => ?_) (fun c_2 => ?_)
  · exact absurd c_2 (by decide)
  refine g_aload_n C 0 rfl dJ5_append_3fe6f_24 rfl ?_
  refine g_get C 0 fd_J5_append_3fe6f_15 rfl rfl rfl dJ5_append_3fe6f_25 rfl ?_
  refine g_aload_n C 0 rfl dJ5_append_3fe6f_28 rfl ?_
  refine g_dup C rfl dJ5_append_3fe6f_29 rfl ?_
  refine g_get C 0 fd_J5_append_3fe6f_79 rfl rfl rfl dJ5_append_3fe6f_30 rfl ?_
  refine g_dupx1 C rfl rfl dJ5_append_3fe6f_33 rfl ?_
  refine g_iconst C dJ5_append_3fe6f_34 rfl ?_
  refine g_iadd C rfl dJ5_append_3fe6f_35 rfl ?_
  refine g_put C tyJ4 tyJ4_ok nmJ4 0 fd_J5_append_3fe6f_79 rfl rfl rfl rfl rfl rfl (Nat.le_of_ble_eq_true rfl) (ws' := [(h, .inr (0, [vR b, vI 0, vI ml, vI (n + 1)])), (b, cB E N t)]) rfl dJ5_append_3fe6f_36 rfl ?_
  refine g_iload_n C 1 rfl dJ5_append_3fe6f_39 rfl ?_
  refine g_i2b C (z := I32 c) (i2b_I hc) dJ5_append_3fe6f_40 rfl ?_
  refine g_bast C 1 rfl (by omega) (by omega) (by omega) (narB hc) (ws' := [(h, .inr (0, [vR b, vI 0, vI ml, vI (n + 1)])), (b, cB E N (ua t n c))]) rfl dJ5_append_3fe6f_41 rfl ?_
  refine g_goto C (pc' := 75) dJ5_append_3fe6f_42 (by decide) ?_
  refine g_aload_n C 0 rfl dJ5_append_3fe6f_75 rfl ?_
  exact g_aret C hr (Or.inl ⟨_, rfl⟩) (Nat.le_of_ble_eq_true rfl) (Nat.le_of_ble_eq_true rfl) dJ5_append_3fe6f_76 ⟨rfl, rfl⟩

abbrev rm_K_app5_16 : Room := { frames := 4, cells := 1, slots := 34, locals := 104 }
set_option maxHeartbeats 1000000 in
set_option maxRecDepth 100000 in
theorem K_app5_16 (l : Launch) (E : Ev) (h b : Nat) (ml n : Int) (t : Int → Int) (c : Int) (hq : n = 16) (hc : ch c) (hb : BX 16 t) : Mc l yJ5_append_3fe6f wsJ5_append_3fe6f rm_K_app5_16 E [vR h, vI c] [(h, .inr (0, [vR b, vI 0, vI ml, vI n])), (b, cB E 16 t)] 1 34 (fun v9 w9 => ∃ (q9 : Nat), v9 = some (vR h) ∧ w9 = [(h, .inr (0, [vR q9, vI 0, vI ml, vI (n + 1)])), (q9, cB E 34 (ua (cpyT t (fun _ => 0) 0 0 16) n c))]) := by
  refine Mc.intro (cc := cJ5_append_3fe6f) (maxL := 2) (ret := (some (.object "java/lang/AbstractStringBuilder"))) (lv0 := [(0, vR h), (1, vI c)]) (by decide +kernel) rfl rfl (Nat.le_of_ble_eq_true rfl) ?_
  intro p9 e9 s9 m9 args9 below9 meth9 c9 A9 C hr hmn
  have C : Cx p9 s9 m9 args9 meth9 c9 E A9 2 cJ5_append_3fe6f wsJ5_append_3fe6f RJ5 := C
  refine g_aload_n C 0 rfl dJ5_append_3fe6f_0 rfl ?_
  refine g_aload_n C 0 rfl dJ5_append_3fe6f_1 rfl ?_
  refine g_get C 0 fd_J5_append_3fe6f_79 rfl rfl rfl dJ5_append_3fe6f_2 rfl ?_
  refine g_iconst C dJ5_append_3fe6f_5 rfl ?_
  refine g_iadd C rfl dJ5_append_3fe6f_6 rfl ?_
  refine g_callU C (b := h) (As := [vI (n + 1)]) (wc := [(h, .inr (0, [vR b, vI 0, vI ml, vI n])), (b, cB E 16 t)]) (wr := []) (st := []) (q9 := 0) (ci := 0) (x := ⟨"java/lang/AbstractStringBuilder", yJ5_ensureCapacityInternal_d00df.name, yJ5_ensureCapacityInternal_d00df.desc⟩) (y := yJ5_ensureCapacityInternal_d00df) gJ5_append_3fe6f_J5_ensureCapacityInternal_d00df_u100J4 rfl rfl rfl rfl (K_ens_16 l E h b ml n t (n + 1) (by first | assumption | omega) hb) hyu_J5_ensureCapacityInternal_d00df rfl [0, 1] [] rfl rfl rfl rfl rfl (by decide) ⟨rfl, rfl⟩ ⟨Nat.le_of_ble_eq_true rfl, Nat.le_of_ble_eq_true rfl, Nat.le_of_ble_eq_true rfl, Nat.le_of_ble_eq_true rfl⟩ (Nat.le_of_ble_eq_true rfl) dJ5_append_3fe6f_7 (rfl : _ = 1) (rfl : _ = 34) rfl ?_
  rintro _ _ ⟨q9_1, rfl, rfl⟩
  refine g_is (ws' := [(h, .inr (0, [vR q9_1, vI 0, vI ml, vI n])), (q9_1, cB E 34 (cpyT t (fun _ => 0) 0 0 16))]) (st' := []) rfl rfl ?_
  refine g_aload_n C 0 rfl dJ5_append_3fe6f_10 rfl ?_
  refine g_callU C (b := h) (As := []) (wc := [(h, .inr (0, [vR q9_1, vI 0, vI ml, vI n]))]) (wr := [(q9_1, cB E 34 (cpyT t (fun _ => 0) 0 0 16))]) (st := []) (q9 := 0) (ci := 0) (x := ⟨"java/lang/AbstractStringBuilder", yJ5_isLatin1_aae02.name, yJ5_isLatin1_aae02.desc⟩) (y := yJ5_isLatin1_aae02) gJ5_append_3fe6f_J5_isLatin1_aae02_u83J4 rfl rfl rfl rfl (K_sb_lat l E h q9_1 ml n ) hyu_J5_isLatin1_aae02 rfl [0] [1] rfl rfl rfl rfl rfl (by decide) ⟨rfl, rfl⟩ ⟨Nat.le_of_ble_eq_true rfl, Nat.le_of_ble_eq_true rfl, Nat.le_of_ble_eq_true rfl, Nat.le_of_ble_eq_true rfl⟩ (Nat.le_of_ble_eq_true rfl) dJ5_append_3fe6f_11 (rfl : _ = 1) (rfl : _ = 34) rfl ?_
  rintro _ _ ⟨rfl, rfl⟩
  refine g_is (ws' := [(q9_1, cB E 34 (cpyT t (fun _ => 0) 0 0 16)), (h, .inr (0, [vR q9_1, vI 0, vI ml, vI n]))]) (st' := [vI 1]) rfl rfl ?_
  refine g_sub (ws' := [(h, .inr (0, [vR q9_1, vI 0, vI ml, vI n])), (q9_1, cB E 34 (cpyT t (fun _ => 0) 0 0 16))]) [1, 0] rfl rfl rfl ?_
  refine g_if_eq C (tgt := 45) ⟨by decide, by decide⟩ dJ5_append_3fe6f_14 (by decide) rfl (fun c_2 => ?_) (fun c_2 => ?_)
  · exact absurd c_2 (by decide)
  refine g_iload_n C 1 rfl dJ5_append_3fe6f_17 rfl ?_
  refine g_callS C (As := [vI c]) (wc := []) (wr := [(h, .inr (0, [vR q9_1, vI 0, vI ml, vI n])), (q9_1, cB E 34 (cpyT t (fun _ => 0) 0 0 16))]) (st := []) gJ5_append_3fe6f_J1_canEncode_fc78d rfl (K_canEnc l E c hc) hyd_J1_canEncode_fc78d rfl [] [0, 1] rfl rfl rfl rfl rfl (by decide) ⟨rfl, rfl⟩ ⟨Nat.le_of_ble_eq_true rfl, Nat.le_of_ble_eq_true rfl, Nat.le_of_ble_eq_true rfl, Nat.le_of_ble_eq_true rfl⟩ (Nat.le_of_ble_eq_true rfl) dJ5_append_3fe6f_18 (rfl : _ = 1) (rfl : _ = 34) rfl ?_
  rintro _ _ ⟨rfl, rfl⟩
  refine g_is (ws' := [(h, .inr (0, [vR q9_1, vI 0, vI ml, vI n])), (q9_1, cB E 34 (cpyT t (fun _ => 0) 0 0 16))]) (st' := [vI 1]) rfl rfl ?_
  refine g_if_eq C (tgt := 45) ⟨by decide, by decide⟩ dJ5_append_3fe6f_21 (by decide) rfl (fun c_3 => ?_) (fun c_3 => ?_)
  · exact absurd c_3 (by decide)
  refine g_aload_n C 0 rfl dJ5_append_3fe6f_24 rfl ?_
  refine g_get C 0 fd_J5_append_3fe6f_15 rfl rfl rfl dJ5_append_3fe6f_25 rfl ?_
  refine g_aload_n C 0 rfl dJ5_append_3fe6f_28 rfl ?_
  refine g_dup C rfl dJ5_append_3fe6f_29 rfl ?_
  refine g_get C 0 fd_J5_append_3fe6f_79 rfl rfl rfl dJ5_append_3fe6f_30 rfl ?_
  refine g_dupx1 C rfl rfl dJ5_append_3fe6f_33 rfl ?_
  refine g_iconst C dJ5_append_3fe6f_34 rfl ?_
  refine g_iadd C rfl dJ5_append_3fe6f_35 rfl ?_
  refine g_put C tyJ4 tyJ4_ok nmJ4 0 fd_J5_append_3fe6f_79 rfl rfl rfl rfl rfl rfl (Nat.le_of_ble_eq_true rfl) (ws' := [(h, .inr (0, [vR q9_1, vI 0, vI ml, vI (n + 1)])), (q9_1, cB E 34 (cpyT t (fun _ => 0) 0 0 16))]) rfl dJ5_append_3fe6f_36 rfl ?_
  refine g_iload_n C 1 rfl dJ5_append_3fe6f_39 rfl ?_
  refine g_i2b C (z := I32 c) (i2b_I hc) dJ5_append_3fe6f_40 rfl ?_
  refine g_bast C 1 rfl (by omega) (by omega) (by decide) (narB hc) (ws' := [(h, .inr (0, [vR q9_1, vI 0, vI ml, vI (n + 1)])), (q9_1, cB E 34 (ua (cpyT t (fun _ => 0) 0 0 16) n c))]) rfl dJ5_append_3fe6f_41 rfl ?_
  refine g_goto C (pc' := 75) dJ5_append_3fe6f_42 (by decide) ?_
  refine g_aload_n C 0 rfl dJ5_append_3fe6f_75 rfl ?_
  exact g_aret C hr (Or.inl ⟨_, rfl⟩) (Nat.le_of_ble_eq_true rfl) (Nat.le_of_ble_eq_true rfl) dJ5_append_3fe6f_76 ⟨q9_1, rfl, rfl⟩

abbrev rm_K_app5_34 : Room := { frames := 4, cells := 1, slots := 70, locals := 104 }
set_option maxHeartbeats 1000000 in
set_option maxRecDepth 100000 in
theorem K_app5_34 (l : Launch) (E : Ev) (h b : Nat) (ml n : Int) (t : Int → Int) (c : Int) (hq : n = 34) (hc : ch c) (hb : BX 34 t) : Mc l yJ5_append_3fe6f wsJ5_append_3fe6f rm_K_app5_34 E [vR h, vI c] [(h, .inr (0, [vR b, vI 0, vI ml, vI n])), (b, cB E 34 t)] 1 70 (fun v9 w9 => ∃ (q9 : Nat), v9 = some (vR h) ∧ w9 = [(h, .inr (0, [vR q9, vI 0, vI ml, vI (n + 1)])), (q9, cB E 70 (ua (cpyT t (fun _ => 0) 0 0 34) n c))]) := by
  refine Mc.intro (cc := cJ5_append_3fe6f) (maxL := 2) (ret := (some (.object "java/lang/AbstractStringBuilder"))) (lv0 := [(0, vR h), (1, vI c)]) (by decide +kernel) rfl rfl (Nat.le_of_ble_eq_true rfl) ?_
  intro p9 e9 s9 m9 args9 below9 meth9 c9 A9 C hr hmn
  have C : Cx p9 s9 m9 args9 meth9 c9 E A9 2 cJ5_append_3fe6f wsJ5_append_3fe6f RJ5 := C
  refine g_aload_n C 0 rfl dJ5_append_3fe6f_0 rfl ?_
  refine g_aload_n C 0 rfl dJ5_append_3fe6f_1 rfl ?_
  refine g_get C 0 fd_J5_append_3fe6f_79 rfl rfl rfl dJ5_append_3fe6f_2 rfl ?_
  refine g_iconst C dJ5_append_3fe6f_5 rfl ?_
  refine g_iadd C rfl dJ5_append_3fe6f_6 rfl ?_
  refine g_callU C (b := h) (As := [vI (n + 1)]) (wc := [(h, .inr (0, [vR b, vI 0, vI ml, vI n])), (b, cB E 34 t)]) (wr := []) (st := []) (q9 := 0) (ci := 0) (x := ⟨"java/lang/AbstractStringBuilder", yJ5_ensureCapacityInternal_d00df.name, yJ5_ensureCapacityInternal_d00df.desc⟩) (y := yJ5_ensureCapacityInternal_d00df) gJ5_append_3fe6f_J5_ensureCapacityInternal_d00df_u100J4 rfl rfl rfl rfl (K_ens_34 l E h b ml n t (n + 1) (by first | assumption | omega) hb) hyu_J5_ensureCapacityInternal_d00df rfl [0, 1] [] rfl rfl rfl rfl rfl (by decide) ⟨rfl, rfl⟩ ⟨Nat.le_of_ble_eq_true rfl, Nat.le_of_ble_eq_true rfl, Nat.le_of_ble_eq_true rfl, Nat.le_of_ble_eq_true rfl⟩ (Nat.le_of_ble_eq_true rfl) dJ5_append_3fe6f_7 (rfl : _ = 1) (rfl : _ = 70) rfl ?_
  rintro _ _ ⟨q9_1, rfl, rfl⟩
  refine g_is (ws' := [(h, .inr (0, [vR q9_1, vI 0, vI ml, vI n])), (q9_1, cB E 70 (cpyT t (fun _ => 0) 0 0 34))]) (st' := []) rfl rfl ?_
  refine g_aload_n C 0 rfl dJ5_append_3fe6f_10 rfl ?_
  refine g_callU C (b := h) (As := []) (wc := [(h, .inr (0, [vR q9_1, vI 0, vI ml, vI n]))]) (wr := [(q9_1, cB E 70 (cpyT t (fun _ => 0) 0 0 34))]) (st := []) (q9 := 0) (ci := 0) (x := ⟨"java/lang/AbstractStringBuilder", yJ5_isLatin1_aae02.name, yJ5_isLatin1_aae02.desc⟩) (y := yJ5_isLatin1_aae02) gJ5_append_3fe6f_J5_isLatin1_aae02_u83J4 rfl rfl rfl rfl (K_sb_lat l E h q9_1 ml n ) hyu_J5_isLatin1_aae02 rfl [0] [1] rfl rfl rfl rfl rfl (by decide) ⟨rfl, rfl⟩ ⟨Nat.le_of_ble_eq_true rfl, Nat.le_of_ble_eq_true rfl, Nat.le_of_ble_eq_true rfl, Nat.le_of_ble_eq_true rfl⟩ (Nat.le_of_ble_eq_true rfl) dJ5_append_3fe6f_11 (rfl : _ = 1) (rfl : _ = 70) rfl ?_
  rintro _ _ ⟨rfl, rfl⟩
  refine g_is (ws' := [(q9_1, cB E 70 (cpyT t (fun _ => 0) 0 0 34)), (h, .inr (0, [vR q9_1, vI 0, vI ml, vI n]))]) (st' := [vI 1]) rfl rfl ?_
  refine g_sub (ws' := [(h, .inr (0, [vR q9_1, vI 0, vI ml, vI n])), (q9_1, cB E 70 (cpyT t (fun _ => 0) 0 0 34))]) [1, 0] rfl rfl rfl ?_
  refine g_if_eq C (tgt := 45) ⟨by decide, by decide⟩ dJ5_append_3fe6f_14 (by decide) rfl (fun c_2 => ?_) (fun c_2 => ?_)
  · exact absurd c_2 (by decide)
  refine g_iload_n C 1 rfl dJ5_append_3fe6f_17 rfl ?_
  refine g_callS C (As := [vI c]) (wc := []) (wr := [(h, .inr (0, [vR q9_1, vI 0, vI ml, vI n])), (q9_1, cB E 70 (cpyT t (fun _ => 0) 0 0 34))]) (st := []) gJ5_append_3fe6f_J1_canEncode_fc78d rfl (K_canEnc l E c hc) hyd_J1_canEncode_fc78d rfl [] [0, 1] rfl rfl rfl rfl rfl (by decide) ⟨rfl, rfl⟩ ⟨Nat.le_of_ble_eq_true rfl, Nat.le_of_ble_eq_true rfl, Nat.le_of_ble_eq_true rfl, Nat.le_of_ble_eq_true rfl⟩ (Nat.le_of_ble_eq_true rfl) dJ5_append_3fe6f_18 (rfl : _ = 1) (rfl : _ = 70) rfl ?_
  rintro _ _ ⟨rfl, rfl⟩
  refine g_is (ws' := [(h, .inr (0, [vR q9_1, vI 0, vI ml, vI n])), (q9_1, cB E 70 (cpyT t (fun _ => 0) 0 0 34))]) (st' := [vI 1]) rfl rfl ?_
  refine g_if_eq C (tgt := 45) ⟨by decide, by decide⟩ dJ5_append_3fe6f_21 (by decide) rfl (fun c_3 => ?_) (fun c_3 => ?_)
  · exact absurd c_3 (by decide)
  refine g_aload_n C 0 rfl dJ5_append_3fe6f_24 rfl ?_
  refine g_get C 0 fd_J5_append_3fe6f_15 rfl rfl rfl dJ5_append_3fe6f_25 rfl ?_
  refine g_aload_n C 0 rfl dJ5_append_3fe6f_28 rfl ?_
  refine g_dup C rfl dJ5_append_3fe6f_29 rfl ?_
  refine g_get C 0 fd_J5_append_3fe6f_79 rfl rfl rfl dJ5_append_3fe6f_30 rfl ?_
  refine g_dupx1 C rfl rfl dJ5_append_3fe6f_33 rfl ?_
  refine g_iconst C dJ5_append_3fe6f_34 rfl ?_
  refine g_iadd C rfl dJ5_append_3fe6f_35 rfl ?_
  refine g_put C tyJ4 tyJ4_ok nmJ4 0 fd_J5_append_3fe6f_79 rfl rfl rfl rfl rfl rfl (Nat.le_of_ble_eq_true rfl) (ws' := [(h, .inr (0, [vR q9_1, vI 0, vI ml, vI (n + 1)])), (q9_1, cB E 70 (cpyT t (fun _ => 0) 0 0 34))]) rfl dJ5_append_3fe6f_36 rfl ?_
  refine g_iload_n C 1 rfl dJ5_append_3fe6f_39 rfl ?_
  refine g_i2b C (z := I32 c) (i2b_I hc) dJ5_append_3fe6f_40 rfl ?_
  refine g_bast C 1 rfl (by omega) (by omega) (by decide) (narB hc) (ws' := [(h, .inr (0, [vR q9_1, vI 0, vI ml, vI (n + 1)])), (q9_1, cB E 70 (ua (cpyT t (fun _ => 0) 0 0 34) n c))]) rfl dJ5_append_3fe6f_41 rfl ?_
  refine g_goto C (pc' := 75) dJ5_append_3fe6f_42 (by decide) ?_
  refine g_aload_n C 0 rfl dJ5_append_3fe6f_75 rfl ?_
  exact g_aret C hr (Or.inl ⟨_, rfl⟩) (Nat.le_of_ble_eq_true rfl) (Nat.le_of_ble_eq_true rfl) dJ5_append_3fe6f_76 ⟨q9_1, rfl, rfl⟩

abbrev rm_K_app5_70 : Room := { frames := 4, cells := 1, slots := 142, locals := 104 }
set_option maxHeartbeats 1000000 in
set_option maxRecDepth 100000 in
theorem K_app5_70 (l : Launch) (E : Ev) (h b : Nat) (ml n : Int) (t : Int → Int) (c : Int) (hq : n = 70) (hc : ch c) (hb : BX 70 t) : Mc l yJ5_append_3fe6f wsJ5_append_3fe6f rm_K_app5_70 E [vR h, vI c] [(h, .inr (0, [vR b, vI 0, vI ml, vI n])), (b, cB E 70 t)] 1 142 (fun v9 w9 => ∃ (q9 : Nat), v9 = some (vR h) ∧ w9 = [(h, .inr (0, [vR q9, vI 0, vI ml, vI (n + 1)])), (q9, cB E 142 (ua (cpyT t (fun _ => 0) 0 0 70) n c))]) := by
  refine Mc.intro (cc := cJ5_append_3fe6f) (maxL := 2) (ret := (some (.object "java/lang/AbstractStringBuilder"))) (lv0 := [(0, vR h), (1, vI c)]) (by decide +kernel) rfl rfl (Nat.le_of_ble_eq_true rfl) ?_
  intro p9 e9 s9 m9 args9 below9 meth9 c9 A9 C hr hmn
  have C : Cx p9 s9 m9 args9 meth9 c9 E A9 2 cJ5_append_3fe6f wsJ5_append_3fe6f RJ5 := C
  refine g_aload_n C 0 rfl dJ5_append_3fe6f_0 rfl ?_
  refine g_aload_n C 0 rfl dJ5_append_3fe6f_1 rfl ?_
  refine g_get C 0 fd_J5_append_3fe6f_79 rfl rfl rfl dJ5_append_3fe6f_2 rfl ?_
  refine g_iconst C dJ5_append_3fe6f_5 rfl ?_
  refine g_iadd C rfl dJ5_append_3fe6f_6 rfl ?_
  refine g_callU C (b := h) (As := [vI (n + 1)]) (wc := [(h, .inr (0, [vR b, vI 0, vI ml, vI n])), (b, cB E 70 t)]) (wr := []) (st := []) (q9 := 0) (ci := 0) (x := ⟨"java/lang/AbstractStringBuilder", yJ5_ensureCapacityInternal_d00df.name, yJ5_ensureCapacityInternal_d00df.desc⟩) (y := yJ5_ensureCapacityInternal_d00df) gJ5_append_3fe6f_J5_ensureCapacityInternal_d00df_u100J4 rfl rfl rfl rfl (K_ens_70 l E h b ml n t (n + 1) (by first | assumption | omega) hb) hyu_J5_ensureCapacityInternal_d00df rfl [0, 1] [] rfl rfl rfl rfl rfl (by decide) ⟨rfl, rfl⟩ ⟨Nat.le_of_ble_eq_true rfl, Nat.le_of_ble_eq_true rfl, Nat.le_of_ble_eq_true rfl, Nat.le_of_ble_eq_true rfl⟩ (Nat.le_of_ble_eq_true rfl) dJ5_append_3fe6f_7 (rfl : _ = 1) (rfl : _ = 142) rfl ?_
  rintro _ _ ⟨q9_1, rfl, rfl⟩
  refine g_is (ws' := [(h, .inr (0, [vR q9_1, vI 0, vI ml, vI n])), (q9_1, cB E 142 (cpyT t (fun _ => 0) 0 0 70))]) (st' := []) rfl rfl ?_
  refine g_aload_n C 0 rfl dJ5_append_3fe6f_10 rfl ?_
  refine g_callU C (b := h) (As := []) (wc := [(h, .inr (0, [vR q9_1, vI 0, vI ml, vI n]))]) (wr := [(q9_1, cB E 142 (cpyT t (fun _ => 0) 0 0 70))]) (st := []) (q9 := 0) (ci := 0) (x := ⟨"java/lang/AbstractStringBuilder", yJ5_isLatin1_aae02.name, yJ5_isLatin1_aae02.desc⟩) (y := yJ5_isLatin1_aae02) gJ5_append_3fe6f_J5_isLatin1_aae02_u83J4 rfl rfl rfl rfl (K_sb_lat l E h q9_1 ml n ) hyu_J5_isLatin1_aae02 rfl [0] [1] rfl rfl rfl rfl rfl (by decide) ⟨rfl, rfl⟩ ⟨Nat.le_of_ble_eq_true rfl, Nat.le_of_ble_eq_true rfl, Nat.le_of_ble_eq_true rfl, Nat.le_of_ble_eq_true rfl⟩ (Nat.le_of_ble_eq_true rfl) dJ5_append_3fe6f_11 (rfl : _ = 1) (rfl : _ = 142) rfl ?_
  rintro _ _ ⟨rfl, rfl⟩
  refine g_is (ws' := [(q9_1, cB E 142 (cpyT t (fun _ => 0) 0 0 70)), (h, .inr (0, [vR q9_1, vI 0, vI ml, vI n]))]) (st' := [vI 1]) rfl rfl ?_
  refine g_sub (ws' := [(h, .inr (0, [vR q9_1, vI 0, vI ml, vI n])), (q9_1, cB E 142 (cpyT t (fun _ => 0) 0 0 70))]) [1, 0] rfl rfl rfl ?_
  refine g_if_eq C (tgt := 45) ⟨by decide, by decide⟩ dJ5_append_3fe6f_14 (by decide) rfl (fun c_2 => ?_) (fun c_2 => ?_)
  · exact absurd c_2 (by decide)
  refine g_iload_n C 1 rfl dJ5_append_3fe6f_17 rfl ?_
  refine g_callS C (As := [vI c]) (wc := []) (wr := [(h, .inr (0, [vR q9_1, vI 0, vI ml, vI n])), (q9_1, cB E 142 (cpyT t (fun _ => 0) 0 0 70))]) (st := []) gJ5_append_3fe6f_J1_canEncode_fc78d rfl (K_canEnc l E c hc) hyd_J1_canEncode_fc78d rfl [] [0, 1] rfl rfl rfl rfl rfl (by decide) ⟨rfl, rfl⟩ ⟨Nat.le_of_ble_eq_true rfl, Nat.le_of_ble_eq_true rfl, Nat.le_of_ble_eq_true rfl, Nat.le_of_ble_eq_true rfl⟩ (Nat.le_of_ble_eq_true rfl) dJ5_append_3fe6f_18 (rfl : _ = 1) (rfl : _ = 142) rfl ?_
  rintro _ _ ⟨rfl, rfl⟩
  refine g_is (ws' := [(h, .inr (0, [vR q9_1, vI 0, vI ml, vI n])), (q9_1, cB E 142 (cpyT t (fun _ => 0) 0 0 70))]) (st' := [vI 1]) rfl rfl ?_
  refine g_if_eq C (tgt := 45) ⟨by decide, by decide⟩ dJ5_append_3fe6f_21 (by decide) rfl (fun c_3 => ?_) (fun c_3 => ?_)
  · exact absurd c_3 (by decide)
  refine g_aload_n C 0 rfl dJ5_append_3fe6f_24 rfl ?_
  refine g_get C 0 fd_J5_append_3fe6f_15 rfl rfl rfl dJ5_append_3fe6f_25 rfl ?_
  refine g_aload_n C 0 rfl dJ5_append_3fe6f_28 rfl ?_
  refine g_dup C rfl dJ5_append_3fe6f_29 rfl ?_
  refine g_get C 0 fd_J5_append_3fe6f_79 rfl rfl rfl dJ5_append_3fe6f_30 rfl ?_
  refine g_dupx1 C rfl rfl dJ5_append_3fe6f_33 rfl ?_
  refine g_iconst C dJ5_append_3fe6f_34 rfl ?_
  refine g_iadd C rfl dJ5_append_3fe6f_35 rfl ?_
  refine g_put C tyJ4 tyJ4_ok nmJ4 0 fd_J5_append_3fe6f_79 rfl rfl rfl rfl rfl rfl (Nat.le_of_ble_eq_true rfl) (ws' := [(h, .inr (0, [vR q9_1, vI 0, vI ml, vI (n + 1)])), (q9_1, cB E 142 (cpyT t (fun _ => 0) 0 0 70))]) rfl dJ5_append_3fe6f_36 rfl ?_
  refine g_iload_n C 1 rfl dJ5_append_3fe6f_39 rfl ?_
  refine g_i2b C (z := I32 c) (i2b_I hc) dJ5_append_3fe6f_40 rfl ?_
  refine g_bast C 1 rfl (by omega) (by omega) (by decide) (narB hc) (ws' := [(h, .inr (0, [vR q9_1, vI 0, vI ml, vI (n + 1)])), (q9_1, cB E 142 (ua (cpyT t (fun _ => 0) 0 0 70) n c))]) rfl dJ5_append_3fe6f_41 rfl ?_
  refine g_goto C (pc' := 75) dJ5_append_3fe6f_42 (by decide) ?_
  refine g_aload_n C 0 rfl dJ5_append_3fe6f_75 rfl ?_
  exact g_aret C hr (Or.inl ⟨_, rfl⟩) (Nat.le_of_ble_eq_true rfl) (Nat.le_of_ble_eq_true rfl) dJ5_append_3fe6f_76 ⟨q9_1, rfl, rfl⟩

theorem hyd_J5_append_3fe6f : yJ5_append_3fe6f.cls ≠ "java/lang/invoke/MethodHandle" ∧ yJ5_append_3fe6f.cls ≠ "java/lang/invoke/VarHandle" ∧ (parseMethodDescriptor yJ5_append_3fe6f.desc).map (fun d => d.parameters.length) = some 1 := by decide +kernel
theorem hys_J5_append_3fe6f : yJ5_append_3fe6f.name ≠ "<init>" ∧ (parseMethodDescriptor yJ5_append_3fe6f.desc).map (fun d => d.parameters.length) = some 1 := by decide +kernel
abbrev rm_K_app : Room := { frames := 5, cells := 1, slots := 142, locals := 125 }
set_option maxHeartbeats 1000000 in
set_option maxRecDepth 100000 in
theorem K_app (l : Launch) (E : Ev) (h b : Nat) (ml n : Int) (t : Int → Int) (N : Nat) (c : Int) (L : List Int) (hC : CP N) (hb : BX N t) (hT : TX t L) (hl : n = (L.length : Int)) (hnN : n ≤ (N : Int)) (hn : n ≤ 140) (hc : ch c) : Mc l yJ4_append_cf468 wsJ4_append_cf468 rm_K_app E [vR h, vI c] [(h, .inr (0, [vR b, vI 0, vI ml, vI n])), (b, cB E N t)] 1 142 (fun v9 w9 => ∃ (q9 : Nat) (M9 : Nat) (u9 : Int → Int), v9 = some (vR h) ∧ w9 = [(h, .inr (0, [vR q9, vI 0, vI ml, vI (n + 1)])), (q9, cB E M9 u9)] ∧ CP M9 ∧ BX M9 u9 ∧ TX u9 (L ++ [c]) ∧ n + 1 ≤ (M9 : Int)) := by
  refine Mc.intro (cc := cJ4_append_cf468) (maxL := 2) (ret := (some (.object "java/lang/StringBuilder"))) (lv0 := [(0, vR h), (1, vI c)]) (by decide +kernel) rfl rfl (Nat.le_of_ble_eq_true rfl) ?_
  intro p9 e9 s9 m9 args9 below9 meth9 c9 A9 C hr hmn
  have C : Cx p9 s9 m9 args9 meth9 c9 E A9 2 cJ4_append_cf468 wsJ4_append_cf468 RJ4 := C
  rcases hC with rfl | rfl | rfl | rfl
  · have hnN : n ≤ 16 := hnN
    by_cases hg : n + 1 ≤ 16
    · refine g_aload_n C 0 rfl dJ4_append_cf468_0 rfl ?_
      refine g_iload_n C 1 rfl dJ4_append_cf468_1 rfl ?_
      refine g_callSU C (b := h) (As := [vI c]) (wc := [(h, .inr (0, [vR b, vI 0, vI ml, vI n])), (b, cB E 16 t)]) (wr := []) (st := []) gJ4_append_cf468_J5_append_3fe6f_s50 (q9 := 0) (ci := 0) rfl rfl rfl (K_app5_k l E h b ml n t 16 c (by first | assumption | omega) (by first | assumption | omega) hc) hys_J5_append_3fe6f rfl [0, 1] [] rfl rfl rfl rfl rfl (by decide) ⟨rfl, rfl⟩ ⟨Nat.le_of_ble_eq_true rfl, Nat.le_of_ble_eq_true rfl, Nat.le_of_ble_eq_true rfl, Nat.le_of_ble_eq_true rfl⟩ (Nat.le_of_ble_eq_true rfl) dJ4_append_cf468_2 (rfl : _ = 0) (rfl : _ = 0) rfl ?_
      rintro _ _ ⟨rfl, rfl⟩
      refine g_is (ws' := [(h, .inr (0, [vR b, vI 0, vI ml, vI (n + 1)])), (b, cB E 16 (ua t n c))]) (st' := [vR h]) rfl rfl ?_
      refine g_pop C rfl dJ4_append_cf468_5 rfl ?_
      refine g_aload_n C 0 rfl dJ4_append_cf468_6 rfl ?_
      exact g_aret C hr (Or.inl ⟨_, rfl⟩) (Nat.le_of_ble_eq_true rfl) (Nat.le_of_ble_eq_true rfl) dJ4_append_cf468_7 ⟨b, 16, (ua t n c), rfl, rfl, (by unfold CP; omega), (by first | exact BX_u hb hc | exact BX_u (BX_g (N := 16) hb) hc), (by first | exact TX_p hT hl | exact TX_p (TX_g (N := 16) hT (by omega)) hl), (by omega)⟩
    · refine g_aload_n C 0 rfl dJ4_append_cf468_0 rfl ?_
      refine g_iload_n C 1 rfl dJ4_append_cf468_1 rfl ?_
      refine g_callSU C (b := h) (As := [vI c]) (wc := [(h, .inr (0, [vR b, vI 0, vI ml, vI n])), (b, cB E 16 t)]) (wr := []) (st := []) gJ4_append_cf468_J5_append_3fe6f_s50 (q9 := 0) (ci := 0) rfl rfl rfl (K_app5_16 l E h b ml n t c (by first | assumption | omega) hc hb) hys_J5_append_3fe6f rfl [0, 1] [] rfl rfl rfl rfl rfl (by decide) ⟨rfl, rfl⟩ ⟨Nat.le_of_ble_eq_true rfl, Nat.le_of_ble_eq_true rfl, Nat.le_of_ble_eq_true rfl, Nat.le_of_ble_eq_true rfl⟩ (Nat.le_of_ble_eq_true rfl) dJ4_append_cf468_2 (rfl : _ = 1) (rfl : _ = 34) rfl ?_
      rintro _ _ ⟨q9_1, rfl, rfl⟩
      refine g_is (ws' := [(h, .inr (0, [vR q9_1, vI 0, vI ml, vI (n + 1)])), (q9_1, cB E 34 (ua (cpyT t (fun _ => 0) 0 0 16) n c))]) (st' := [vR h]) rfl rfl ?_
      refine g_pop C rfl dJ4_append_cf468_5 rfl ?_
      refine g_aload_n C 0 rfl dJ4_append_cf468_6 rfl ?_
      exact g_aret C hr (Or.inl ⟨_, rfl⟩) (Nat.le_of_ble_eq_true rfl) (Nat.le_of_ble_eq_true rfl) dJ4_append_cf468_7 ⟨q9_1, 34, (ua (cpyT t (fun _ => 0) 0 0 16) n c), rfl, rfl, (by unfold CP; omega), (by first | exact BX_u hb hc | exact BX_u (BX_g (N := 16) hb) hc), (by first | exact TX_p hT hl | exact TX_p (TX_g (N := 16) hT (by omega)) hl), (by omega)⟩
  · have hnN : n ≤ 34 := hnN
    by_cases hg : n + 1 ≤ 34
    · refine g_aload_n C 0 rfl dJ4_append_cf468_0 rfl ?_
      refine g_iload_n C 1 rfl dJ4_append_cf468_1 rfl ?_
      refine g_callSU C (b := h) (As := [vI c]) (wc := [(h, .inr (0, [vR b, vI 0, vI ml, vI n])), (b, cB E 34 t)]) (wr := []) (st := []) gJ4_append_cf468_J5_append_3fe6f_s50 (q9 := 0) (ci := 0) rfl rfl rfl (K_app5_k l E h b ml n t 34 c (by first | assumption | omega) (by first | assumption | omega) hc) hys_J5_append_3fe6f rfl [0, 1] [] rfl rfl rfl rfl rfl (by decide) ⟨rfl, rfl⟩ ⟨Nat.le_of_ble_eq_true rfl, Nat.le_of_ble_eq_true rfl, Nat.le_of_ble_eq_true rfl, Nat.le_of_ble_eq_true rfl⟩ (Nat.le_of_ble_eq_true rfl) dJ4_append_cf468_2 (rfl : _ = 0) (rfl : _ = 0) rfl ?_
      rintro _ _ ⟨rfl, rfl⟩
      refine g_is (ws' := [(h, .inr (0, [vR b, vI 0, vI ml, vI (n + 1)])), (b, cB E 34 (ua t n c))]) (st' := [vR h]) rfl rfl ?_
      refine g_pop C rfl dJ4_append_cf468_5 rfl ?_
      refine g_aload_n C 0 rfl dJ4_append_cf468_6 rfl ?_
      exact g_aret C hr (Or.inl ⟨_, rfl⟩) (Nat.le_of_ble_eq_true rfl) (Nat.le_of_ble_eq_true rfl) dJ4_append_cf468_7 ⟨b, 34, (ua t n c), rfl, rfl, (by unfold CP; omega), (by first | exact BX_u hb hc | exact BX_u (BX_g (N := 34) hb) hc), (by first | exact TX_p hT hl | exact TX_p (TX_g (N := 34) hT (by omega)) hl), (by omega)⟩
    · refine g_aload_n C 0 rfl dJ4_append_cf468_0 rfl ?_
      refine g_iload_n C 1 rfl dJ4_append_cf468_1 rfl ?_
      refine g_callSU C (b := h) (As := [vI c]) (wc := [(h, .inr (0, [vR b, vI 0, vI ml, vI n])), (b, cB E 34 t)]) (wr := []) (st := []) gJ4_append_cf468_J5_append_3fe6f_s50 (q9 := 0) (ci := 0) rfl rfl rfl (K_app5_34 l E h b ml n t c (by first | assumption | omega) hc hb) hys_J5_append_3fe6f rfl [0, 1] [] rfl rfl rfl rfl rfl (by decide) ⟨rfl, rfl⟩ ⟨Nat.le_of_ble_eq_true rfl, Nat.le_of_ble_eq_true rfl, Nat.le_of_ble_eq_true rfl, Nat.le_of_ble_eq_true rfl⟩ (Nat.le_of_ble_eq_true rfl) dJ4_append_cf468_2 (rfl : _ = 1) (rfl : _ = 70) rfl ?_
      rintro _ _ ⟨q9_2, rfl, rfl⟩
      refine g_is (ws' := [(h, .inr (0, [vR q9_2, vI 0, vI ml, vI (n + 1)])), (q9_2, cB E 70 (ua (cpyT t (fun _ => 0) 0 0 34) n c))]) (st' := [vR h]) rfl rfl ?_
      refine g_pop C rfl dJ4_append_cf468_5 rfl ?_
      refine g_aload_n C 0 rfl dJ4_append_cf468_6 rfl ?_
      exact g_aret C hr (Or.inl ⟨_, rfl⟩) (Nat.le_of_ble_eq_true rfl) (Nat.le_of_ble_eq_true rfl) dJ4_append_cf468_7 ⟨q9_2, 70, (ua (cpyT t (fun _ => 0) 0 0 34) n c), rfl, rfl, (by unfold CP; omega), (by first | exact BX_u hb hc | exact BX_u (BX_g (N := 34) hb) hc), (by first | exact TX_p hT hl | exact TX_p (TX_g (N := 34) hT (by omega)) hl), (by omega)⟩
  · have hnN : n ≤ 70 := hnN
    by_cases hg : n + 1 ≤ 70
    · refine g_aload_n C 0 rfl dJ4_append_cf468_0 rfl ?_
      refine g_iload_n C 1 rfl dJ4_append_cf468_1 rfl ?_
      refine g_callSU C (b := h) (As := [vI c]) (wc := [(h, .inr (0, [vR b, vI 0, vI ml, vI n])), (b, cB E 70 t)]) (wr := []) (st := []) gJ4_append_cf468_J5_append_3fe6f_s50 (q9 := 0) (ci := 0) rfl rfl rfl (K_app5_k l E h b ml n t 70 c (by first | assumption | omega) (by first | assumption | omega) hc) hys_J5_append_3fe6f rfl [0, 1] [] rfl rfl rfl rfl rfl (by decide) ⟨rfl, rfl⟩ ⟨Nat.le_of_ble_eq_true rfl, Nat.le_of_ble_eq_true rfl, Nat.le_of_ble_eq_true rfl, Nat.le_of_ble_eq_true rfl⟩ (Nat.le_of_ble_eq_true rfl) dJ4_append_cf468_2 (rfl : _ = 0) (rfl : _ = 0) rfl ?_
      rintro _ _ ⟨rfl, rfl⟩
      refine g_is (ws' := [(h, .inr (0, [vR b, vI 0, vI ml, vI (n + 1)])), (b, cB E 70 (ua t n c))]) (st' := [vR h]) rfl rfl ?_
      refine g_pop C rfl dJ4_append_cf468_5 rfl ?_
      refine g_aload_n C 0 rfl dJ4_append_cf468_6 rfl ?_
      exact g_aret C hr (Or.inl ⟨_, rfl⟩) (Nat.le_of_ble_eq_true rfl) (Nat.le_of_ble_eq_true rfl) dJ4_append_cf468_7 ⟨b, 70, (ua t n c), rfl, rfl, (by unfold CP; omega), (by first | exact BX_u hb hc | exact BX_u (BX_g (N := 70) hb) hc), (by first | exact TX_p hT hl | exact TX_p (TX_g (N := 70) hT (by omega)) hl), (by omega)⟩
    · refine g_aload_n C 0 rfl dJ4_append_cf468_0 rfl ?_
      refine g_iload_n C 1 rfl dJ4_append_cf468_1 rfl ?_
      refine g_callSU C (b := h) (As := [vI c]) (wc := [(h, .inr (0, [vR b, vI 0, vI ml, vI n])), (b, cB E 70 t)]) (wr := []) (st := []) gJ4_append_cf468_J5_append_3fe6f_s50 (q9 := 0) (ci := 0) rfl rfl rfl (K_app5_70 l E h b ml n t c (by first | assumption | omega) hc hb) hys_J5_append_3fe6f rfl [0, 1] [] rfl rfl rfl rfl rfl (by decide) ⟨rfl, rfl⟩ ⟨Nat.le_of_ble_eq_true rfl, Nat.le_of_ble_eq_true rfl, Nat.le_of_ble_eq_true rfl, Nat.le_of_ble_eq_true rfl⟩ (Nat.le_of_ble_eq_true rfl) dJ4_append_cf468_2 (rfl : _ = 1) (rfl : _ = 142) rfl ?_
      rintro _ _ ⟨q9_3, rfl, rfl⟩
      refine g_is (ws' := [(h, .inr (0, [vR q9_3, vI 0, vI ml, vI (n + 1)])), (q9_3, cB E 142 (ua (cpyT t (fun _ => 0) 0 0 70) n c))]) (st' := [vR h]) rfl rfl ?_
      refine g_pop C rfl dJ4_append_cf468_5 rfl ?_
      refine g_aload_n C 0 rfl dJ4_append_cf468_6 rfl ?_
      exact g_aret C hr (Or.inl ⟨_, rfl⟩) (Nat.le_of_ble_eq_true rfl) (Nat.le_of_ble_eq_true rfl) dJ4_append_cf468_7 ⟨q9_3, 142, (ua (cpyT t (fun _ => 0) 0 0 70) n c), rfl, rfl, (by unfold CP; omega), (by first | exact BX_u hb hc | exact BX_u (BX_g (N := 70) hb) hc), (by first | exact TX_p hT hl | exact TX_p (TX_g (N := 70) hT (by omega)) hl), (by omega)⟩
  · have hnN : n ≤ 142 := hnN
    by_cases hg : n + 1 ≤ 142
    · refine g_aload_n C 0 rfl dJ4_append_cf468_0 rfl ?_
      refine g_iload_n C 1 rfl dJ4_append_cf468_1 rfl ?_
      refine g_callSU C (b := h) (As := [vI c]) (wc := [(h, .inr (0, [vR b, vI 0, vI ml, vI n])), (b, cB E 142 t)]) (wr := []) (st := []) gJ4_append_cf468_J5_append_3fe6f_s50 (q9 := 0) (ci := 0) rfl rfl rfl (K_app5_k l E h b ml n t 142 c (by first | assumption | omega) (by first | assumption | omega) hc) hys_J5_append_3fe6f rfl [0, 1] [] rfl rfl rfl rfl rfl (by decide) ⟨rfl, rfl⟩ ⟨Nat.le_of_ble_eq_true rfl, Nat.le_of_ble_eq_true rfl, Nat.le_of_ble_eq_true rfl, Nat.le_of_ble_eq_true rfl⟩ (Nat.le_of_ble_eq_true rfl) dJ4_append_cf468_2 (rfl : _ = 0) (rfl : _ = 0) rfl ?_
      rintro _ _ ⟨rfl, rfl⟩
      refine g_is (ws' := [(h, .inr (0, [vR b, vI 0, vI ml, vI (n + 1)])), (b, cB E 142 (ua t n c))]) (st' := [vR h]) rfl rfl ?_
      refine g_pop C rfl dJ4_append_cf468_5 rfl ?_
      refine g_aload_n C 0 rfl dJ4_append_cf468_6 rfl ?_
      exact g_aret C hr (Or.inl ⟨_, rfl⟩) (Nat.le_of_ble_eq_true rfl) (Nat.le_of_ble_eq_true rfl) dJ4_append_cf468_7 ⟨b, 142, (ua t n c), rfl, rfl, (by unfold CP; omega), (by first | exact BX_u hb hc | exact BX_u (BX_g (N := 142) hb) hc), (by first | exact TX_p hT hl | exact TX_p (TX_g (N := 142) hT (by omega)) hl), (by omega)⟩
    · exfalso; omega

abbrev rm_K_strSize : Room := { frames := 0, cells := 0, slots := 0, locals := 0 }
set_option maxHeartbeats 1000000 in
set_option maxRecDepth 100000 in
theorem K_strSize (l : Launch) (E : Ev) (x : Int) (hx : cb x) : Mc l yJ6_stringSize_0f7a4 wsJ6_stringSize_0f7a4 rm_K_strSize E [vI x] [] 0 0 (fun v9 w9 => v9 = some (vI (dlen x)) ∧ w9 = []) := by
  refine Mc.intro (cc := cJ6_stringSize_0f7a4) (maxL := 4) (ret := (some .int)) (lv0 := [(0, vI x)]) (by decide +kernel) rfl rfl (Nat.le_of_ble_eq_true rfl) ?_
  intro p9 e9 s9 m9 args9 below9 meth9 c9 A9 C hr hmn
  have C : Cx p9 s9 m9 args9 meth9 c9 E A9 4 cJ6_stringSize_0f7a4 wsJ6_stringSize_0f7a4 RJ6 := C
  refine g_iconst C dJ6_stringSize_0f7a4_0 rfl ?_
  refine g_istore_n C (lv' := [(0, vI x), (1, vI 1)]) [1, 0] (by decide) rfl rfl dJ6_stringSize_0f7a4_1 rfl ?_
  refine g_iload_n C 0 rfl dJ6_stringSize_0f7a4_2 rfl ?_
  refine g_if_lt C (tgt := 11) (by omega) dJ6_stringSize_0f7a4_3 (by decide) rfl (fun c_1 => ?_) (fun c_1 => ?_)
  · refine g_bipush C (by decide) dJ6_stringSize_0f7a4_11 rfl ?_
    refine g_istore_n C (lv' := [(0, vI x), (1, vI 1), (2, vI (-10))]) [1, 2, 0] (by decide) rfl rfl dJ6_stringSize_0f7a4_13 rfl ?_
    refine g_iconst C dJ6_stringSize_0f7a4_14 rfl ?_
    refine g_istore_n C (lv' := [(0, vI x), (1, vI 1), (2, vI (-10)), (3, vI 1)]) [1, 2, 3, 0] (by decide) rfl rfl dJ6_stringSize_0f7a4_15 rfl ?_
    refine g_iload_n C 3 rfl dJ6_stringSize_0f7a4_16 rfl ?_
    refine g_bipush C (by decide) dJ6_stringSize_0f7a4_17 rfl ?_
    refine g_icmp_ge C (tgt := 42) ⟨by decide, by decide⟩ ⟨by decide, by decide⟩ dJ6_stringSize_0f7a4_19 (by decide) rfl (fun c_2 => ?_) (fun c_2 => ?_)
    · exact absurd c_2 (by decide)
    refine g_iload_n C 0 rfl dJ6_stringSize_0f7a4_22 rfl ?_
    refine g_iload_n C 2 rfl dJ6_stringSize_0f7a4_23 rfl ?_
    refine g_icmp_le C (tgt := 31) (by omega) ⟨by decide, by decide⟩ dJ6_stringSize_0f7a4_24 (by decide) rfl (fun c_3 => ?_) (fun c_3 => ?_)
    · refine g_bipush C (by decide) dJ6_stringSize_0f7a4_31 rfl ?_
      refine g_iload_n C 2 rfl dJ6_stringSize_0f7a4_33 rfl ?_
      refine g_imul C (r := (-100)) (by decide) dJ6_stringSize_0f7a4_34 rfl ?_
      refine g_istore_n C (lv' := [(0, vI x), (1, vI 1), (2, vI (-100)), (3, vI 1)]) [1, 2, 0, 3] (by decide) rfl rfl dJ6_stringSize_0f7a4_35 rfl ?_
      refine g_iinc C (r := 2) (lv' := [(0, vI x), (1, vI 1), (2, vI (-100)), (3, vI 2)]) 3 [1, 2, 3, 0] rfl (by decide) (by decide) rfl rfl dJ6_stringSize_0f7a4_36 rfl ?_
      refine g_goto C (pc' := 16) dJ6_stringSize_0f7a4_39 (by decide) ?_
      refine g_iload_n C 3 rfl dJ6_stringSize_0f7a4_16 rfl ?_
      refine g_bipush C (by decide) dJ6_stringSize_0f7a4_17 rfl ?_
      refine g_icmp_ge C (tgt := 42) ⟨by decide, by decide⟩ ⟨by decide, by decide⟩ dJ6_stringSize_0f7a4_19 (by decide) rfl (fun c_4 => ?_) (fun c_4 => ?_)
      · exact absurd c_4 (by decide)
      refine g_iload_n C 0 rfl dJ6_stringSize_0f7a4_22 rfl ?_
      refine g_iload_n C 2 rfl dJ6_stringSize_0f7a4_23 rfl ?_
      refine g_icmp_le C (tgt := 31) (by omega) ⟨by decide, by decide⟩ dJ6_stringSize_0f7a4_24 (by decide) rfl (fun c_5 => ?_) (fun c_5 => ?_)
      · refine g_bipush C (by decide) dJ6_stringSize_0f7a4_31 rfl ?_
        refine g_iload_n C 2 rfl dJ6_stringSize_0f7a4_33 rfl ?_
        refine g_imul C (r := (-1000)) (by decide) dJ6_stringSize_0f7a4_34 rfl ?_
        refine g_istore_n C (lv' := [(0, vI x), (1, vI 1), (2, vI (-1000)), (3, vI 2)]) [1, 2, 0, 3] (by decide) rfl rfl dJ6_stringSize_0f7a4_35 rfl ?_
        refine g_iinc C (r := 3) (lv' := [(0, vI x), (1, vI 1), (2, vI (-1000)), (3, vI 3)]) 3 [1, 2, 3, 0] rfl (by decide) (by decide) rfl rfl dJ6_stringSize_0f7a4_36 rfl ?_
        refine g_goto C (pc' := 16) dJ6_stringSize_0f7a4_39 (by decide) ?_
        refine g_iload_n C 3 rfl dJ6_stringSize_0f7a4_16 rfl ?_
        refine g_bipush C (by decide) dJ6_stringSize_0f7a4_17 rfl ?_
        refine g_icmp_ge C (tgt := 42) ⟨by decide, by decide⟩ ⟨by decide, by decide⟩ dJ6_stringSize_0f7a4_19 (by decide) rfl (fun c_6 => ?_) (fun c_6 => ?_)
        · exact absurd c_6 (by decide)
        refine g_iload_n C 0 rfl dJ6_stringSize_0f7a4_22 rfl ?_
        refine g_iload_n C 2 rfl dJ6_stringSize_0f7a4_23 rfl ?_
        refine g_icmp_le C (tgt := 31) (by omega) ⟨by decide, by decide⟩ dJ6_stringSize_0f7a4_24 (by decide) rfl (fun c_7 => ?_) (fun c_7 => ?_)
        · refine g_bipush C (by decide) dJ6_stringSize_0f7a4_31 rfl ?_
          refine g_iload_n C 2 rfl dJ6_stringSize_0f7a4_33 rfl ?_
          refine g_imul C (r := (-10000)) (by decide) dJ6_stringSize_0f7a4_34 rfl ?_
          refine g_istore_n C (lv' := [(0, vI x), (1, vI 1), (2, vI (-10000)), (3, vI 3)]) [1, 2, 0, 3] (by decide) rfl rfl dJ6_stringSize_0f7a4_35 rfl ?_
          refine g_iinc C (r := 4) (lv' := [(0, vI x), (1, vI 1), (2, vI (-10000)), (3, vI 4)]) 3 [1, 2, 3, 0] rfl (by decide) (by decide) rfl rfl dJ6_stringSize_0f7a4_36 rfl ?_
          refine g_goto C (pc' := 16) dJ6_stringSize_0f7a4_39 (by decide) ?_
          refine g_iload_n C 3 rfl dJ6_stringSize_0f7a4_16 rfl ?_
          refine g_bipush C (by decide) dJ6_stringSize_0f7a4_17 rfl ?_
          refine g_icmp_ge C (tgt := 42) ⟨by decide, by decide⟩ ⟨by decide, by decide⟩ dJ6_stringSize_0f7a4_19 (by decide) rfl (fun c_8 => ?_) (fun c_8 => ?_)
          · exact absurd c_8 (by decide)
          refine g_iload_n C 0 rfl dJ6_stringSize_0f7a4_22 rfl ?_
          refine g_iload_n C 2 rfl dJ6_stringSize_0f7a4_23 rfl ?_
          refine g_icmp_le C (tgt := 31) (by omega) ⟨by decide, by decide⟩ dJ6_stringSize_0f7a4_24 (by decide) rfl (fun c_9 => ?_) (fun c_9 => ?_)
          · refine g_bipush C (by decide) dJ6_stringSize_0f7a4_31 rfl ?_
            refine g_iload_n C 2 rfl dJ6_stringSize_0f7a4_33 rfl ?_
            refine g_imul C (r := (-100000)) (by decide) dJ6_stringSize_0f7a4_34 rfl ?_
            refine g_istore_n C (lv' := [(0, vI x), (1, vI 1), (2, vI (-100000)), (3, vI 4)]) [1, 2, 0, 3] (by decide) rfl rfl dJ6_stringSize_0f7a4_35 rfl ?_
            refine g_iinc C (r := 5) (lv' := [(0, vI x), (1, vI 1), (2, vI (-100000)), (3, vI 5)]) 3 [1, 2, 3, 0] rfl (by decide) (by decide) rfl rfl dJ6_stringSize_0f7a4_36 rfl ?_
            refine g_goto C (pc' := 16) dJ6_stringSize_0f7a4_39 (by decide) ?_
            refine g_iload_n C 3 rfl dJ6_stringSize_0f7a4_16 rfl ?_
            refine g_bipush C (by decide) dJ6_stringSize_0f7a4_17 rfl ?_
            refine g_icmp_ge C (tgt := 42) ⟨by decide, by decide⟩ ⟨by decide, by decide⟩ dJ6_stringSize_0f7a4_19 (by decide) rfl (fun c_10 => ?_) (fun c_10 => ?_)
            · exact absurd c_10 (by decide)
            refine g_iload_n C 0 rfl dJ6_stringSize_0f7a4_22 rfl ?_
            refine g_iload_n C 2 rfl dJ6_stringSize_0f7a4_23 rfl ?_
            refine g_icmp_le C (tgt := 31) (by omega) ⟨by decide, by decide⟩ dJ6_stringSize_0f7a4_24 (by decide) rfl (fun c_11 => ?_) (fun c_11 => ?_)
            · refine g_bipush C (by decide) dJ6_stringSize_0f7a4_31 rfl ?_
              refine g_iload_n C 2 rfl dJ6_stringSize_0f7a4_33 rfl ?_
              refine g_imul C (r := (-1000000)) (by decide) dJ6_stringSize_0f7a4_34 rfl ?_
              refine g_istore_n C (lv' := [(0, vI x), (1, vI 1), (2, vI (-1000000)), (3, vI 5)]) [1, 2, 0, 3] (by decide) rfl rfl dJ6_stringSize_0f7a4_35 rfl ?_
              refine g_iinc C (r := 6) (lv' := [(0, vI x), (1, vI 1), (2, vI (-1000000)), (3, vI 6)]) 3 [1, 2, 3, 0] rfl (by decide) (by decide) rfl rfl dJ6_stringSize_0f7a4_36 rfl ?_
              refine g_goto C (pc' := 16) dJ6_stringSize_0f7a4_39 (by decide) ?_
              refine g_iload_n C 3 rfl dJ6_stringSize_0f7a4_16 rfl ?_
              refine g_bipush C (by decide) dJ6_stringSize_0f7a4_17 rfl ?_
              refine g_icmp_ge C (tgt := 42) ⟨by decide, by decide⟩ ⟨by decide, by decide⟩ dJ6_stringSize_0f7a4_19 (by decide) rfl (fun c_12 => ?_) (fun c_12 => ?_)
              · exact absurd c_12 (by decide)
              refine g_iload_n C 0 rfl dJ6_stringSize_0f7a4_22 rfl ?_
              refine g_iload_n C 2 rfl dJ6_stringSize_0f7a4_23 rfl ?_
              refine g_icmp_le C (tgt := 31) (by omega) ⟨by decide, by decide⟩ dJ6_stringSize_0f7a4_24 (by decide) rfl (fun c_13 => ?_) (fun c_13 => ?_)
              · refine g_bipush C (by decide) dJ6_stringSize_0f7a4_31 rfl ?_
                refine g_iload_n C 2 rfl dJ6_stringSize_0f7a4_33 rfl ?_
                refine g_imul C (r := (-10000000)) (by decide) dJ6_stringSize_0f7a4_34 rfl ?_
                refine g_istore_n C (lv' := [(0, vI x), (1, vI 1), (2, vI (-10000000)), (3, vI 6)]) [1, 2, 0, 3] (by decide) rfl rfl dJ6_stringSize_0f7a4_35 rfl ?_
                refine g_iinc C (r := 7) (lv' := [(0, vI x), (1, vI 1), (2, vI (-10000000)), (3, vI 7)]) 3 [1, 2, 3, 0] rfl (by decide) (by decide) rfl rfl dJ6_stringSize_0f7a4_36 rfl ?_
                refine g_goto C (pc' := 16) dJ6_stringSize_0f7a4_39 (by decide) ?_
                refine g_iload_n C 3 rfl dJ6_stringSize_0f7a4_16 rfl ?_
                refine g_bipush C (by decide) dJ6_stringSize_0f7a4_17 rfl ?_
                refine g_icmp_ge C (tgt := 42) ⟨by decide, by decide⟩ ⟨by decide, by decide⟩ dJ6_stringSize_0f7a4_19 (by decide) rfl (fun c_14 => ?_) (fun c_14 => ?_)
                · exact absurd c_14 (by decide)
                refine g_iload_n C 0 rfl dJ6_stringSize_0f7a4_22 rfl ?_
                refine g_iload_n C 2 rfl dJ6_stringSize_0f7a4_23 rfl ?_
                refine g_icmp_le C (tgt := 31) (by omega) ⟨by decide, by decide⟩ dJ6_stringSize_0f7a4_24 (by decide) rfl (fun c_15 => ?_) (fun c_15 => ?_)
                · refine g_bipush C (by decide) dJ6_stringSize_0f7a4_31 rfl ?_
                  refine g_iload_n C 2 rfl dJ6_stringSize_0f7a4_33 rfl ?_
                  refine g_imul C (r := (-100000000)) (by decide) dJ6_stringSize_0f7a4_34 rfl ?_
                  refine g_istore_n C (lv' := [(0, vI x), (1, vI 1), (2, vI (-100000000)), (3, vI 7)]) [1, 2, 0, 3] (by decide) rfl rfl dJ6_stringSize_0f7a4_35 rfl ?_
                  refine g_iinc C (r := 8) (lv' := [(0, vI x), (1, vI 1), (2, vI (-100000000)), (3, vI 8)]) 3 [1, 2, 3, 0] rfl (by decide) (by decide) rfl rfl dJ6_stringSize_0f7a4_36 rfl ?_
                  refine g_goto C (pc' := 16) dJ6_stringSize_0f7a4_39 (by decide) ?_
                  refine g_iload_n C 3 rfl dJ6_stringSize_0f7a4_16 rfl ?_
                  refine g_bipush C (by decide) dJ6_stringSize_0f7a4_17 rfl ?_
                  refine g_icmp_ge C (tgt := 42) ⟨by decide, by decide⟩ ⟨by decide, by decide⟩ dJ6_stringSize_0f7a4_19 (by decide) rfl (fun c_16 => ?_) (fun c_16 => ?_)
                  · exact absurd c_16 (by decide)
                  refine g_iload_n C 0 rfl dJ6_stringSize_0f7a4_22 rfl ?_
                  refine g_iload_n C 2 rfl dJ6_stringSize_0f7a4_23 rfl ?_
                  refine g_icmp_le C (tgt := 31) (by omega) ⟨by decide, by decide⟩ dJ6_stringSize_0f7a4_24 (by decide) rfl (fun c_17 => ?_) (fun c_17 => ?_)
                  · refine g_bipush C (by decide) dJ6_stringSize_0f7a4_31 rfl ?_
                    refine g_iload_n C 2 rfl dJ6_stringSize_0f7a4_33 rfl ?_
                    refine g_imul C (r := (-1000000000)) (by decide) dJ6_stringSize_0f7a4_34 rfl ?_
                    refine g_istore_n C (lv' := [(0, vI x), (1, vI 1), (2, vI (-1000000000)), (3, vI 8)]) [1, 2, 0, 3] (by decide) rfl rfl dJ6_stringSize_0f7a4_35 rfl ?_
                    refine g_iinc C (r := 9) (lv' := [(0, vI x), (1, vI 1), (2, vI (-1000000000)), (3, vI 9)]) 3 [1, 2, 3, 0] rfl (by decide) (by decide) rfl rfl dJ6_stringSize_0f7a4_36 rfl ?_
                    refine g_goto C (pc' := 16) dJ6_stringSize_0f7a4_39 (by decide) ?_
                    refine g_iload_n C 3 rfl dJ6_stringSize_0f7a4_16 rfl ?_
                    refine g_bipush C (by decide) dJ6_stringSize_0f7a4_17 rfl ?_
                    refine g_icmp_ge C (tgt := 42) ⟨by decide, by decide⟩ ⟨by decide, by decide⟩ dJ6_stringSize_0f7a4_19 (by decide) rfl (fun c_18 => ?_) (fun c_18 => ?_)
                    · exact absurd c_18 (by decide)
                    refine g_iload_n C 0 rfl dJ6_stringSize_0f7a4_22 rfl ?_
                    refine g_iload_n C 2 rfl dJ6_stringSize_0f7a4_23 rfl ?_
                    refine g_icmp_le C (tgt := 31) (by omega) ⟨by decide, by decide⟩ dJ6_stringSize_0f7a4_24 (by decide) rfl (fun c_19 => ?_) (fun c_19 => ?_)
                    · refine g_bipush C (by decide) dJ6_stringSize_0f7a4_31 rfl ?_
                      refine g_iload_n C 2 rfl dJ6_stringSize_0f7a4_33 rfl ?_
                      refine g_imul C (r := (-10000000000)) (by decide) dJ6_stringSize_0f7a4_34 rfl ?_
                      refine g_istore_n C (lv' := [(0, vI x), (1, vI 1), (2, vI (-10000000000)), (3, vI 9)]) [1, 2, 0, 3] (by decide) rfl rfl dJ6_stringSize_0f7a4_35 rfl ?_
                      refine g_iinc C (r := 10) (lv' := [(0, vI x), (1, vI 1), (2, vI (-10000000000)), (3, vI 10)]) 3 [1, 2, 3, 0] rfl (by decide) (by decide) rfl rfl dJ6_stringSize_0f7a4_36 rfl ?_
                      refine g_goto C (pc' := 16) dJ6_stringSize_0f7a4_39 (by decide) ?_
                      refine g_iload_n C 3 rfl dJ6_stringSize_0f7a4_16 rfl ?_
                      refine g_bipush C (by decide) dJ6_stringSize_0f7a4_17 rfl ?_
                      refine g_icmp_ge C (tgt := 42) ⟨by decide, by decide⟩ ⟨by decide, by decide⟩ dJ6_stringSize_0f7a4_19 (by decide) rfl (fun c_20 => ?_) (fun c_20 => ?_)
                      · refine g_bipush C (by decide) dJ6_stringSize_0f7a4_42 rfl ?_
                        refine g_iload_n C 1 rfl dJ6_stringSize_0f7a4_44 rfl ?_
                        refine g_iadd C (r := 11) (by decide) dJ6_stringSize_0f7a4_45 rfl ?_
                        refine g_top (v' := vI (dlen x)) (congrArg (fun z_ : Int => vI z_) (show (dlen x) = 11 by unfold dlen; (repeat' split) <;> omega)) ?_
                        exact g_iret C hr rfl (Nat.le_of_ble_eq_true rfl) (Nat.le_of_ble_eq_true rfl) dJ6_stringSize_0f7a4_46 ⟨rfl, rfl⟩
                      exact absurd c_20 (by decide)
                    refine g_iload_n C 3 rfl dJ6_stringSize_0f7a4_27 rfl ?_
                    refine g_iload_n C 1 rfl dJ6_stringSize_0f7a4_28 rfl ?_
                    refine g_iadd C (r := 10) (by decide) dJ6_stringSize_0f7a4_29 rfl ?_
                    refine g_top (v' := vI (dlen x)) (congrArg (fun z_ : Int => vI z_) (show (dlen x) = 10 by unfold dlen; (repeat' split) <;> omega)) ?_
                    exact g_iret C hr rfl (Nat.le_of_ble_eq_true rfl) (Nat.le_of_ble_eq_true rfl) dJ6_stringSize_0f7a4_30 ⟨rfl, rfl⟩
                  refine g_iload_n C 3 rfl dJ6_stringSize_0f7a4_27 rfl ?_
                  refine g_iload_n C 1 rfl dJ6_stringSize_0f7a4_28 rfl ?_
                  refine g_iadd C (r := 9) (by decide) dJ6_stringSize_0f7a4_29 rfl ?_
                  refine g_top (v' := vI (dlen x)) (congrArg (fun z_ : Int => vI z_) (show (dlen x) = 9 by unfold dlen; (repeat' split) <;> omega)) ?_
                  exact g_iret C hr rfl (Nat.le_of_ble_eq_true rfl) (Nat.le_of_ble_eq_true rfl) dJ6_stringSize_0f7a4_30 ⟨rfl, rfl⟩
                refine g_iload_n C 3 rfl dJ6_stringSize_0f7a4_27 rfl ?_
                refine g_iload_n C 1 rfl dJ6_stringSize_0f7a4_28 rfl ?_
                refine g_iadd C (r := 8) (by decide) dJ6_stringSize_0f7a4_29 rfl ?_
                refine g_top (v' := vI (dlen x)) (congrArg (fun z_ : Int => vI z_) (show (dlen x) = 8 by unfold dlen; (repeat' split) <;> omega)) ?_
                exact g_iret C hr rfl (Nat.le_of_ble_eq_true rfl) (Nat.le_of_ble_eq_true rfl) dJ6_stringSize_0f7a4_30 ⟨rfl, rfl⟩
              refine g_iload_n C 3 rfl dJ6_stringSize_0f7a4_27 rfl ?_
              refine g_iload_n C 1 rfl dJ6_stringSize_0f7a4_28 rfl ?_
              refine g_iadd C (r := 7) (by decide) dJ6_stringSize_0f7a4_29 rfl ?_
              refine g_top (v' := vI (dlen x)) (congrArg (fun z_ : Int => vI z_) (show (dlen x) = 7 by unfold dlen; (repeat' split) <;> omega)) ?_
              exact g_iret C hr rfl (Nat.le_of_ble_eq_true rfl) (Nat.le_of_ble_eq_true rfl) dJ6_stringSize_0f7a4_30 ⟨rfl, rfl⟩
            refine g_iload_n C 3 rfl dJ6_stringSize_0f7a4_27 rfl ?_
            refine g_iload_n C 1 rfl dJ6_stringSize_0f7a4_28 rfl ?_
            refine g_iadd C (r := 6) (by decide) dJ6_stringSize_0f7a4_29 rfl ?_
            refine g_top (v' := vI (dlen x)) (congrArg (fun z_ : Int => vI z_) (show (dlen x) = 6 by unfold dlen; (repeat' split) <;> omega)) ?_
            exact g_iret C hr rfl (Nat.le_of_ble_eq_true rfl) (Nat.le_of_ble_eq_true rfl) dJ6_stringSize_0f7a4_30 ⟨rfl, rfl⟩
          refine g_iload_n C 3 rfl dJ6_stringSize_0f7a4_27 rfl ?_
          refine g_iload_n C 1 rfl dJ6_stringSize_0f7a4_28 rfl ?_
          refine g_iadd C (r := 5) (by decide) dJ6_stringSize_0f7a4_29 rfl ?_
          refine g_top (v' := vI (dlen x)) (congrArg (fun z_ : Int => vI z_) (show (dlen x) = 5 by unfold dlen; (repeat' split) <;> omega)) ?_
          exact g_iret C hr rfl (Nat.le_of_ble_eq_true rfl) (Nat.le_of_ble_eq_true rfl) dJ6_stringSize_0f7a4_30 ⟨rfl, rfl⟩
        refine g_iload_n C 3 rfl dJ6_stringSize_0f7a4_27 rfl ?_
        refine g_iload_n C 1 rfl dJ6_stringSize_0f7a4_28 rfl ?_
        refine g_iadd C (r := 4) (by decide) dJ6_stringSize_0f7a4_29 rfl ?_
        refine g_top (v' := vI (dlen x)) (congrArg (fun z_ : Int => vI z_) (show (dlen x) = 4 by unfold dlen; (repeat' split) <;> omega)) ?_
        exact g_iret C hr rfl (Nat.le_of_ble_eq_true rfl) (Nat.le_of_ble_eq_true rfl) dJ6_stringSize_0f7a4_30 ⟨rfl, rfl⟩
      refine g_iload_n C 3 rfl dJ6_stringSize_0f7a4_27 rfl ?_
      refine g_iload_n C 1 rfl dJ6_stringSize_0f7a4_28 rfl ?_
      refine g_iadd C (r := 3) (by decide) dJ6_stringSize_0f7a4_29 rfl ?_
      refine g_top (v' := vI (dlen x)) (congrArg (fun z_ : Int => vI z_) (show (dlen x) = 3 by unfold dlen; (repeat' split) <;> omega)) ?_
      exact g_iret C hr rfl (Nat.le_of_ble_eq_true rfl) (Nat.le_of_ble_eq_true rfl) dJ6_stringSize_0f7a4_30 ⟨rfl, rfl⟩
    refine g_iload_n C 3 rfl dJ6_stringSize_0f7a4_27 rfl ?_
    refine g_iload_n C 1 rfl dJ6_stringSize_0f7a4_28 rfl ?_
    refine g_iadd C (r := 2) (by decide) dJ6_stringSize_0f7a4_29 rfl ?_
    refine g_top (v' := vI (dlen x)) (congrArg (fun z_ : Int => vI z_) (show (dlen x) = 2 by unfold dlen; (repeat' split) <;> omega)) ?_
    exact g_iret C hr rfl (Nat.le_of_ble_eq_true rfl) (Nat.le_of_ble_eq_true rfl) dJ6_stringSize_0f7a4_30 ⟨rfl, rfl⟩
  refine g_iconst C dJ6_stringSize_0f7a4_6 rfl ?_
  refine g_istore_n C (lv' := [(0, vI x), (1, vI 0)]) [1, 0] (by decide) rfl rfl dJ6_stringSize_0f7a4_7 rfl ?_
  refine g_iload_n C 0 rfl dJ6_stringSize_0f7a4_8 rfl ?_
  refine g_ineg C rfl dJ6_stringSize_0f7a4_9 rfl ?_
  refine g_istore_n C (lv' := [(0, vI (-x)), (1, vI 0)]) [0, 1] (by decide) rfl rfl dJ6_stringSize_0f7a4_10 rfl ?_
  refine g_bipush C (by decide) dJ6_stringSize_0f7a4_11 rfl ?_
  refine g_istore_n C (lv' := [(0, vI (-x)), (1, vI 0), (2, vI (-10))]) [1, 2, 0] (by decide) rfl rfl dJ6_stringSize_0f7a4_13 rfl ?_
  refine g_iconst C dJ6_stringSize_0f7a4_14 rfl ?_
  refine g_istore_n C (lv' := [(0, vI (-x)), (1, vI 0), (2, vI (-10)), (3, vI 1)]) [1, 2, 3, 0] (by decide) rfl rfl dJ6_stringSize_0f7a4_15 rfl ?_
  refine g_iload_n C 3 rfl dJ6_stringSize_0f7a4_16 rfl ?_
  refine g_bipush C (by decide) dJ6_stringSize_0f7a4_17 rfl ?_
  refine g_icmp_ge C (tgt := 42) ⟨by decide, by decide⟩ ⟨by decide, by decide⟩ dJ6_stringSize_0f7a4_19 (by decide) rfl (fun c_21 => ?_) (fun c_21 => ?_)
  · exact absurd c_21 (by decide)
  refine g_iload_n C 0 rfl dJ6_stringSize_0f7a4_22 rfl ?_
  refine g_iload_n C 2 rfl dJ6_stringSize_0f7a4_23 rfl ?_
  refine g_icmp_le C (tgt := 31) ⟨by omega, by omega⟩ ⟨by decide, by decide⟩ dJ6_stringSize_0f7a4_24 (by decide) rfl (fun c_22 => ?_) (fun c_22 => ?_)
  · refine g_bipush C (by decide) dJ6_stringSize_0f7a4_31 rfl ?_
    refine g_iload_n C 2 rfl dJ6_stringSize_0f7a4_33 rfl ?_
    refine g_imul C (r := (-100)) (by decide) dJ6_stringSize_0f7a4_34 rfl ?_
    refine g_istore_n C (lv' := [(0, vI (-x)), (1, vI 0), (2, vI (-100)), (3, vI 1)]) [1, 2, 0, 3] (by decide) rfl rfl dJ6_stringSize_0f7a4_35 rfl ?_
    refine g_iinc C (r := 2) (lv' := [(0, vI (-x)), (1, vI 0), (2, vI (-100)), (3, vI 2)]) 3 [1, 2, 3, 0] rfl (by decide) (by decide) rfl rfl dJ6_stringSize_0f7a4_36 rfl ?_
    refine g_goto C (pc' := 16) dJ6_stringSize_0f7a4_39 (by decide) ?_
    refine g_iload_n C 3 rfl dJ6_stringSize_0f7a4_16 rfl ?_
    refine g_bipush C (by decide) dJ6_stringSize_0f7a4_17 rfl ?_
    refine g_icmp_ge C (tgt := 42) ⟨by decide, by decide⟩ ⟨by decide, by decide⟩ dJ6_stringSize_0f7a4_19 (by decide) rfl (fun c_23 => ?_) (fun c_23 => ?_)
    · exact absurd c_23 (by decide)
    refine g_iload_n C 0 rfl dJ6_stringSize_0f7a4_22 rfl ?_
    refine g_iload_n C 2 rfl dJ6_stringSize_0f7a4_23 rfl ?_
    refine g_icmp_le C (tgt := 31) ⟨by omega, by omega⟩ ⟨by decide, by decide⟩ dJ6_stringSize_0f7a4_24 (by decide) rfl (fun c_24 => ?_) (fun c_24 => ?_)
    · refine g_bipush C (by decide) dJ6_stringSize_0f7a4_31 rfl ?_
      refine g_iload_n C 2 rfl dJ6_stringSize_0f7a4_33 rfl ?_
      refine g_imul C (r := (-1000)) (by decide) dJ6_stringSize_0f7a4_34 rfl ?_
      refine g_istore_n C (lv' := [(0, vI (-x)), (1, vI 0), (2, vI (-1000)), (3, vI 2)]) [1, 2, 0, 3] (by decide) rfl rfl dJ6_stringSize_0f7a4_35 rfl ?_
      refine g_iinc C (r := 3) (lv' := [(0, vI (-x)), (1, vI 0), (2, vI (-1000)), (3, vI 3)]) 3 [1, 2, 3, 0] rfl (by decide) (by decide) rfl rfl dJ6_stringSize_0f7a4_36 rfl ?_
      refine g_goto C (pc' := 16) dJ6_stringSize_0f7a4_39 (by decide) ?_
      refine g_iload_n C 3 rfl dJ6_stringSize_0f7a4_16 rfl ?_
      refine g_bipush C (by decide) dJ6_stringSize_0f7a4_17 rfl ?_
      refine g_icmp_ge C (tgt := 42) ⟨by decide, by decide⟩ ⟨by decide, by decide⟩ dJ6_stringSize_0f7a4_19 (by decide) rfl (fun c_25 => ?_) (fun c_25 => ?_)
      · exact absurd c_25 (by decide)
      refine g_iload_n C 0 rfl dJ6_stringSize_0f7a4_22 rfl ?_
      refine g_iload_n C 2 rfl dJ6_stringSize_0f7a4_23 rfl ?_
      refine g_icmp_le C (tgt := 31) ⟨by omega, by omega⟩ ⟨by decide, by decide⟩ dJ6_stringSize_0f7a4_24 (by decide) rfl (fun c_26 => ?_) (fun c_26 => ?_)
      · refine g_bipush C (by decide) dJ6_stringSize_0f7a4_31 rfl ?_
        refine g_iload_n C 2 rfl dJ6_stringSize_0f7a4_33 rfl ?_
        refine g_imul C (r := (-10000)) (by decide) dJ6_stringSize_0f7a4_34 rfl ?_
        refine g_istore_n C (lv' := [(0, vI (-x)), (1, vI 0), (2, vI (-10000)), (3, vI 3)]) [1, 2, 0, 3] (by decide) rfl rfl dJ6_stringSize_0f7a4_35 rfl ?_
        refine g_iinc C (r := 4) (lv' := [(0, vI (-x)), (1, vI 0), (2, vI (-10000)), (3, vI 4)]) 3 [1, 2, 3, 0] rfl (by decide) (by decide) rfl rfl dJ6_stringSize_0f7a4_36 rfl ?_
        refine g_goto C (pc' := 16) dJ6_stringSize_0f7a4_39 (by decide) ?_
        refine g_iload_n C 3 rfl dJ6_stringSize_0f7a4_16 rfl ?_
        refine g_bipush C (by decide) dJ6_stringSize_0f7a4_17 rfl ?_
        refine g_icmp_ge C (tgt := 42) ⟨by decide, by decide⟩ ⟨by decide, by decide⟩ dJ6_stringSize_0f7a4_19 (by decide) rfl (fun c_27 => ?_) (fun c_27 => ?_)
        · exact absurd c_27 (by decide)
        refine g_iload_n C 0 rfl dJ6_stringSize_0f7a4_22 rfl ?_
        refine g_iload_n C 2 rfl dJ6_stringSize_0f7a4_23 rfl ?_
        refine g_icmp_le C (tgt := 31) ⟨by omega, by omega⟩ ⟨by decide, by decide⟩ dJ6_stringSize_0f7a4_24 (by decide) rfl (fun c_28 => ?_) (fun c_28 => ?_)
        · refine g_bipush C (by decide) dJ6_stringSize_0f7a4_31 rfl ?_
          refine g_iload_n C 2 rfl dJ6_stringSize_0f7a4_33 rfl ?_
          refine g_imul C (r := (-100000)) (by decide) dJ6_stringSize_0f7a4_34 rfl ?_
          refine g_istore_n C (lv' := [(0, vI (-x)), (1, vI 0), (2, vI (-100000)), (3, vI 4)]) [1, 2, 0, 3] (by decide) rfl rfl dJ6_stringSize_0f7a4_35 rfl ?_
          refine g_iinc C (r := 5) (lv' := [(0, vI (-x)), (1, vI 0), (2, vI (-100000)), (3, vI 5)]) 3 [1, 2, 3, 0] rfl (by decide) (by decide) rfl rfl dJ6_stringSize_0f7a4_36 rfl ?_
          refine g_goto C (pc' := 16) dJ6_stringSize_0f7a4_39 (by decide) ?_
          refine g_iload_n C 3 rfl dJ6_stringSize_0f7a4_16 rfl ?_
          refine g_bipush C (by decide) dJ6_stringSize_0f7a4_17 rfl ?_
          refine g_icmp_ge C (tgt := 42) ⟨by decide, by decide⟩ ⟨by decide, by decide⟩ dJ6_stringSize_0f7a4_19 (by decide) rfl (fun c_29 => ?_) (fun c_29 => ?_)
          · exact absurd c_29 (by decide)
          refine g_iload_n C 0 rfl dJ6_stringSize_0f7a4_22 rfl ?_
          refine g_iload_n C 2 rfl dJ6_stringSize_0f7a4_23 rfl ?_
          refine g_icmp_le C (tgt := 31) ⟨by omega, by omega⟩ ⟨by decide, by decide⟩ dJ6_stringSize_0f7a4_24 (by decide) rfl (fun c_30 => ?_) (fun c_30 => ?_)
          · refine g_bipush C (by decide) dJ6_stringSize_0f7a4_31 rfl ?_
            refine g_iload_n C 2 rfl dJ6_stringSize_0f7a4_33 rfl ?_
            refine g_imul C (r := (-1000000)) (by decide) dJ6_stringSize_0f7a4_34 rfl ?_
            refine g_istore_n C (lv' := [(0, vI (-x)), (1, vI 0), (2, vI (-1000000)), (3, vI 5)]) [1, 2, 0, 3] (by decide) rfl rfl dJ6_stringSize_0f7a4_35 rfl ?_
            refine g_iinc C (r := 6) (lv' := [(0, vI (-x)), (1, vI 0), (2, vI (-1000000)), (3, vI 6)]) 3 [1, 2, 3, 0] rfl (by decide) (by decide) rfl rfl dJ6_stringSize_0f7a4_36 rfl ?_
            refine g_goto C (pc' := 16) dJ6_stringSize_0f7a4_39 (by decide) ?_
            refine g_iload_n C 3 rfl dJ6_stringSize_0f7a4_16 rfl ?_
            refine g_bipush C (by decide) dJ6_stringSize_0f7a4_17 rfl ?_
            refine g_icmp_ge C (tgt := 42) ⟨by decide, by decide⟩ ⟨by decide, by decide⟩ dJ6_stringSize_0f7a4_19 (by decide) rfl (fun c_31 => ?_) (fun c_31 => ?_)
            · exact absurd c_31 (by decide)
            refine g_iload_n C 0 rfl dJ6_stringSize_0f7a4_22 rfl ?_
            refine g_iload_n C 2 rfl dJ6_stringSize_0f7a4_23 rfl ?_
            refine g_icmp_le C (tgt := 31) ⟨by omega, by omega⟩ ⟨by decide, by decide⟩ dJ6_stringSize_0f7a4_24 (by decide) rfl (fun c_32 => ?_) (fun c_32 => ?_)
            · refine g_bipush C (by decide) dJ6_stringSize_0f7a4_31 rfl ?_
              refine g_iload_n C 2 rfl dJ6_stringSize_0f7a4_33 rfl ?_
              refine g_imul C (r := (-10000000)) (by decide) dJ6_stringSize_0f7a4_34 rfl ?_
              refine g_istore_n C (lv' := [(0, vI (-x)), (1, vI 0), (2, vI (-10000000)), (3, vI 6)]) [1, 2, 0, 3] (by decide) rfl rfl dJ6_stringSize_0f7a4_35 rfl ?_
              refine g_iinc C (r := 7) (lv' := [(0, vI (-x)), (1, vI 0), (2, vI (-10000000)), (3, vI 7)]) 3 [1, 2, 3, 0] rfl (by decide) (by decide) rfl rfl dJ6_stringSize_0f7a4_36 rfl ?_
              refine g_goto C (pc' := 16) dJ6_stringSize_0f7a4_39 (by decide) ?_
              refine g_iload_n C 3 rfl dJ6_stringSize_0f7a4_16 rfl ?_
              refine g_bipush C (by decide) dJ6_stringSize_0f7a4_17 rfl ?_
              refine g_icmp_ge C (tgt := 42) ⟨by decide, by decide⟩ ⟨by decide, by decide⟩ dJ6_stringSize_0f7a4_19 (by decide) rfl (fun c_33 => ?_) (fun c_33 => ?_)
              · exact absurd c_33 (by decide)
              refine g_iload_n C 0 rfl dJ6_stringSize_0f7a4_22 rfl ?_
              refine g_iload_n C 2 rfl dJ6_stringSize_0f7a4_23 rfl ?_
              refine g_icmp_le C (tgt := 31) ⟨by omega, by omega⟩ ⟨by decide, by decide⟩ dJ6_stringSize_0f7a4_24 (by decide) rfl (fun c_34 => ?_) (fun c_34 => ?_)
              · refine g_bipush C (by decide) dJ6_stringSize_0f7a4_31 rfl ?_
                refine g_iload_n C 2 rfl dJ6_stringSize_0f7a4_33 rfl ?_
                refine g_imul C (r := (-100000000)) (by decide) dJ6_stringSize_0f7a4_34 rfl ?_
                refine g_istore_n C (lv' := [(0, vI (-x)), (1, vI 0), (2, vI (-100000000)), (3, vI 7)]) [1, 2, 0, 3] (by decide) rfl rfl dJ6_stringSize_0f7a4_35 rfl ?_
                refine g_iinc C (r := 8) (lv' := [(0, vI (-x)), (1, vI 0), (2, vI (-100000000)), (3, vI 8)]) 3 [1, 2, 3, 0] rfl (by decide) (by decide) rfl rfl dJ6_stringSize_0f7a4_36 rfl ?_
                refine g_goto C (pc' := 16) dJ6_stringSize_0f7a4_39 (by decide) ?_
                refine g_iload_n C 3 rfl dJ6_stringSize_0f7a4_16 rfl ?_
                refine g_bipush C (by decide) dJ6_stringSize_0f7a4_17 rfl ?_
                refine g_icmp_ge C (tgt := 42) ⟨by decide, by decide⟩ ⟨by decide, by decide⟩ dJ6_stringSize_0f7a4_19 (by decide) rfl (fun c_35 => ?_) (fun c_35 => ?_)
                · exact absurd c_35 (by decide)
                refine g_iload_n C 0 rfl dJ6_stringSize_0f7a4_22 rfl ?_
                refine g_iload_n C 2 rfl dJ6_stringSize_0f7a4_23 rfl ?_
                refine g_icmp_le C (tgt := 31) ⟨by omega, by omega⟩ ⟨by decide, by decide⟩ dJ6_stringSize_0f7a4_24 (by decide) rfl (fun c_36 => ?_) (fun c_36 => ?_)
                · refine g_bipush C (by decide) dJ6_stringSize_0f7a4_31 rfl ?_
                  refine g_iload_n C 2 rfl dJ6_stringSize_0f7a4_33 rfl ?_
                  refine g_imul C (r := (-1000000000)) (by decide) dJ6_stringSize_0f7a4_34 rfl ?_
                  refine g_istore_n C (lv' := [(0, vI (-x)), (1, vI 0), (2, vI (-1000000000)), (3, vI 8)]) [1, 2, 0, 3] (by decide) rfl rfl dJ6_stringSize_0f7a4_35 rfl ?_
                  refine g_iinc C (r := 9) (lv' := [(0, vI (-x)), (1, vI 0), (2, vI (-1000000000)), (3, vI 9)]) 3 [1, 2, 3, 0] rfl (by decide) (by decide) rfl rfl dJ6_stringSize_0f7a4_36 rfl ?_
                  refine g_goto C (pc' := 16) dJ6_stringSize_0f7a4_39 (by decide) ?_
                  refine g_iload_n C 3 rfl dJ6_stringSize_0f7a4_16 rfl ?_
                  refine g_bipush C (by decide) dJ6_stringSize_0f7a4_17 rfl ?_
                  refine g_icmp_ge C (tgt := 42) ⟨by decide, by decide⟩ ⟨by decide, by decide⟩ dJ6_stringSize_0f7a4_19 (by decide) rfl (fun c_37 => ?_) (fun c_37 => ?_)
                  · exact absurd c_37 (by decide)
                  refine g_iload_n C 0 rfl dJ6_stringSize_0f7a4_22 rfl ?_
                  refine g_iload_n C 2 rfl dJ6_stringSize_0f7a4_23 rfl ?_
                  refine g_icmp_le C (tgt := 31) ⟨by omega, by omega⟩ ⟨by decide, by decide⟩ dJ6_stringSize_0f7a4_24 (by decide) rfl (fun c_38 => ?_) (fun c_38 => ?_)
                  · refine g_bipush C (by decide) dJ6_stringSize_0f7a4_31 rfl ?_
                    refine g_iload_n C 2 rfl dJ6_stringSize_0f7a4_33 rfl ?_
                    refine g_imul C (r := (-10000000000)) (by decide) dJ6_stringSize_0f7a4_34 rfl ?_
                    refine g_istore_n C (lv' := [(0, vI (-x)), (1, vI 0), (2, vI (-10000000000)), (3, vI 9)]) [1, 2, 0, 3] (by decide) rfl rfl dJ6_stringSize_0f7a4_35 rfl ?_
                    refine g_iinc C (r := 10) (lv' := [(0, vI (-x)), (1, vI 0), (2, vI (-10000000000)), (3, vI 10)]) 3 [1, 2, 3, 0] rfl (by decide) (by decide) rfl rfl dJ6_stringSize_0f7a4_36 rfl ?_
                    refine g_goto C (pc' := 16) dJ6_stringSize_0f7a4_39 (by decide) ?_
                    refine g_iload_n C 3 rfl dJ6_stringSize_0f7a4_16 rfl ?_
                    refine g_bipush C (by decide) dJ6_stringSize_0f7a4_17 rfl ?_
                    refine g_icmp_ge C (tgt := 42) ⟨by decide, by decide⟩ ⟨by decide, by decide⟩ dJ6_stringSize_0f7a4_19 (by decide) rfl (fun c_39 => ?_) (fun c_39 => ?_)
                    · refine g_bipush C (by decide) dJ6_stringSize_0f7a4_42 rfl ?_
                      refine g_iload_n C 1 rfl dJ6_stringSize_0f7a4_44 rfl ?_
                      refine g_iadd C (r := 10) (by decide) dJ6_stringSize_0f7a4_45 rfl ?_
                      refine g_top (v' := vI (dlen x)) (congrArg (fun z_ : Int => vI z_) (show (dlen x) = 10 by unfold dlen; (repeat' split) <;> omega)) ?_
                      exact g_iret C hr rfl (Nat.le_of_ble_eq_true rfl) (Nat.le_of_ble_eq_true rfl) dJ6_stringSize_0f7a4_46 ⟨rfl, rfl⟩
                    exact absurd c_39 (by decide)
                  refine g_iload_n C 3 rfl dJ6_stringSize_0f7a4_27 rfl ?_
                  refine g_iload_n C 1 rfl dJ6_stringSize_0f7a4_28 rfl ?_
                  refine g_iadd C (r := 9) (by decide) dJ6_stringSize_0f7a4_29 rfl ?_
                  refine g_top (v' := vI (dlen x)) (congrArg (fun z_ : Int => vI z_) (show (dlen x) = 9 by unfold dlen; (repeat' split) <;> omega)) ?_
                  exact g_iret C hr rfl (Nat.le_of_ble_eq_true rfl) (Nat.le_of_ble_eq_true rfl) dJ6_stringSize_0f7a4_30 ⟨rfl, rfl⟩
                refine g_iload_n C 3 rfl dJ6_stringSize_0f7a4_27 rfl ?_
                refine g_iload_n C 1 rfl dJ6_stringSize_0f7a4_28 rfl ?_
                refine g_iadd C (r := 8) (by decide) dJ6_stringSize_0f7a4_29 rfl ?_
                refine g_top (v' := vI (dlen x)) (congrArg (fun z_ : Int => vI z_) (show (dlen x) = 8 by unfold dlen; (repeat' split) <;> omega)) ?_
                exact g_iret C hr rfl (Nat.le_of_ble_eq_true rfl) (Nat.le_of_ble_eq_true rfl) dJ6_stringSize_0f7a4_30 ⟨rfl, rfl⟩
              refine g_iload_n C 3 rfl dJ6_stringSize_0f7a4_27 rfl ?_
              refine g_iload_n C 1 rfl dJ6_stringSize_0f7a4_28 rfl ?_
              refine g_iadd C (r := 7) (by decide) dJ6_stringSize_0f7a4_29 rfl ?_
              refine g_top (v' := vI (dlen x)) (congrArg (fun z_ : Int => vI z_) (show (dlen x) = 7 by unfold dlen; (repeat' split) <;> omega)) ?_
              exact g_iret C hr rfl (Nat.le_of_ble_eq_true rfl) (Nat.le_of_ble_eq_true rfl) dJ6_stringSize_0f7a4_30 ⟨rfl, rfl⟩
            refine g_iload_n C 3 rfl dJ6_stringSize_0f7a4_27 rfl ?_
            refine g_iload_n C 1 rfl dJ6_stringSize_0f7a4_28 rfl ?_
            refine g_iadd C (r := 6) (by decide) dJ6_stringSize_0f7a4_29 rfl ?_
            refine g_top (v' := vI (dlen x)) (congrArg (fun z_ : Int => vI z_) (show (dlen x) = 6 by unfold dlen; (repeat' split) <;> omega)) ?_
            exact g_iret C hr rfl (Nat.le_of_ble_eq_true rfl) (Nat.le_of_ble_eq_true rfl) dJ6_stringSize_0f7a4_30 ⟨rfl, rfl⟩
          refine g_iload_n C 3 rfl dJ6_stringSize_0f7a4_27 rfl ?_
          refine g_iload_n C 1 rfl dJ6_stringSize_0f7a4_28 rfl ?_
          refine g_iadd C (r := 5) (by decide) dJ6_stringSize_0f7a4_29 rfl ?_
          refine g_top (v' := vI (dlen x)) (congrArg (fun z_ : Int => vI z_) (show (dlen x) = 5 by unfold dlen; (repeat' split) <;> omega)) ?_
          exact g_iret C hr rfl (Nat.le_of_ble_eq_true rfl) (Nat.le_of_ble_eq_true rfl) dJ6_stringSize_0f7a4_30 ⟨rfl, rfl⟩
        refine g_iload_n C 3 rfl dJ6_stringSize_0f7a4_27 rfl ?_
        refine g_iload_n C 1 rfl dJ6_stringSize_0f7a4_28 rfl ?_
        refine g_iadd C (r := 4) (by decide) dJ6_stringSize_0f7a4_29 rfl ?_
        refine g_top (v' := vI (dlen x)) (congrArg (fun z_ : Int => vI z_) (show (dlen x) = 4 by unfold dlen; (repeat' split) <;> omega)) ?_
        exact g_iret C hr rfl (Nat.le_of_ble_eq_true rfl) (Nat.le_of_ble_eq_true rfl) dJ6_stringSize_0f7a4_30 ⟨rfl, rfl⟩
      refine g_iload_n C 3 rfl dJ6_stringSize_0f7a4_27 rfl ?_
      refine g_iload_n C 1 rfl dJ6_stringSize_0f7a4_28 rfl ?_
      refine g_iadd C (r := 3) (by decide) dJ6_stringSize_0f7a4_29 rfl ?_
      refine g_top (v' := vI (dlen x)) (congrArg (fun z_ : Int => vI z_) (show (dlen x) = 3 by unfold dlen; (repeat' split) <;> omega)) ?_
      exact g_iret C hr rfl (Nat.le_of_ble_eq_true rfl) (Nat.le_of_ble_eq_true rfl) dJ6_stringSize_0f7a4_30 ⟨rfl, rfl⟩
    refine g_iload_n C 3 rfl dJ6_stringSize_0f7a4_27 rfl ?_
    refine g_iload_n C 1 rfl dJ6_stringSize_0f7a4_28 rfl ?_
    refine g_iadd C (r := 2) (by decide) dJ6_stringSize_0f7a4_29 rfl ?_
    refine g_top (v' := vI (dlen x)) (congrArg (fun z_ : Int => vI z_) (show (dlen x) = 2 by unfold dlen; (repeat' split) <;> omega)) ?_
    exact g_iret C hr rfl (Nat.le_of_ble_eq_true rfl) (Nat.le_of_ble_eq_true rfl) dJ6_stringSize_0f7a4_30 ⟨rfl, rfl⟩
  refine g_iload_n C 3 rfl dJ6_stringSize_0f7a4_27 rfl ?_
  refine g_iload_n C 1 rfl dJ6_stringSize_0f7a4_28 rfl ?_
  refine g_iadd C (r := 1) (by decide) dJ6_stringSize_0f7a4_29 rfl ?_
  refine g_top (v' := vI (dlen x)) (congrArg (fun z_ : Int => vI z_) (show (dlen x) = 1 by unfold dlen; (repeat' split) <;> omega)) ?_
  exact g_iret C hr rfl (Nat.le_of_ble_eq_true rfl) (Nat.le_of_ble_eq_true rfl) dJ6_stringSize_0f7a4_30 ⟨rfl, rfl⟩

theorem w_J6_getChars_ba4f3_st83 : Cond.fieldLink RJ6 83 "java/lang/Integer" "DigitOnes" "[B" ∈ wsJ6_getChars_ba4f3 := by decide +kernel
theorem w_J6_getChars_ba4f3_st87 : Cond.fieldLink RJ6 87 "java/lang/Integer" "DigitTens" "[B" ∈ wsJ6_getChars_ba4f3 := by decide +kernel
abbrev rm_K_getChars : Room := { frames := 0, cells := 0, slots := 0, locals := 0 }
set_option maxHeartbeats 1000000 in
set_option maxRecDepth 100000 in
theorem K_getChars (l : Launch) (E : Ev) (x i : Int) (b : Nat) (t : Int → Int) (N : Nat) (L : List Int) (hx : cb x) (hi : i = (L.length : Int) + dlen x) (hiN : i ≤ (N : Int)) (hN : (N : Int) ≤ 1000) (hb : BX N t) (hT : TX t L) : Mc l yJ6_getChars_ba4f3 wsJ6_getChars_ba4f3 rm_K_getChars E [vI x, vI i, vR b] [(b, cB E N t)] 0 0 (fun v9 w9 => ∃ (z9 : Int) (u9 : Int → Int), v9 = some (vI z9) ∧ w9 = [(b, cB E N u9)] ∧ BX N u9 ∧ TX u9 (L ++ dgs x)) := by
  refine Mc.intro (cc := cJ6_getChars_ba4f3) (maxL := 7) (ret := (some .int)) (lv0 := [(0, vI x), (1, vI i), (2, vR b)]) (by decide +kernel) rfl rfl (Nat.le_of_ble_eq_true rfl) ?_
  intro p9 e9 s9 m9 args9 below9 meth9 c9 A9 C hr hmn
  have C : Cx p9 s9 m9 args9 meth9 c9 E A9 7 cJ6_getChars_ba4f3 wsJ6_getChars_ba4f3 RJ6 := C
  rcases dcases hx with ⟨hrx, hd⟩ | ⟨hrx, hd⟩ | ⟨hrx, hd⟩ | ⟨hrx, hd⟩ | ⟨hrx, hd⟩ | ⟨hrx, hd⟩ | ⟨hrx, hd⟩ | ⟨hrx, hd⟩ | ⟨hrx, hd⟩ | ⟨hrx, hd⟩
  · refine g_iload_n C 1 rfl dJ6_getChars_ba4f3_0 rfl ?_
    refine g_istore C (lv' := [(0, vI x), (1, vI i), (2, vR b), (5, vI i)]) [1, 2, 3, 0] (by decide) rfl rfl dJ6_getChars_ba4f3_1 rfl ?_
    refine g_iload_n C 0 rfl dJ6_getChars_ba4f3_3 rfl ?_
    refine g_if_ge C (tgt := 11) ⟨by omega, by omega⟩ dJ6_getChars_ba4f3_4 (by decide) rfl (fun c_1 => ?_) (fun c_1 => ?_)
    · refine g_iconst C dJ6_getChars_ba4f3_11 rfl ?_
      refine g_istore C (lv' := [(0, vI x), (1, vI i), (2, vR b), (5, vI i), (6, vI 0)]) [1, 2, 3, 4, 0] (by decide) rfl rfl dJ6_getChars_ba4f3_12 rfl ?_
      refine g_iload C 4 rfl dJ6_getChars_ba4f3_14 rfl ?_
      refine g_if_ne C (tgt := 22) ⟨by decide, by decide⟩ dJ6_getChars_ba4f3_16 (by decide) rfl (fun c_2 => ?_) (fun c_2 => ?_)
      · exact absurd c_2 (by decide)
      refine g_iload_n C 0 rfl dJ6_getChars_ba4f3_19 rfl ?_
      refine g_ineg C rfl dJ6_getChars_ba4f3_20 rfl ?_
      refine g_istore_n C (lv' := [(0, vI (-x)), (1, vI i), (2, vR b), (5, vI i), (6, vI 0)]) [0, 1, 2, 3, 4] (by decide) rfl rfl dJ6_getChars_ba4f3_21 rfl ?_
      refine g_iload_n C 0 rfl dJ6_getChars_ba4f3_22 rfl ?_
      refine g_bipush C (by decide) dJ6_getChars_ba4f3_23 rfl ?_
      refine g_icmp_gt C (tgt := 72) ⟨by omega, by omega⟩ ⟨by decide, by decide⟩ dJ6_getChars_ba4f3_25 (by decide) rfl (fun c_3 => ?_) (fun c_3 => ?_)
      · refine g_aload_n C 2 rfl dJ6_getChars_ba4f3_72 rfl ?_
        refine g_iinc C (r := (i + (-1))) (lv' := [(0, vI (-x)), (1, vI i), (2, vR b), (5, vI (i + (-1))), (6, vI 0)]) 3 [1, 2, 3, 0, 4] rfl rfl (by decide) rfl rfl dJ6_getChars_ba4f3_73 rfl ?_
        refine g_iload C 3 rfl dJ6_getChars_ba4f3_76 rfl ?_
        refine g_gets C C.2.2.1.2.2.2.2.1.1 w_J6_getChars_ba4f3_st83 rfl dJ6_getChars_ba4f3_78 rfl ?_
        refine g_iload_n C 0 rfl dJ6_getChars_ba4f3_81 rfl ?_
        refine g_ineg C rfl dJ6_getChars_ba4f3_82 rfl ?_
        refine g_tb C (N := 100) (a := dgO) C.2.2.1.2.2.2.2.1.2 (by omega) (by omega) (by decide) rfl dJ6_getChars_ba4f3_83 rfl ?_
        refine g_bast C 0 rfl (by omega) (by omega) (by omega) (narB ch_O) (ws' := [(b, cB E N (ua t (i + (-1)) (dgO (-(-x)))))]) rfl dJ6_getChars_ba4f3_84 rfl ?_
        refine g_iload_n C 0 rfl dJ6_getChars_ba4f3_85 rfl ?_
        refine g_bipush C (by decide) dJ6_getChars_ba4f3_86 rfl ?_
        refine g_icmp_ge C (tgt := 104) ⟨by omega, by omega⟩ ⟨by decide, by decide⟩ dJ6_getChars_ba4f3_88 (by decide) rfl (fun c_4 => ?_) (fun c_4 => ?_)
        · refine g_iload C 4 rfl dJ6_getChars_ba4f3_104 rfl ?_
          refine g_if_eq C (tgt := 118) ⟨by decide, by decide⟩ dJ6_getChars_ba4f3_106 (by decide) rfl (fun c_5 => ?_) (fun c_5 => ?_)
          · refine g_iload C 3 rfl dJ6_getChars_ba4f3_118 rfl ?_
            exact g_iret C hr rfl (Nat.le_of_ble_eq_true rfl) (Nat.le_of_ble_eq_true rfl) dJ6_getChars_ba4f3_120 ⟨(i + (-1)), (ua t (i + (-1)) (dgO (-(-x)))), rfl, rfl, (by repeat (first | exact hb | refine BX_u ?_ (by first | exact ch_O | exact ch_T ⟨by omega, by omega⟩ | exact ⟨by decide, by decide⟩))), (by rw [dgs_p1 (v := x) (by omega)]; exact gc_1 (n := (L.length : Int)) rfl (TX_c hT (fun k h0 h1 => by unfold ua; (repeat' split) <;> first | rfl | omega)) (by unfold ua; (try unfold dgO); (try unfold dgT); (repeat' split) <;> omega))⟩
          exact absurd c_5 (by decide)
        exfalso; omega
      exfalso; omega
    exfalso; omega
  · refine g_iload_n C 1 rfl dJ6_getChars_ba4f3_0 rfl ?_
    refine g_istore C (lv' := [(0, vI x), (1, vI i), (2, vR b), (5, vI i)]) [1, 2, 3, 0] (by decide) rfl rfl dJ6_getChars_ba4f3_1 rfl ?_
    refine g_iload_n C 0 rfl dJ6_getChars_ba4f3_3 rfl ?_
    refine g_if_ge C (tgt := 11) ⟨by omega, by omega⟩ dJ6_getChars_ba4f3_4 (by decide) rfl (fun c_6 => ?_) (fun c_6 => ?_)
    · refine g_iconst C dJ6_getChars_ba4f3_11 rfl ?_
      refine g_istore C (lv' := [(0, vI x), (1, vI i), (2, vR b), (5, vI i), (6, vI 0)]) [1, 2, 3, 4, 0] (by decide) rfl rfl dJ6_getChars_ba4f3_12 rfl ?_
      refine g_iload C 4 rfl dJ6_getChars_ba4f3_14 rfl ?_
      refine g_if_ne C (tgt := 22) ⟨by decide, by decide⟩ dJ6_getChars_ba4f3_16 (by decide) rfl (fun c_7 => ?_) (fun c_7 => ?_)
      · exact absurd c_7 (by decide)
      refine g_iload_n C 0 rfl dJ6_getChars_ba4f3_19 rfl ?_
      refine g_ineg C rfl dJ6_getChars_ba4f3_20 rfl ?_
      refine g_istore_n C (lv' := [(0, vI (-x)), (1, vI i), (2, vR b), (5, vI i), (6, vI 0)]) [0, 1, 2, 3, 4] (by decide) rfl rfl dJ6_getChars_ba4f3_21 rfl ?_
      refine g_iload_n C 0 rfl dJ6_getChars_ba4f3_22 rfl ?_
      refine g_bipush C (by decide) dJ6_getChars_ba4f3_23 rfl ?_
      refine g_icmp_gt C (tgt := 72) ⟨by omega, by omega⟩ ⟨by decide, by decide⟩ dJ6_getChars_ba4f3_25 (by decide) rfl (fun c_8 => ?_) (fun c_8 => ?_)
      · refine g_aload_n C 2 rfl dJ6_getChars_ba4f3_72 rfl ?_
        refine g_iinc C (r := (i + (-1))) (lv' := [(0, vI (-x)), (1, vI i), (2, vR b), (5, vI (i + (-1))), (6, vI 0)]) 3 [1, 2, 3, 0, 4] rfl rfl (by decide) rfl rfl dJ6_getChars_ba4f3_73 rfl ?_
        refine g_iload C 3 rfl dJ6_getChars_ba4f3_76 rfl ?_
        refine g_gets C C.2.2.1.2.2.2.2.1.1 w_J6_getChars_ba4f3_st83 rfl dJ6_getChars_ba4f3_78 rfl ?_
        refine g_iload_n C 0 rfl dJ6_getChars_ba4f3_81 rfl ?_
        refine g_ineg C rfl dJ6_getChars_ba4f3_82 rfl ?_
        refine g_tb C (N := 100) (a := dgO) C.2.2.1.2.2.2.2.1.2 (by omega) (by omega) (by decide) rfl dJ6_getChars_ba4f3_83 rfl ?_
        refine g_bast C 0 rfl (by omega) (by omega) (by omega) (narB ch_O) (ws' := [(b, cB E N (ua t (i + (-1)) (dgO (-(-x)))))]) rfl dJ6_getChars_ba4f3_84 rfl ?_
        refine g_iload_n C 0 rfl dJ6_getChars_ba4f3_85 rfl ?_
        refine g_bipush C (by decide) dJ6_getChars_ba4f3_86 rfl ?_
        refine g_icmp_ge C (tgt := 104) ⟨by omega, by omega⟩ ⟨by decide, by decide⟩ dJ6_getChars_ba4f3_88 (by decide) rfl (fun c_9 => ?_) (fun c_9 => ?_)
        · exfalso; omega
        refine g_aload_n C 2 rfl dJ6_getChars_ba4f3_91 rfl ?_
        refine g_iinc C (r := ((i + (-1)) + (-1))) (lv' := [(0, vI (-x)), (1, vI i), (2, vR b), (5, vI ((i + (-1)) + (-1))), (6, vI 0)]) 3 [1, 2, 3, 0, 4] rfl rfl (by decide) rfl rfl dJ6_getChars_ba4f3_92 rfl ?_
        refine g_iload C 3 rfl dJ6_getChars_ba4f3_95 rfl ?_
        refine g_gets C C.2.2.1.2.2.2.2.2.1.1 w_J6_getChars_ba4f3_st87 rfl dJ6_getChars_ba4f3_97 rfl ?_
        refine g_iload_n C 0 rfl dJ6_getChars_ba4f3_100 rfl ?_
        refine g_ineg C rfl dJ6_getChars_ba4f3_101 rfl ?_
        refine g_tb C (N := 100) (a := dgT) C.2.2.1.2.2.2.2.2.1.2 (by omega) (by omega) (by decide) rfl dJ6_getChars_ba4f3_102 rfl ?_
        refine g_bast C 0 rfl (by omega) (by omega) (by omega) (narB (ch_T ⟨by omega, by omega⟩)) (ws' := [(b, cB E N (ua (ua t (i + (-1)) (dgO (-(-x)))) ((i + (-1)) + (-1)) (dgT (-(-x)))))]) rfl dJ6_getChars_ba4f3_103 rfl ?_
        refine g_iload C 4 rfl dJ6_getChars_ba4f3_104 rfl ?_
        refine g_if_eq C (tgt := 118) ⟨by decide, by decide⟩ dJ6_getChars_ba4f3_106 (by decide) rfl (fun c_10 => ?_) (fun c_10 => ?_)
        · refine g_iload C 3 rfl dJ6_getChars_ba4f3_118 rfl ?_
          exact g_iret C hr rfl (Nat.le_of_ble_eq_true rfl) (Nat.le_of_ble_eq_true rfl) dJ6_getChars_ba4f3_120 ⟨((i + (-1)) + (-1)), (ua (ua t (i + (-1)) (dgO (-(-x)))) ((i + (-1)) + (-1)) (dgT (-(-x)))), rfl, rfl, (by repeat (first | exact hb | refine BX_u ?_ (by first | exact ch_O | exact ch_T ⟨by omega, by omega⟩ | exact ⟨by decide, by decide⟩))), (by rw [dgs_p2 (v := x) (by omega)]; exact gc_2 (n := (L.length : Int)) rfl (TX_c hT (fun k h0 h1 => by unfold ua; (repeat' split) <;> first | rfl | omega)) (by unfold ua; (try unfold dgO); (try unfold dgT); (repeat' split) <;> omega) (by unfold ua; (try unfold dgO); (try unfold dgT); (repeat' split) <;> omega))⟩
        exact absurd c_10 (by decide)
      exfalso; omega
    exfalso; omega
  · refine g_iload_n C 1 rfl dJ6_getChars_ba4f3_0 rfl ?_
    refine g_istore C (lv' := [(0, vI x), (1, vI i), (2, vR b), (5, vI i)]) [1, 2, 3, 0] (by decide) rfl rfl dJ6_getChars_ba4f3_1 rfl ?_
    refine g_iload_n C 0 rfl dJ6_getChars_ba4f3_3 rfl ?_
    refine g_if_ge C (tgt := 11) ⟨by omega, by omega⟩ dJ6_getChars_ba4f3_4 (by decide) rfl (fun c_11 => ?_) (fun c_11 => ?_)
    · refine g_iconst C dJ6_getChars_ba4f3_11 rfl ?_
      refine g_istore C (lv' := [(0, vI x), (1, vI i), (2, vR b), (5, vI i), (6, vI 0)]) [1, 2, 3, 4, 0] (by decide) rfl rfl dJ6_getChars_ba4f3_12 rfl ?_
      refine g_iload C 4 rfl dJ6_getChars_ba4f3_14 rfl ?_
      refine g_if_ne C (tgt := 22) ⟨by decide, by decide⟩ dJ6_getChars_ba4f3_16 (by decide) rfl (fun c_12 => ?_) (fun c_12 => ?_)
      · exact absurd c_12 (by decide)
      refine g_iload_n C 0 rfl dJ6_getChars_ba4f3_19 rfl ?_
      refine g_ineg C rfl dJ6_getChars_ba4f3_20 rfl ?_
      refine g_istore_n C (lv' := [(0, vI (-x)), (1, vI i), (2, vR b), (5, vI i), (6, vI 0)]) [0, 1, 2, 3, 4] (by decide) rfl rfl dJ6_getChars_ba4f3_21 rfl ?_
      refine g_iload_n C 0 rfl dJ6_getChars_ba4f3_22 rfl ?_
      refine g_bipush C (by decide) dJ6_getChars_ba4f3_23 rfl ?_
      refine g_icmp_gt C (tgt := 72) ⟨by omega, by omega⟩ ⟨by decide, by decide⟩ dJ6_getChars_ba4f3_25 (by decide) rfl (fun c_13 => ?_) (fun c_13 => ?_)
      · exfalso; omega
      refine g_iload_n C 0 rfl dJ6_getChars_ba4f3_28 rfl ?_
      refine g_bipush C (by decide) dJ6_getChars_ba4f3_29 rfl ?_
      refine g_idiv C ⟨by omega, by omega⟩ ⟨by decide, by decide⟩ (by decide) (by decide) rfl dJ6_getChars_ba4f3_31 rfl ?_
      refine g_istore_n C (lv' := [(0, vI (-x)), (1, vI i), (2, vR b), (3, vI (Int.tdiv (-x) 100)), (5, vI i), (6, vI 0)]) [1, 2, 3, 0, 4, 5] (by decide) rfl rfl dJ6_getChars_ba4f3_32 rfl ?_
      have td_14 : Int.tdiv (-x) 100 = -((-(-x)) / 100) := td100 (by omega)
      refine g_iload_n C 3 rfl dJ6_getChars_ba4f3_33 rfl ?_
      refine g_bipush C (by decide) dJ6_getChars_ba4f3_34 rfl ?_
      refine g_imul C rfl dJ6_getChars_ba4f3_36 rfl ?_
      refine g_iload_n C 0 rfl dJ6_getChars_ba4f3_37 rfl ?_
      refine g_isub C rfl dJ6_getChars_ba4f3_38 rfl ?_
      refine g_istore C (lv' := [(0, vI (-x)), (1, vI i), (2, vR b), (3, vI (Int.tdiv (-x) 100)), (4, vI (((Int.tdiv (-x) 100) * 100) - (-x))), (5, vI i), (6, vI 0)]) [1, 2, 3, 4, 0, 5, 6] (by decide) rfl rfl dJ6_getChars_ba4f3_39 rfl ?_
      refine g_iload_n C 3 rfl dJ6_getChars_ba4f3_41 rfl ?_
      refine g_istore_n C (lv' := [(0, vI (Int.tdiv (-x) 100)), (1, vI i), (2, vR b), (3, vI (Int.tdiv (-x) 100)), (4, vI (((Int.tdiv (-x) 100) * 100) - (-x))), (5, vI i), (6, vI 0)]) [0, 1, 2, 3, 4, 5, 6] (by decide) rfl rfl dJ6_getChars_ba4f3_42 rfl ?_
      refine g_aload_n C 2 rfl dJ6_getChars_ba4f3_43 rfl ?_
      refine g_iinc C (r := (i + (-1))) (lv' := [(0, vI (Int.tdiv (-x) 100)), (1, vI i), (2, vR b), (3, vI (Int.tdiv (-x) 100)), (4, vI (((Int.tdiv (-x) 100) * 100) - (-x))), (5, vI (i + (-1))), (6, vI 0)]) 5 [1, 2, 3, 4, 5, 0, 6] rfl rfl (by decide) rfl rfl dJ6_getChars_ba4f3_44 rfl ?_
      refine g_iload C 5 rfl dJ6_getChars_ba4f3_47 rfl ?_
      refine g_gets C C.2.2.1.2.2.2.2.1.1 w_J6_getChars_ba4f3_st83 rfl dJ6_getChars_ba4f3_49 rfl ?_
      refine g_iload C 4 rfl dJ6_getChars_ba4f3_52 rfl ?_
      refine g_tb C (N := 100) (a := dgO) C.2.2.1.2.2.2.2.1.2 (by omega) (by omega) (by decide) rfl dJ6_getChars_ba4f3_54 rfl ?_
      refine g_bast C 0 rfl (by omega) (by omega) (by omega) (narB ch_O) (ws' := [(b, cB E N (ua t (i + (-1)) (dgO (((Int.tdiv (-x) 100) * 100) - (-x)))))]) rfl dJ6_getChars_ba4f3_55 rfl ?_
      refine g_aload_n C 2 rfl dJ6_getChars_ba4f3_56 rfl ?_
      refine g_iinc C (r := ((i + (-1)) + (-1))) (lv' := [(0, vI (Int.tdiv (-x) 100)), (1, vI i), (2, vR b), (3, vI (Int.tdiv (-x) 100)), (4, vI (((Int.tdiv (-x) 100) * 100) - (-x))), (5, vI ((i + (-1)) + (-1))), (6, vI 0)]) 5 [1, 2, 3, 4, 5, 0, 6] rfl rfl (by decide) rfl rfl dJ6_getChars_ba4f3_57 rfl ?_
      refine g_iload C 5 rfl dJ6_getChars_ba4f3_60 rfl ?_
      refine g_gets C C.2.2.1.2.2.2.2.2.1.1 w_J6_getChars_ba4f3_st87 rfl dJ6_getChars_ba4f3_62 rfl ?_
      refine g_iload C 4 rfl dJ6_getChars_ba4f3_65 rfl ?_
      refine g_tb C (N := 100) (a := dgT) C.2.2.1.2.2.2.2.2.1.2 (by omega) (by omega) (by decide) rfl dJ6_getChars_ba4f3_67 rfl ?_
      refine g_bast C 0 rfl (by omega) (by omega) (by omega) (narB (ch_T ⟨by omega, by omega⟩)) (ws' := [(b, cB E N (ua (ua t (i + (-1)) (dgO (((Int.tdiv (-x) 100) * 100) - (-x)))) ((i + (-1)) + (-1)) (dgT (((Int.tdiv (-x) 100) * 100) - (-x)))))]) rfl dJ6_getChars_ba4f3_68 rfl ?_
      refine g_goto C (pc' := 22) dJ6_getChars_ba4f3_69 (by decide) ?_
      refine g_iload_n C 0 rfl dJ6_getChars_ba4f3_22 rfl ?_
      refine g_bipush C (by decide) dJ6_getChars_ba4f3_23 rfl ?_
      refine g_icmp_gt C (tgt := 72) ⟨by omega, by omega⟩ ⟨by decide, by decide⟩ dJ6_getChars_ba4f3_25 (by decide) rfl (fun c_15 => ?_) (fun c_15 => ?_)
      · refine g_aload_n C 2 rfl dJ6_getChars_ba4f3_72 rfl ?_
        refine g_iinc C (r := (((i + (-1)) + (-1)) + (-1))) (lv' := [(0, vI (Int.tdiv (-x) 100)), (1, vI i), (2, vR b), (3, vI (Int.tdiv (-x) 100)), (4, vI (((Int.tdiv (-x) 100) * 100) - (-x))), (5, vI (((i + (-1)) + (-1)) + (-1))), (6, vI 0)]) 5 [1, 2, 3, 4, 5, 0, 6] rfl rfl (by decide) rfl rfl dJ6_getChars_ba4f3_73 rfl ?_
        refine g_iload C 5 rfl dJ6_getChars_ba4f3_76 rfl ?_
        refine g_gets C C.2.2.1.2.2.2.2.1.1 w_J6_getChars_ba4f3_st83 rfl dJ6_getChars_ba4f3_78 rfl ?_
        refine g_iload_n C 0 rfl dJ6_getChars_ba4f3_81 rfl ?_
        refine g_ineg C rfl dJ6_getChars_ba4f3_82 rfl ?_
        refine g_tb C (N := 100) (a := dgO) C.2.2.1.2.2.2.2.1.2 (by omega) (by omega) (by decide) rfl dJ6_getChars_ba4f3_83 rfl ?_
        refine g_bast C 0 rfl (by omega) (by omega) (by omega) (narB ch_O) (ws' := [(b, cB E N (ua (ua (ua t (i + (-1)) (dgO (((Int.tdiv (-x) 100) * 100) - (-x)))) ((i + (-1)) + (-1)) (dgT (((Int.tdiv (-x) 100) * 100) - (-x)))) (((i + (-1)) + (-1)) + (-1)) (dgO (-(Int.tdiv (-x) 100)))))]) rfl dJ6_getChars_ba4f3_84 rfl ?_
        refine g_iload_n C 0 rfl dJ6_getChars_ba4f3_85 rfl ?_
        refine g_bipush C (by decide) dJ6_getChars_ba4f3_86 rfl ?_
        refine g_icmp_ge C (tgt := 104) ⟨by omega, by omega⟩ ⟨by decide, by decide⟩ dJ6_getChars_ba4f3_88 (by decide) rfl (fun c_16 => ?_) (fun c_16 => ?_)
        · refine g_iload C 6 rfl dJ6_getChars_ba4f3_104 rfl ?_
          refine g_if_eq C (tgt := 118) ⟨by decide, by decide⟩ dJ6_getChars_ba4f3_106 (by decide) rfl (fun c_17 => ?_) (fun c_17 => ?_)
          · refine g_iload C 5 rfl dJ6_getChars_ba4f3_118 rfl ?_
            exact g_iret C hr rfl (Nat.le_of_ble_eq_true rfl) (Nat.le_of_ble_eq_true rfl) dJ6_getChars_ba4f3_120 ⟨(((i + (-1)) + (-1)) + (-1)), (ua (ua (ua t (i + (-1)) (dgO (((Int.tdiv (-x) 100) * 100) - (-x)))) ((i + (-1)) + (-1)) (dgT (((Int.tdiv (-x) 100) * 100) - (-x)))) (((i + (-1)) + (-1)) + (-1)) (dgO (-(Int.tdiv (-x) 100)))), rfl, rfl, (by repeat (first | exact hb | refine BX_u ?_ (by first | exact ch_O | exact ch_T ⟨by omega, by omega⟩ | exact ⟨by decide, by decide⟩))), (by rw [dgs_p3 (v := x) (by omega)]; exact gc_3 (n := (L.length : Int)) rfl (TX_c hT (fun k h0 h1 => by unfold ua; (repeat' split) <;> first | rfl | omega)) (by unfold ua; (try unfold dgO); (try unfold dgT); (repeat' split) <;> omega) (by unfold ua; (try unfold dgO); (try unfold dgT); (repeat' split) <;> omega) (by unfold ua; (try unfold dgO); (try unfold dgT); (repeat' split) <;> omega))⟩
          exact absurd c_17 (by decide)
        exfalso; omega
      exfalso; omega
    exfalso; omega
  · refine g_iload_n C 1 rfl dJ6_getChars_ba4f3_0 rfl ?_
    refine g_istore C (lv' := [(0, vI x), (1, vI i), (2, vR b), (5, vI i)]) [1, 2, 3, 0] (by decide) rfl rfl dJ6_getChars_ba4f3_1 rfl ?_
    refine g_iload_n C 0 rfl dJ6_getChars_ba4f3_3 rfl ?_
    refine g_if_ge C (tgt := 11) ⟨by omega, by omega⟩ dJ6_getChars_ba4f3_4 (by decide) rfl (fun c_18 => ?_) (fun c_18 => ?_)
    · refine g_iconst C dJ6_getChars_ba4f3_11 rfl ?_
      refine g_istore C (lv' := [(0, vI x), (1, vI i), (2, vR b), (5, vI i), (6, vI 0)]) [1, 2, 3, 4, 0] (by decide) rfl rfl dJ6_getChars_ba4f3_12 rfl ?_
      refine g_iload C 4 rfl dJ6_getChars_ba4f3_14 rfl ?_
      refine g_if_ne C (tgt := 22) ⟨by decide, by decide⟩ dJ6_getChars_ba4f3_16 (by decide) rfl (fun c_19 => ?_) (fun c_19 => ?_)
      · exact absurd c_19 (by decide)
      refine g_iload_n C 0 rfl dJ6_getChars_ba4f3_19 rfl ?_
      refine g_ineg C rfl dJ6_getChars_ba4f3_20 rfl ?_
      refine g_istore_n C (lv' := [(0, vI (-x)), (1, vI i), (2, vR b), (5, vI i), (6, vI 0)]) [0, 1, 2, 3, 4] (by decide) rfl rfl dJ6_getChars_ba4f3_21 rfl ?_
      refine g_iload_n C 0 rfl dJ6_getChars_ba4f3_22 rfl ?_
      refine g_bipush C (by decide) dJ6_getChars_ba4f3_23 rfl ?_
      refine g_icmp_gt C (tgt := 72) ⟨by omega, by omega⟩ ⟨by decide, by decide⟩ dJ6_getChars_ba4f3_25 (by decide) rfl (fun c_20 => ?_) (fun c_20 => ?_)
      · exfalso; omega
      refine g_iload_n C 0 rfl dJ6_getChars_ba4f3_28 rfl ?_
      refine g_bipush C (by decide) dJ6_getChars_ba4f3_29 rfl ?_
      refine g_idiv C ⟨by omega, by omega⟩ ⟨by decide, by decide⟩ (by decide) (by decide) rfl dJ6_getChars_ba4f3_31 rfl ?_
      refine g_istore_n C (lv' := [(0, vI (-x)), (1, vI i), (2, vR b), (3, vI (Int.tdiv (-x) 100)), (5, vI i), (6, vI 0)]) [1, 2, 3, 0, 4, 5] (by decide) rfl rfl dJ6_getChars_ba4f3_32 rfl ?_
      have td_21 : Int.tdiv (-x) 100 = -((-(-x)) / 100) := td100 (by omega)
      refine g_iload_n C 3 rfl dJ6_getChars_ba4f3_33 rfl ?_
      refine g_bipush C (by decide) dJ6_getChars_ba4f3_34 rfl ?_
      refine g_imul C rfl dJ6_getChars_ba4f3_36 rfl ?_
      refine g_iload_n C 0 rfl dJ6_getChars_ba4f3_37 rfl ?_
      refine g_isub C rfl dJ6_getChars_ba4f3_38 rfl ?_
      refine g_istore C (lv' := [(0, vI (-x)), (1, vI i), (2, vR b), (3, vI (Int.tdiv (-x) 100)), (4, vI (((Int.tdiv (-x) 100) * 100) - (-x))), (5, vI i), (6, vI 0)]) [1, 2, 3, 4, 0, 5, 6] (by decide) rfl rfl dJ6_getChars_ba4f3_39 rfl ?_
      refine g_iload_n C 3 rfl dJ6_getChars_ba4f3_41 rfl ?_
      refine g_istore_n C (lv' := [(0, vI (Int.tdiv (-x) 100)), (1, vI i), (2, vR b), (3, vI (Int.tdiv (-x) 100)), (4, vI (((Int.tdiv (-x) 100) * 100) - (-x))), (5, vI i), (6, vI 0)]) [0, 1, 2, 3, 4, 5, 6] (by decide) rfl rfl dJ6_getChars_ba4f3_42 rfl ?_
      refine g_aload_n C 2 rfl dJ6_getChars_ba4f3_43 rfl ?_
      refine g_iinc C (r := (i + (-1))) (lv' := [(0, vI (Int.tdiv (-x) 100)), (1, vI i), (2, vR b), (3, vI (Int.tdiv (-x) 100)), (4, vI (((Int.tdiv (-x) 100) * 100) - (-x))), (5, vI (i + (-1))), (6, vI 0)]) 5 [1, 2, 3, 4, 5, 0, 6] rfl rfl (by decide) rfl rfl dJ6_getChars_ba4f3_44 rfl ?_
      refine g_iload C 5 rfl dJ6_getChars_ba4f3_47 rfl ?_
      refine g_gets C C.2.2.1.2.2.2.2.1.1 w_J6_getChars_ba4f3_st83 rfl dJ6_getChars_ba4f3_49 rfl ?_
      refine g_iload C 4 rfl dJ6_getChars_ba4f3_52 rfl ?_
      refine g_tb C (N := 100) (a := dgO) C.2.2.1.2.2.2.2.1.2 (by omega) (by omega) (by decide) rfl dJ6_getChars_ba4f3_54 rfl ?_
      refine g_bast C 0 rfl (by omega) (by omega) (by omega) (narB ch_O) (ws' := [(b, cB E N (ua t (i + (-1)) (dgO (((Int.tdiv (-x) 100) * 100) - (-x)))))]) rfl dJ6_getChars_ba4f3_55 rfl ?_
      refine g_aload_n C 2 rfl dJ6_getChars_ba4f3_56 rfl ?_
      refine g_iinc C (r := ((i + (-1)) + (-1))) (lv' := [(0, vI (Int.tdiv (-x) 100)), (1, vI i), (2, vR b), (3, vI (Int.tdiv (-x) 100)), (4, vI (((Int.tdiv (-x) 100) * 100) - (-x))), (5, vI ((i + (-1)) + (-1))), (6, vI 0)]) 5 [1, 2, 3, 4, 5, 0, 6] rfl rfl (by decide) rfl rfl dJ6_getChars_ba4f3_57 rfl ?_
      refine g_iload C 5 rfl dJ6_getChars_ba4f3_60 rfl ?_
      refine g_gets C C.2.2.1.2.2.2.2.2.1.1 w_J6_getChars_ba4f3_st87 rfl dJ6_getChars_ba4f3_62 rfl ?_
      refine g_iload C 4 rfl dJ6_getChars_ba4f3_65 rfl ?_
      refine g_tb C (N := 100) (a := dgT) C.2.2.1.2.2.2.2.2.1.2 (by omega) (by omega) (by decide) rfl dJ6_getChars_ba4f3_67 rfl ?_
      refine g_bast C 0 rfl (by omega) (by omega) (by omega) (narB (ch_T ⟨by omega, by omega⟩)) (ws' := [(b, cB E N (ua (ua t (i + (-1)) (dgO (((Int.tdiv (-x) 100) * 100) - (-x)))) ((i + (-1)) + (-1)) (dgT (((Int.tdiv (-x) 100) * 100) - (-x)))))]) rfl dJ6_getChars_ba4f3_68 rfl ?_
      refine g_goto C (pc' := 22) dJ6_getChars_ba4f3_69 (by decide) ?_
      refine g_iload_n C 0 rfl dJ6_getChars_ba4f3_22 rfl ?_
      refine g_bipush C (by decide) dJ6_getChars_ba4f3_23 rfl ?_
      refine g_icmp_gt C (tgt := 72) ⟨by omega, by omega⟩ ⟨by decide, by decide⟩ dJ6_getChars_ba4f3_25 (by decide) rfl (fun c_22 => ?_) (fun c_22 => ?_)
      · refine g_aload_n C 2 rfl dJ6_getChars_ba4f3_72 rfl ?_
        refine g_iinc C (r := (((i + (-1)) + (-1)) + (-1))) (lv' := [(0, vI (Int.tdiv (-x) 100)), (1, vI i), (2, vR b), (3, vI (Int.tdiv (-x) 100)), (4, vI (((Int.tdiv (-x) 100) * 100) - (-x))), (5, vI (((i + (-1)) + (-1)) + (-1))), (6, vI 0)]) 5 [1, 2, 3, 4, 5, 0, 6] rfl rfl (by decide) rfl rfl dJ6_getChars_ba4f3_73 rfl ?_
        refine g_iload C 5 rfl dJ6_getChars_ba4f3_76 rfl ?_
        refine g_gets C C.2.2.1.2.2.2.2.1.1 w_J6_getChars_ba4f3_st83 rfl dJ6_getChars_ba4f3_78 rfl ?_
        refine g_iload_n C 0 rfl dJ6_getChars_ba4f3_81 rfl ?_
        refine g_ineg C rfl dJ6_getChars_ba4f3_82 rfl ?_
        refine g_tb C (N := 100) (a := dgO) C.2.2.1.2.2.2.2.1.2 (by omega) (by omega) (by decide) rfl dJ6_getChars_ba4f3_83 rfl ?_
        refine g_bast C 0 rfl (by omega) (by omega) (by omega) (narB ch_O) (ws' := [(b, cB E N (ua (ua (ua t (i + (-1)) (dgO (((Int.tdiv (-x) 100) * 100) - (-x)))) ((i + (-1)) + (-1)) (dgT (((Int.tdiv (-x) 100) * 100) - (-x)))) (((i + (-1)) + (-1)) + (-1)) (dgO (-(Int.tdiv (-x) 100)))))]) rfl dJ6_getChars_ba4f3_84 rfl ?_
        refine g_iload_n C 0 rfl dJ6_getChars_ba4f3_85 rfl ?_
        refine g_bipush C (by decide) dJ6_getChars_ba4f3_86 rfl ?_
        refine g_icmp_ge C (tgt := 104) ⟨by omega, by omega⟩ ⟨by decide, by decide⟩ dJ6_getChars_ba4f3_88 (by decide) rfl (fun c_23 => ?_) (fun c_23 => ?_)
        · exfalso; omega
        refine g_aload_n C 2 rfl dJ6_getChars_ba4f3_91 rfl ?_
        refine g_iinc C (r := ((((i + (-1)) + (-1)) + (-1)) + (-1))) (lv' := [(0, vI (Int.tdiv (-x) 100)), (1, vI i), (2, vR b), (3, vI (Int.tdiv (-x) 100)), (4, vI (((Int.tdiv (-x) 100) * 100) - (-x))), (5, vI ((((i + (-1)) + (-1)) + (-1)) + (-1))), (6, vI 0)]) 5 [1, 2, 3, 4, 5, 0, 6] rfl rfl (by decide) rfl rfl dJ6_getChars_ba4f3_92 rfl ?_
        refine g_iload C 5 rfl dJ6_getChars_ba4f3_95 rfl ?_
        refine g_gets C C.2.2.1.2.2.2.2.2.1.1 w_J6_getChars_ba4f3_st87 rfl dJ6_getChars_ba4f3_97 rfl ?_
        refine g_iload_n C 0 rfl dJ6_getChars_ba4f3_100 rfl ?_
        refine g_ineg C rfl dJ6_getChars_ba4f3_101 rfl ?_
        refine g_tb C (N := 100) (a := dgT) C.2.2.1.2.2.2.2.2.1.2 (by omega) (by omega) (by decide) rfl dJ6_getChars_ba4f3_102 rfl ?_
        refine g_bast C 0 rfl (by omega) (by omega) (by omega) (narB (ch_T ⟨by omega, by omega⟩)) (ws' := [(b, cB E N (ua (ua (ua (ua t (i + (-1)) (dgO (((Int.tdiv (-x) 100) * 100) - (-x)))) ((i + (-1)) + (-1)) (dgT (((Int.tdiv (-x) 100) * 100) - (-x)))) (((i + (-1)) + (-1)) + (-1)) (dgO (-(Int.tdiv (-x) 100)))) ((((i + (-1)) + (-1)) + (-1)) + (-1)) (dgT (-(Int.tdiv (-x) 100)))))]) rfl dJ6_getChars_ba4f3_103 rfl ?_
        refine g_iload C 6 rfl dJ6_getChars_ba4f3_104 rfl ?_
        refine g_if_eq C (tgt := 118) ⟨by decide, by decide⟩ dJ6_getChars_ba4f3_106 (by decide) rfl (fun c_24 => ?_) (fun c_24 => ?_)
        · refine g_iload C 5 rfl dJ6_getChars_ba4f3_118 rfl ?_
          exact g_iret C hr rfl (Nat.le_of_ble_eq_true rfl) (Nat.le_of_ble_eq_true rfl) dJ6_getChars_ba4f3_120 ⟨((((i + (-1)) + (-1)) + (-1)) + (-1)), (ua (ua (ua (ua t (i + (-1)) (dgO (((Int.tdiv (-x) 100) * 100) - (-x)))) ((i + (-1)) + (-1)) (dgT (((Int.tdiv (-x) 100) * 100) - (-x)))) (((i + (-1)) + (-1)) + (-1)) (dgO (-(Int.tdiv (-x) 100)))) ((((i + (-1)) + (-1)) + (-1)) + (-1)) (dgT (-(Int.tdiv (-x) 100)))), rfl, rfl, (by repeat (first | exact hb | refine BX_u ?_ (by first | exact ch_O | exact ch_T ⟨by omega, by omega⟩ | exact ⟨by decide, by decide⟩))), (by rw [dgs_p4 (v := x) (by omega)]; exact gc_4 (n := (L.length : Int)) rfl (TX_c hT (fun k h0 h1 => by unfold ua; (repeat' split) <;> first | rfl | omega)) (by unfold ua; (try unfold dgO); (try unfold dgT); (repeat' split) <;> omega) (by unfold ua; (try unfold dgO); (try unfold dgT); (repeat' split) <;> omega) (by unfold ua; (try unfold dgO); (try unfold dgT); (repeat' split) <;> omega) (by unfold ua; (try unfold dgO); (try unfold dgT); (repeat' split) <;> omega))⟩
        exact absurd c_24 (by decide)
      exfalso; omega
    exfalso; omega
  · refine g_iload_n C 1 rfl dJ6_getChars_ba4f3_0 rfl ?_
    refine g_istore C (lv' := [(0, vI x), (1, vI i), (2, vR b), (5, vI i)]) [1, 2, 3, 0] (by decide) rfl rfl dJ6_getChars_ba4f3_1 rfl ?_
    refine g_iload_n C 0 rfl dJ6_getChars_ba4f3_3 rfl ?_
    refine g_if_ge C (tgt := 11) ⟨by omega, by omega⟩ dJ6_getChars_ba4f3_4 (by decide) rfl (fun c_25 => ?_) (fun c_25 => ?_)
    · refine g_iconst C dJ6_getChars_ba4f3_11 rfl ?_
      refine g_istore C (lv' := [(0, vI x), (1, vI i), (2, vR b), (5, vI i), (6, vI 0)]) [1, 2, 3, 4, 0] (by decide) rfl rfl dJ6_getChars_ba4f3_12 rfl ?_
      refine g_iload C 4 rfl dJ6_getChars_ba4f3_14 rfl ?_
      refine g_if_ne C (tgt := 22) ⟨by decide, by decide⟩ dJ6_getChars_ba4f3_16 (by decide) rfl (fun c_26 => ?_) (fun c_26 => ?_)
      · exact absurd c_26 (by decide)
      refine g_iload_n C 0 rfl dJ6_getChars_ba4f3_19 rfl ?_
      refine g_ineg C rfl dJ6_getChars_ba4f3_20 rfl ?_
      refine g_istore_n C (lv' := [(0, vI (-x)), (1, vI i), (2, vR b), (5, vI i), (6, vI 0)]) [0, 1, 2, 3, 4] (by decide) rfl rfl dJ6_getChars_ba4f3_21 rfl ?_
      refine g_iload_n C 0 rfl dJ6_getChars_ba4f3_22 rfl ?_
      refine g_bipush C (by decide) dJ6_getChars_ba4f3_23 rfl ?_
      refine g_icmp_gt C (tgt := 72) ⟨by omega, by omega⟩ ⟨by decide, by decide⟩ dJ6_getChars_ba4f3_25 (by decide) rfl (fun c_27 => ?_) (fun c_27 => ?_)
      · exfalso; omega
      refine g_iload_n C 0 rfl dJ6_getChars_ba4f3_28 rfl ?_
      refine g_bipush C (by decide) dJ6_getChars_ba4f3_29 rfl ?_
      refine g_idiv C ⟨by omega, by omega⟩ ⟨by decide, by decide⟩ (by decide) (by decide) rfl dJ6_getChars_ba4f3_31 rfl ?_
      refine g_istore_n C (lv' := [(0, vI (-x)), (1, vI i), (2, vR b), (3, vI (Int.tdiv (-x) 100)), (5, vI i), (6, vI 0)]) [1, 2, 3, 0, 4, 5] (by decide) rfl rfl dJ6_getChars_ba4f3_32 rfl ?_
      have td_28 : Int.tdiv (-x) 100 = -((-(-x)) / 100) := td100 (by omega)
      refine g_iload_n C 3 rfl dJ6_getChars_ba4f3_33 rfl ?_
      refine g_bipush C (by decide) dJ6_getChars_ba4f3_34 rfl ?_
      refine g_imul C rfl dJ6_getChars_ba4f3_36 rfl ?_
      refine g_iload_n C 0 rfl dJ6_getChars_ba4f3_37 rfl ?_
      refine g_isub C rfl dJ6_getChars_ba4f3_38 rfl ?_
      refine g_istore C (lv' := [(0, vI (-x)), (1, vI i), (2, vR b), (3, vI (Int.tdiv (-x) 100)), (4, vI (((Int.tdiv (-x) 100) * 100) - (-x))), (5, vI i), (6, vI 0)]) [1, 2, 3, 4, 0, 5, 6] (by decide) rfl rfl dJ6_getChars_ba4f3_39 rfl ?_
      refine g_iload_n C 3 rfl dJ6_getChars_ba4f3_41 rfl ?_
      refine g_istore_n C (lv' := [(0, vI (Int.tdiv (-x) 100)), (1, vI i), (2, vR b), (3, vI (Int.tdiv (-x) 100)), (4, vI (((Int.tdiv (-x) 100) * 100) - (-x))), (5, vI i), (6, vI 0)]) [0, 1, 2, 3, 4, 5, 6] (by decide) rfl rfl dJ6_getChars_ba4f3_42 rfl ?_
      refine g_aload_n C 2 rfl dJ6_getChars_ba4f3_43 rfl ?_
      refine g_iinc C (r := (i + (-1))) (lv' := [(0, vI (Int.tdiv (-x) 100)), (1, vI i), (2, vR b), (3, vI (Int.tdiv (-x) 100)), (4, vI (((Int.tdiv (-x) 100) * 100) - (-x))), (5, vI (i + (-1))), (6, vI 0)]) 5 [1, 2, 3, 4, 5, 0, 6] rfl rfl (by decide) rfl rfl dJ6_getChars_ba4f3_44 rfl ?_
      refine g_iload C 5 rfl dJ6_getChars_ba4f3_47 rfl ?_
      refine g_gets C C.2.2.1.2.2.2.2.1.1 w_J6_getChars_ba4f3_st83 rfl dJ6_getChars_ba4f3_49 rfl ?_
      refine g_iload C 4 rfl dJ6_getChars_ba4f3_52 rfl ?_
      refine g_tb C (N := 100) (a := dgO) C.2.2.1.2.2.2.2.1.2 (by omega) (by omega) (by decide) rfl dJ6_getChars_ba4f3_54 rfl ?_
      refine g_bast C 0 rfl (by omega) (by omega) (by omega) (narB ch_O) (ws' := [(b, cB E N (ua t (i + (-1)) (dgO (((Int.tdiv (-x) 100) * 100) - (-x)))))]) rfl dJ6_getChars_ba4f3_55 rfl ?_
      refine g_aload_n C 2 rfl dJ6_getChars_ba4f3_56 rfl ?_
      refine g_iinc C (r := ((i + (-1)) + (-1))) (lv' := [(0, vI (Int.tdiv (-x) 100)), (1, vI i), (2, vR b), (3, vI (Int.tdiv (-x) 100)), (4, vI (((Int.tdiv (-x) 100) * 100) - (-x))), (5, vI ((i + (-1)) + (-1))), (6, vI 0)]) 5 [1, 2, 3, 4, 5, 0, 6] rfl rfl (by decide) rfl rfl dJ6_getChars_ba4f3_57 rfl ?_
      refine g_iload C 5 rfl dJ6_getChars_ba4f3_60 rfl ?_
      refine g_gets C C.2.2.1.2.2.2.2.2.1.1 w_J6_getChars_ba4f3_st87 rfl dJ6_getChars_ba4f3_62 rfl ?_
      refine g_iload C 4 rfl dJ6_getChars_ba4f3_65 rfl ?_
      refine g_tb C (N := 100) (a := dgT) C.2.2.1.2.2.2.2.2.1.2 (by omega) (by omega) (by decide) rfl dJ6_getChars_ba4f3_67 rfl ?_
      refine g_bast C 0 rfl (by omega) (by omega) (by omega) (narB (ch_T ⟨by omega, by omega⟩)) (ws' := [(b, cB E N (ua (ua t (i + (-1)) (dgO (((Int.tdiv (-x) 100) * 100) - (-x)))) ((i + (-1)) + (-1)) (dgT (((Int.tdiv (-x) 100) * 100) - (-x)))))]) rfl dJ6_getChars_ba4f3_68 rfl ?_
      refine g_goto C (pc' := 22) dJ6_getChars_ba4f3_69 (by decide) ?_
      refine g_iload_n C 0 rfl dJ6_getChars_ba4f3_22 rfl ?_
      refine g_bipush C (by decide) dJ6_getChars_ba4f3_23 rfl ?_
      refine g_icmp_gt C (tgt := 72) ⟨by omega, by omega⟩ ⟨by decide, by decide⟩ dJ6_getChars_ba4f3_25 (by decide) rfl (fun c_29 => ?_) (fun c_29 => ?_)
      · exfalso; omega
      refine g_iload_n C 0 rfl dJ6_getChars_ba4f3_28 rfl ?_
      refine g_bipush C (by decide) dJ6_getChars_ba4f3_29 rfl ?_
      refine g_idiv C ⟨by omega, by omega⟩ ⟨by decide, by decide⟩ (by decide) (by decide) rfl dJ6_getChars_ba4f3_31 rfl ?_
      refine g_istore_n C (lv' := [(0, vI (Int.tdiv (-x) 100)), (1, vI i), (2, vR b), (3, vI (Int.tdiv (Int.tdiv (-x) 100) 100)), (4, vI (((Int.tdiv (-x) 100) * 100) - (-x))), (5, vI ((i + (-1)) + (-1))), (6, vI 0)]) [1, 2, 3, 0, 4, 5, 6] (by decide) rfl rfl dJ6_getChars_ba4f3_32 rfl ?_
      have td_30 : Int.tdiv (Int.tdiv (-x) 100) 100 = -((-(Int.tdiv (-x) 100)) / 100) := td100 (by omega)
      refine g_iload_n C 3 rfl dJ6_getChars_ba4f3_33 rfl ?_
      refine g_bipush C (by decide) dJ6_getChars_ba4f3_34 rfl ?_
      refine g_imul C rfl dJ6_getChars_ba4f3_36 rfl ?_
      refine g_iload_n C 0 rfl dJ6_getChars_ba4f3_37 rfl ?_
      refine g_isub C rfl dJ6_getChars_ba4f3_38 rfl ?_
      refine g_istore C (lv' := [(0, vI (Int.tdiv (-x) 100)), (1, vI i), (2, vR b), (3, vI (Int.tdiv (Int.tdiv (-x) 100) 100)), (4, vI (((Int.tdiv (Int.tdiv (-x) 100) 100) * 100) - (Int.tdiv (-x) 100))), (5, vI ((i + (-1)) + (-1))), (6, vI 0)]) [1, 2, 3, 4, 0, 5, 6] (by decide) rfl rfl dJ6_getChars_ba4f3_39 rfl ?_
      refine g_iload_n C 3 rfl dJ6_getChars_ba4f3_41 rfl ?_
      refine g_istore_n C (lv' := [(0, vI (Int.tdiv (Int.tdiv (-x) 100) 100)), (1, vI i), (2, vR b), (3, vI (Int.tdiv (Int.tdiv (-x) 100) 100)), (4, vI (((Int.tdiv (Int.tdiv (-x) 100) 100) * 100) - (Int.tdiv (-x) 100))), (5, vI ((i + (-1)) + (-1))), (6, vI 0)]) [0, 1, 2, 3, 4, 5, 6] (by decide) rfl rfl dJ6_getChars_ba4f3_42 rfl ?_
      refine g_aload_n C 2 rfl dJ6_getChars_ba4f3_43 rfl ?_
      refine g_iinc C (r := (((i + (-1)) + (-1)) + (-1))) (lv' := [(0, vI (Int.tdiv (Int.tdiv (-x) 100) 100)), (1, vI i), (2, vR b), (3, vI (Int.tdiv (Int.tdiv (-x) 100) 100)), (4, vI (((Int.tdiv (Int.tdiv (-x) 100) 100) * 100) - (Int.tdiv (-x) 100))), (5, vI (((i + (-1)) + (-1)) + (-1))), (6, vI 0)]) 5 [1, 2, 3, 4, 5, 0, 6] rfl rfl (by decide) rfl rfl dJ6_getChars_ba4f3_44 rfl ?_
      refine g_iload C 5 rfl dJ6_getChars_ba4f3_47 rfl ?_
      refine g_gets C C.2.2.1.2.2.2.2.1.1 w_J6_getChars_ba4f3_st83 rfl dJ6_getChars_ba4f3_49 rfl ?_
      refine g_iload C 4 rfl dJ6_getChars_ba4f3_52 rfl ?_
      refine g_tb C (N := 100) (a := dgO) C.2.2.1.2.2.2.2.1.2 (by omega) (by omega) (by decide) rfl dJ6_getChars_ba4f3_54 rfl ?_
      refine g_bast C 0 rfl (by omega) (by omega) (by omega) (narB ch_O) (ws' := [(b, cB E N (ua (ua (ua t (i + (-1)) (dgO (((Int.tdiv (-x) 100) * 100) - (-x)))) ((i + (-1)) + (-1)) (dgT (((Int.tdiv (-x) 100) * 100) - (-x)))) (((i + (-1)) + (-1)) + (-1)) (dgO (((Int.tdiv (Int.tdiv (-x) 100) 100) * 100) - (Int.tdiv (-x) 100)))))]) rfl dJ6_getChars_ba4f3_55 rfl ?_
      refine g_aload_n C 2 rfl dJ6_getChars_ba4f3_56 rfl ?_
      refine g_iinc C (r := ((((i + (-1)) + (-1)) + (-1)) + (-1))) (lv' := [(0, vI (Int.tdiv (Int.tdiv (-x) 100) 100)), (1, vI i), (2, vR b), (3, vI (Int.tdiv (Int.tdiv (-x) 100) 100)), (4, vI (((Int.tdiv (Int.tdiv (-x) 100) 100) * 100) - (Int.tdiv (-x) 100))), (5, vI ((((i + (-1)) + (-1)) + (-1)) + (-1))), (6, vI 0)]) 5 [1, 2, 3, 4, 5, 0, 6] rfl rfl (by decide) rfl rfl dJ6_getChars_ba4f3_57 rfl ?_
      refine g_iload C 5 rfl dJ6_getChars_ba4f3_60 rfl ?_
      refine g_gets C C.2.2.1.2.2.2.2.2.1.1 w_J6_getChars_ba4f3_st87 rfl dJ6_getChars_ba4f3_62 rfl ?_
      refine g_iload C 4 rfl dJ6_getChars_ba4f3_65 rfl ?_
      refine g_tb C (N := 100) (a := dgT) C.2.2.1.2.2.2.2.2.1.2 (by omega) (by omega) (by decide) rfl dJ6_getChars_ba4f3_67 rfl ?_
      refine g_bast C 0 rfl (by omega) (by omega) (by omega) (narB (ch_T ⟨by omega, by omega⟩)) (ws' := [(b, cB E N (ua (ua (ua (ua t (i + (-1)) (dgO (((Int.tdiv (-x) 100) * 100) - (-x)))) ((i + (-1)) + (-1)) (dgT (((Int.tdiv (-x) 100) * 100) - (-x)))) (((i + (-1)) + (-1)) + (-1)) (dgO (((Int.tdiv (Int.tdiv (-x) 100) 100) * 100) - (Int.tdiv (-x) 100)))) ((((i + (-1)) + (-1)) + (-1)) + (-1)) (dgT (((Int.tdiv (Int.tdiv (-x) 100) 100) * 100) - (Int.tdiv (-x) 100)))))]) rfl dJ6_getChars_ba4f3_68 rfl ?_
      refine g_goto C (pc' := 22) dJ6_getChars_ba4f3_69 (by decide) ?_
      refine g_iload_n C 0 rfl dJ6_getChars_ba4f3_22 rfl ?_
      refine g_bipush C (by decide) dJ6_getChars_ba4f3_23 rfl ?_
      refine g_icmp_gt C (tgt := 72) ⟨by omega, by omega⟩ ⟨by decide, by decide⟩ dJ6_getChars_ba4f3_25 (by decide) rfl (fun c_31 => ?_) (fun c_31 => ?_)
      · refine g_aload_n C 2 rfl dJ6_getChars_ba4f3_72 rfl ?_
        refine g_iinc C (r := (((((i + (-1)) + (-1)) + (-1)) + (-1)) + (-1))) (lv' := [(0, vI (Int.tdiv (Int.tdiv (-x) 100) 100)), (1, vI i), (2, vR b), (3, vI (Int.tdiv (Int.tdiv (-x) 100) 100)), (4, vI (((Int.tdiv (Int.tdiv (-x) 100) 100) * 100) - (Int.tdiv (-x) 100))), (5, vI (((((i + (-1)) + (-1)) + (-1)) + (-1)) + (-1))), (6, vI 0)]) 5 [1, 2, 3, 4, 5, 0, 6] rfl rfl (by decide) rfl rfl dJ6_getChars_ba4f3_73 rfl ?_
        refine g_iload C 5 rfl dJ6_getChars_ba4f3_76 rfl ?_
        refine g_gets C C.2.2.1.2.2.2.2.1.1 w_J6_getChars_ba4f3_st83 rfl dJ6_getChars_ba4f3_78 rfl ?_
        refine g_iload_n C 0 rfl dJ6_getChars_ba4f3_81 rfl ?_
        refine g_ineg C rfl dJ6_getChars_ba4f3_82 rfl ?_
        refine g_tb C (N := 100) (a := dgO) C.2.2.1.2.2.2.2.1.2 (by omega) (by omega) (by decide) rfl dJ6_getChars_ba4f3_83 rfl ?_
        refine g_bast C 0 rfl (by omega) (by omega) (by omega) (narB ch_O) (ws' := [(b, cB E N (ua (ua (ua (ua (ua t (i + (-1)) (dgO (((Int.tdiv (-x) 100) * 100) - (-x)))) ((i + (-1)) + (-1)) (dgT (((Int.tdiv (-x) 100) * 100) - (-x)))) (((i + (-1)) + (-1)) + (-1)) (dgO (((Int.tdiv (Int.tdiv (-x) 100) 100) * 100) - (Int.tdiv (-x) 100)))) ((((i + (-1)) + (-1)) + (-1)) + (-1)) (dgT (((Int.tdiv (Int.tdiv (-x) 100) 100) * 100) - (Int.tdiv (-x) 100)))) (((((i + (-1)) + (-1)) + (-1)) + (-1)) + (-1)) (dgO (-(Int.tdiv (Int.tdiv (-x) 100) 100)))))]) rfl dJ6_getChars_ba4f3_84 rfl ?_
        refine g_iload_n C 0 rfl dJ6_getChars_ba4f3_85 rfl ?_
        refine g_bipush C (by decide) dJ6_getChars_ba4f3_86 rfl ?_
        refine g_icmp_ge C (tgt := 104) ⟨by omega, by omega⟩ ⟨by decide, by decide⟩ dJ6_getChars_ba4f3_88 (by decide) rfl (fun c_32 => ?_) (fun c_32 => ?_)
        · refine g_iload C 6 rfl dJ6_getChars_ba4f3_104 rfl ?_
          refine g_if_eq C (tgt := 118) ⟨by decide, by decide⟩ dJ6_getChars_ba4f3_106 (by decide) rfl (fun c_33 => ?_) (fun c_33 => ?_)
          · refine g_iload C 5 rfl dJ6_getChars_ba4f3_118 rfl ?_
            exact g_iret C hr rfl (Nat.le_of_ble_eq_true rfl) (Nat.le_of_ble_eq_true rfl) dJ6_getChars_ba4f3_120 ⟨(((((i + (-1)) + (-1)) + (-1)) + (-1)) + (-1)), (ua (ua (ua (ua (ua t (i + (-1)) (dgO (((Int.tdiv (-x) 100) * 100) - (-x)))) ((i + (-1)) + (-1)) (dgT (((Int.tdiv (-x) 100) * 100) - (-x)))) (((i + (-1)) + (-1)) + (-1)) (dgO (((Int.tdiv (Int.tdiv (-x) 100) 100) * 100) - (Int.tdiv (-x) 100)))) ((((i + (-1)) + (-1)) + (-1)) + (-1)) (dgT (((Int.tdiv (Int.tdiv (-x) 100) 100) * 100) - (Int.tdiv (-x) 100)))) (((((i + (-1)) + (-1)) + (-1)) + (-1)) + (-1)) (dgO (-(Int.tdiv (Int.tdiv (-x) 100) 100)))), rfl, rfl, (by repeat (first | exact hb | refine BX_u ?_ (by first | exact ch_O | exact ch_T ⟨by omega, by omega⟩ | exact ⟨by decide, by decide⟩))), (by rw [dgs_p5 (v := x) (by omega)]; exact gc_5 (n := (L.length : Int)) rfl (TX_c hT (fun k h0 h1 => by unfold ua; (repeat' split) <;> first | rfl | omega)) (by unfold ua; (try unfold dgO); (try unfold dgT); (repeat' split) <;> omega) (by unfold ua; (try unfold dgO); (try unfold dgT); (repeat' split) <;> omega) (by unfold ua; (try unfold dgO); (try unfold dgT); (repeat' split) <;> omega) (by unfold ua; (try unfold dgO); (try unfold dgT); (repeat' split) <;> omega) (by unfold ua; (try unfold dgO); (try unfold dgT); (repeat' split) <;> omega))⟩
          exact absurd c_33 (by decide)
        exfalso; omega
      exfalso; omega
    exfalso; omega
  · refine g_iload_n C 1 rfl dJ6_getChars_ba4f3_0 rfl ?_
    refine g_istore C (lv' := [(0, vI x), (1, vI i), (2, vR b), (5, vI i)]) [1, 2, 3, 0] (by decide) rfl rfl dJ6_getChars_ba4f3_1 rfl ?_
    refine g_iload_n C 0 rfl dJ6_getChars_ba4f3_3 rfl ?_
    refine g_if_ge C (tgt := 11) ⟨by omega, by omega⟩ dJ6_getChars_ba4f3_4 (by decide) rfl (fun c_34 => ?_) (fun c_34 => ?_)
    · exfalso; omega
    refine g_iconst C dJ6_getChars_ba4f3_7 rfl ?_
    refine g_goto C (pc' := 12) dJ6_getChars_ba4f3_8 (by decide) ?_
    refine g_istore C (lv' := [(0, vI x), (1, vI i), (2, vR b), (5, vI i), (6, vI 1)]) [1, 2, 3, 4, 0] (by decide) rfl rfl dJ6_getChars_ba4f3_12 rfl ?_
    refine g_iload C 4 rfl dJ6_getChars_ba4f3_14 rfl ?_
    refine g_if_ne C (tgt := 22) ⟨by decide, by decide⟩ dJ6_getChars_ba4f3_16 (by decide) rfl (fun c_35 => ?_) (fun c_35 => ?_)
    · refine g_iload_n C 0 rfl dJ6_getChars_ba4f3_22 rfl ?_
      refine g_bipush C (by decide) dJ6_getChars_ba4f3_23 rfl ?_
      refine g_icmp_gt C (tgt := 72) ⟨by omega, by omega⟩ ⟨by decide, by decide⟩ dJ6_getChars_ba4f3_25 (by decide) rfl (fun c_36 => ?_) (fun c_36 => ?_)
      · refine g_aload_n C 2 rfl dJ6_getChars_ba4f3_72 rfl ?_
        refine g_iinc C (r := (i + (-1))) (lv' := [(0, vI x), (1, vI i), (2, vR b), (5, vI (i + (-1))), (6, vI 1)]) 3 [1, 2, 3, 0, 4] rfl rfl (by decide) rfl rfl dJ6_getChars_ba4f3_73 rfl ?_
        refine g_iload C 3 rfl dJ6_getChars_ba4f3_76 rfl ?_
        refine g_gets C C.2.2.1.2.2.2.2.1.1 w_J6_getChars_ba4f3_st83 rfl dJ6_getChars_ba4f3_78 rfl ?_
        refine g_iload_n C 0 rfl dJ6_getChars_ba4f3_81 rfl ?_
        refine g_ineg C rfl dJ6_getChars_ba4f3_82 rfl ?_
        refine g_tb C (N := 100) (a := dgO) C.2.2.1.2.2.2.2.1.2 (by omega) (by omega) (by decide) rfl dJ6_getChars_ba4f3_83 rfl ?_
        refine g_bast C 0 rfl (by omega) (by omega) (by omega) (narB ch_O) (ws' := [(b, cB E N (ua t (i + (-1)) (dgO (-x))))]) rfl dJ6_getChars_ba4f3_84 rfl ?_
        refine g_iload_n C 0 rfl dJ6_getChars_ba4f3_85 rfl ?_
        refine g_bipush C (by decide) dJ6_getChars_ba4f3_86 rfl ?_
        refine g_icmp_ge C (tgt := 104) ⟨by omega, by omega⟩ ⟨by decide, by decide⟩ dJ6_getChars_ba4f3_88 (by decide) rfl (fun c_37 => ?_) (fun c_37 => ?_)
        · refine g_iload C 4 rfl dJ6_getChars_ba4f3_104 rfl ?_
          refine g_if_eq C (tgt := 118) ⟨by decide, by decide⟩ dJ6_getChars_ba4f3_106 (by decide) rfl (fun c_38 => ?_) (fun c_38 => ?_)
          · exact absurd c_38 (by decide)
          refine g_aload_n C 2 rfl dJ6_getChars_ba4f3_109 rfl ?_
          refine g_iinc C (r := ((i + (-1)) + (-1))) (lv' := [(0, vI x), (1, vI i), (2, vR b), (5, vI ((i + (-1)) + (-1))), (6, vI 1)]) 3 [1, 2, 3, 0, 4] rfl rfl (by decide) rfl rfl dJ6_getChars_ba4f3_110 rfl ?_
          refine g_iload C 3 rfl dJ6_getChars_ba4f3_113 rfl ?_
          refine g_bipush C (by decide) dJ6_getChars_ba4f3_115 rfl ?_
          refine g_bast C 0 rfl (by omega) (by omega) (by omega) (by decide) (ws' := [(b, cB E N (ua (ua t (i + (-1)) (dgO (-x))) ((i + (-1)) + (-1)) 45))]) rfl dJ6_getChars_ba4f3_117 rfl ?_
          refine g_iload C 3 rfl dJ6_getChars_ba4f3_118 rfl ?_
          exact g_iret C hr rfl (Nat.le_of_ble_eq_true rfl) (Nat.le_of_ble_eq_true rfl) dJ6_getChars_ba4f3_120 ⟨((i + (-1)) + (-1)), (ua (ua t (i + (-1)) (dgO (-x))) ((i + (-1)) + (-1)) 45), rfl, rfl, (by repeat (first | exact hb | refine BX_u ?_ (by first | exact ch_O | exact ch_T ⟨by omega, by omega⟩ | exact ⟨by decide, by decide⟩))), (by rw [dgs_n (by omega), dgs_p1 (v := (-x)) (by omega)]; exact gc_2 (n := (L.length : Int)) rfl (TX_c hT (fun k h0 h1 => by unfold ua; (repeat' split) <;> first | rfl | omega)) (by unfold ua; (try unfold dgO); (try unfold dgT); (repeat' split) <;> omega) (by unfold ua; (try unfold dgO); (try unfold dgT); (repeat' split) <;> omega))⟩
        exfalso; omega
      exfalso; omega
    exact absurd c_35 (by decide)
  · refine g_iload_n C 1 rfl dJ6_getChars_ba4f3_0 rfl ?_
    refine g_istore C (lv' := [(0, vI x), (1, vI i), (2, vR b), (5, vI i)]) [1, 2, 3, 0] (by decide) rfl rfl dJ6_getChars_ba4f3_1 rfl ?_
    refine g_iload_n C 0 rfl dJ6_getChars_ba4f3_3 rfl ?_
    refine g_if_ge C (tgt := 11) ⟨by omega, by omega⟩ dJ6_getChars_ba4f3_4 (by decide) rfl (fun c_39 => ?_) (fun c_39 => ?_)
    · exfalso; omega
    refine g_iconst C dJ6_getChars_ba4f3_7 rfl ?_
    refine g_goto C (pc' := 12) dJ6_getChars_ba4f3_8 (by decide) ?_
    refine g_istore C (lv' := [(0, vI x), (1, vI i), (2, vR b), (5, vI i), (6, vI 1)]) [1, 2, 3, 4, 0] (by decide) rfl rfl dJ6_getChars_ba4f3_12 rfl ?_
    refine g_iload C 4 rfl dJ6_getChars_ba4f3_14 rfl ?_
    refine g_if_ne C (tgt := 22) ⟨by decide, by decide⟩ dJ6_getChars_ba4f3_16 (by decide) rfl (fun c_40 => ?_) (fun c_40 => ?_)
    · refine g_iload_n C 0 rfl dJ6_getChars_ba4f3_22 rfl ?_
      refine g_bipush C (by decide) dJ6_getChars_ba4f3_23 rfl ?_
      refine g_icmp_gt C (tgt := 72) ⟨by omega, by omega⟩ ⟨by decide, by decide⟩ dJ6_getChars_ba4f3_25 (by decide) rfl (fun c_41 => ?_) (fun c_41 => ?_)
      · refine g_aload_n C 2 rfl dJ6_getChars_ba4f3_72 rfl ?_
        refine g_iinc C (r := (i + (-1))) (lv' := [(0, vI x), (1, vI i), (2, vR b), (5, vI (i + (-1))), (6, vI 1)]) 3 [1, 2, 3, 0, 4] rfl rfl (by decide) rfl rfl dJ6_getChars_ba4f3_73 rfl ?_
        refine g_iload C 3 rfl dJ6_getChars_ba4f3_76 rfl ?_
        refine g_gets C C.2.2.1.2.2.2.2.1.1 w_J6_getChars_ba4f3_st83 rfl dJ6_getChars_ba4f3_78 rfl ?_
        refine g_iload_n C 0 rfl dJ6_getChars_ba4f3_81 rfl ?_
        refine g_ineg C rfl dJ6_getChars_ba4f3_82 rfl ?_
        refine g_tb C (N := 100) (a := dgO) C.2.2.1.2.2.2.2.1.2 (by omega) (by omega) (by decide) rfl dJ6_getChars_ba4f3_83 rfl ?_
        refine g_bast C 0 rfl (by omega) (by omega) (by omega) (narB ch_O) (ws' := [(b, cB E N (ua t (i + (-1)) (dgO (-x))))]) rfl dJ6_getChars_ba4f3_84 rfl ?_
        refine g_iload_n C 0 rfl dJ6_getChars_ba4f3_85 rfl ?_
        refine g_bipush C (by decide) dJ6_getChars_ba4f3_86 rfl ?_
        refine g_icmp_ge C (tgt := 104) ⟨by omega, by omega⟩ ⟨by decide, by decide⟩ dJ6_getChars_ba4f3_88 (by decide) rfl (fun c_42 => ?_) (fun c_42 => ?_)
        · exfalso; omega
        refine g_aload_n C 2 rfl dJ6_getChars_ba4f3_91 rfl ?_
        refine g_iinc C (r := ((i + (-1)) + (-1))) (lv' := [(0, vI x), (1, vI i), (2, vR b), (5, vI ((i + (-1)) + (-1))), (6, vI 1)]) 3 [1, 2, 3, 0, 4] rfl rfl (by decide) rfl rfl dJ6_getChars_ba4f3_92 rfl ?_
        refine g_iload C 3 rfl dJ6_getChars_ba4f3_95 rfl ?_
        refine g_gets C C.2.2.1.2.2.2.2.2.1.1 w_J6_getChars_ba4f3_st87 rfl dJ6_getChars_ba4f3_97 rfl ?_
        refine g_iload_n C 0 rfl dJ6_getChars_ba4f3_100 rfl ?_
        refine g_ineg C rfl dJ6_getChars_ba4f3_101 rfl ?_
        refine g_tb C (N := 100) (a := dgT) C.2.2.1.2.2.2.2.2.1.2 (by omega) (by omega) (by decide) rfl dJ6_getChars_ba4f3_102 rfl ?_
        refine g_bast C 0 rfl (by omega) (by omega) (by omega) (narB (ch_T ⟨by omega, by omega⟩)) (ws' := [(b, cB E N (ua (ua t (i + (-1)) (dgO (-x))) ((i + (-1)) + (-1)) (dgT (-x))))]) rfl dJ6_getChars_ba4f3_103 rfl ?_
        refine g_iload C 4 rfl dJ6_getChars_ba4f3_104 rfl ?_
        refine g_if_eq C (tgt := 118) ⟨by decide, by decide⟩ dJ6_getChars_ba4f3_106 (by decide) rfl (fun c_43 => ?_) (fun c_43 => ?_)
        · exact absurd c_43 (by decide)
        refine g_aload_n C 2 rfl dJ6_getChars_ba4f3_109 rfl ?_
        refine g_iinc C (r := (((i + (-1)) + (-1)) + (-1))) (lv' := [(0, vI x), (1, vI i), (2, vR b), (5, vI (((i + (-1)) + (-1)) + (-1))), (6, vI 1)]) 3 [1, 2, 3, 0, 4] rfl rfl (by decide) rfl rfl dJ6_getChars_ba4f3_110 rfl ?_
        refine g_iload C 3 rfl dJ6_getChars_ba4f3_113 rfl ?_
        refine g_bipush C (by decide) dJ6_getChars_ba4f3_115 rfl ?_
        refine g_bast C 0 rfl (by omega) (by omega) (by omega) (by decide) (ws' := [(b, cB E N (ua (ua (ua t (i + (-1)) (dgO (-x))) ((i + (-1)) + (-1)) (dgT (-x))) (((i + (-1)) + (-1)) + (-1)) 45))]) rfl dJ6_getChars_ba4f3_117 rfl ?_
        refine g_iload C 3 rfl dJ6_getChars_ba4f3_118 rfl ?_
        exact g_iret C hr rfl (Nat.le_of_ble_eq_true rfl) (Nat.le_of_ble_eq_true rfl) dJ6_getChars_ba4f3_120 ⟨(((i + (-1)) + (-1)) + (-1)), (ua (ua (ua t (i + (-1)) (dgO (-x))) ((i + (-1)) + (-1)) (dgT (-x))) (((i + (-1)) + (-1)) + (-1)) 45), rfl, rfl, (by repeat (first | exact hb | refine BX_u ?_ (by first | exact ch_O | exact ch_T ⟨by omega, by omega⟩ | exact ⟨by decide, by decide⟩))), (by rw [dgs_n (by omega), dgs_p2 (v := (-x)) (by omega)]; exact gc_3 (n := (L.length : Int)) rfl (TX_c hT (fun k h0 h1 => by unfold ua; (repeat' split) <;> first | rfl | omega)) (by unfold ua; (try unfold dgO); (try unfold dgT); (repeat' split) <;> omega) (by unfold ua; (try unfold dgO); (try unfold dgT); (repeat' split) <;> omega) (by unfold ua; (try unfold dgO); (try unfold dgT); (repeat' split) <;> omega))⟩
      exfalso; omega
    exact absurd c_40 (by decide)
  · refine g_iload_n C 1 rfl dJ6_getChars_ba4f3_0 rfl ?_
    refine g_istore C (lv' := [(0, vI x), (1, vI i), (2, vR b), (5, vI i)]) [1, 2, 3, 0] (by decide) rfl rfl dJ6_getChars_ba4f3_1 rfl ?_
    refine g_iload_n C 0 rfl dJ6_getChars_ba4f3_3 rfl ?_
    refine g_if_ge C (tgt := 11) ⟨by omega, by omega⟩ dJ6_getChars_ba4f3_4 (by decide) rfl (fun c_44 => ?_) (fun c_44 => ?_)
    · exfalso; omega
    refine g_iconst C dJ6_getChars_ba4f3_7 rfl ?_
    refine g_goto C (pc' := 12) dJ6_getChars_ba4f3_8 (by decide) ?_
    refine g_istore C (lv' := [(0, vI x), (1, vI i), (2, vR b), (5, vI i), (6, vI 1)]) [1, 2, 3, 4, 0] (by decide) rfl rfl dJ6_getChars_ba4f3_12 rfl ?_
    refine g_iload C 4 rfl dJ6_getChars_ba4f3_14 rfl ?_
    refine g_if_ne C (tgt := 22) ⟨by decide, by decide⟩ dJ6_getChars_ba4f3_16 (by decide) rfl (fun c_45 => ?_) (fun c_45 => ?_)
    · refine g_iload_n C 0 rfl dJ6_getChars_ba4f3_22 rfl ?_
      refine g_bipush C (by decide) dJ6_getChars_ba4f3_23 rfl ?_
      refine g_icmp_gt C (tgt := 72) ⟨by omega, by omega⟩ ⟨by decide, by decide⟩ dJ6_getChars_ba4f3_25 (by decide) rfl (fun c_46 => ?_) (fun c_46 => ?_)
      · exfalso; omega
      refine g_iload_n C 0 rfl dJ6_getChars_ba4f3_28 rfl ?_
      refine g_bipush C (by decide) dJ6_getChars_ba4f3_29 rfl ?_
      refine g_idiv C ⟨by omega, by omega⟩ ⟨by decide, by decide⟩ (by decide) (by decide) rfl dJ6_getChars_ba4f3_31 rfl ?_
      refine g_istore_n C (lv' := [(0, vI x), (1, vI i), (2, vR b), (3, vI (Int.tdiv x 100)), (5, vI i), (6, vI 1)]) [1, 2, 3, 0, 4, 5] (by decide) rfl rfl dJ6_getChars_ba4f3_32 rfl ?_
      have td_47 : Int.tdiv x 100 = -((-x) / 100) := td100 (by omega)
      refine g_iload_n C 3 rfl dJ6_getChars_ba4f3_33 rfl ?_
      refine g_bipush C (by decide) dJ6_getChars_ba4f3_34 rfl ?_
      refine g_imul C rfl dJ6_getChars_ba4f3_36 rfl ?_
      refine g_iload_n C 0 rfl dJ6_getChars_ba4f3_37 rfl ?_
      refine g_isub C rfl dJ6_getChars_ba4f3_38 rfl ?_
      refine g_istore C (lv' := [(0, vI x), (1, vI i), (2, vR b), (3, vI (Int.tdiv x 100)), (4, vI (((Int.tdiv x 100) * 100) - x)), (5, vI i), (6, vI 1)]) [1, 2, 3, 4, 0, 5, 6] (by decide) rfl rfl dJ6_getChars_ba4f3_39 rfl ?_
      refine g_iload_n C 3 rfl dJ6_getChars_ba4f3_41 rfl ?_
      refine g_istore_n C (lv' := [(0, vI (Int.tdiv x 100)), (1, vI i), (2, vR b), (3, vI (Int.tdiv x 100)), (4, vI (((Int.tdiv x 100) * 100) - x)), (5, vI i), (6, vI 1)]) [0, 1, 2, 3, 4, 5, 6] (by decide) rfl rfl dJ6_getChars_ba4f3_42 rfl ?_
      refine g_aload_n C 2 rfl dJ6_getChars_ba4f3_43 rfl ?_
      refine g_iinc C (r := (i + (-1))) (lv' := [(0, vI (Int.tdiv x 100)), (1, vI i), (2, vR b), (3, vI (Int.tdiv x 100)), (4, vI (((Int.tdiv x 100) * 100) - x)), (5, vI (i + (-1))), (6, vI 1)]) 5 [1, 2, 3, 4, 5, 0, 6] rfl rfl (by decide) rfl rfl dJ6_getChars_ba4f3_44 rfl ?_
      refine g_iload C 5 rfl dJ6_getChars_ba4f3_47 rfl ?_
      refine g_gets C C.2.2.1.2.2.2.2.1.1 w_J6_getChars_ba4f3_st83 rfl dJ6_getChars_ba4f3_49 rfl ?_
      refine g_iload C 4 rfl dJ6_getChars_ba4f3_52 rfl ?_
      refine g_tb C (N := 100) (a := dgO) C.2.2.1.2.2.2.2.1.2 (by omega) (by omega) (by decide) rfl dJ6_getChars_ba4f3_54 rfl ?_
      refine g_bast C 0 rfl (by omega) (by omega) (by omega) (narB ch_O) (ws' := [(b, cB E N (ua t (i + (-1)) (dgO (((Int.tdiv x 100) * 100) - x))))]) rfl dJ6_getChars_ba4f3_55 rfl ?_
      refine g_aload_n C 2 rfl dJ6_getChars_ba4f3_56 rfl ?_
      refine g_iinc C (r := ((i + (-1)) + (-1))) (lv' := [(0, vI (Int.tdiv x 100)), (1, vI i), (2, vR b), (3, vI (Int.tdiv x 100)), (4, vI (((Int.tdiv x 100) * 100) - x)), (5, vI ((i + (-1)) + (-1))), (6, vI 1)]) 5 [1, 2, 3, 4, 5, 0, 6] rfl rfl (by decide) rfl rfl dJ6_getChars_ba4f3_57 rfl ?_
      refine g_iload C 5 rfl dJ6_getChars_ba4f3_60 rfl ?_
      refine g_gets C C.2.2.1.2.2.2.2.2.1.1 w_J6_getChars_ba4f3_st87 rfl dJ6_getChars_ba4f3_62 rfl ?_
      refine g_iload C 4 rfl dJ6_getChars_ba4f3_65 rfl ?_
      refine g_tb C (N := 100) (a := dgT) C.2.2.1.2.2.2.2.2.1.2 (by omega) (by omega) (by decide) rfl dJ6_getChars_ba4f3_67 rfl ?_
      refine g_bast C 0 rfl (by omega) (by omega) (by omega) (narB (ch_T ⟨by omega, by omega⟩)) (ws' := [(b, cB E N (ua (ua t (i + (-1)) (dgO (((Int.tdiv x 100) * 100) - x))) ((i + (-1)) + (-1)) (dgT (((Int.tdiv x 100) * 100) - x))))]) rfl dJ6_getChars_ba4f3_68 rfl ?_
      refine g_goto C (pc' := 22) dJ6_getChars_ba4f3_69 (by decide) ?_
      refine g_iload_n C 0 rfl dJ6_getChars_ba4f3_22 rfl ?_
      refine g_bipush C (by decide) dJ6_getChars_ba4f3_23 rfl ?_
      refine g_icmp_gt C (tgt := 72) ⟨by omega, by omega⟩ ⟨by decide, by decide⟩ dJ6_getChars_ba4f3_25 (by decide) rfl (fun c_48 => ?_) (fun c_48 => ?_)
      · refine g_aload_n C 2 rfl dJ6_getChars_ba4f3_72 rfl ?_
        refine g_iinc C (r := (((i + (-1)) + (-1)) + (-1))) (lv' := [(0, vI (Int.tdiv x 100)), (1, vI i), (2, vR b), (3, vI (Int.tdiv x 100)), (4, vI (((Int.tdiv x 100) * 100) - x)), (5, vI (((i + (-1)) + (-1)) + (-1))), (6, vI 1)]) 5 [1, 2, 3, 4, 5, 0, 6] rfl rfl (by decide) rfl rfl dJ6_getChars_ba4f3_73 rfl ?_
        refine g_iload C 5 rfl dJ6_getChars_ba4f3_76 rfl ?_
        refine g_gets C C.2.2.1.2.2.2.2.1.1 w_J6_getChars_ba4f3_st83 rfl dJ6_getChars_ba4f3_78 rfl ?_
        refine g_iload_n C 0 rfl dJ6_getChars_ba4f3_81 rfl ?_
        refine g_ineg C rfl dJ6_getChars_ba4f3_82 rfl ?_
        refine g_tb C (N := 100) (a := dgO) C.2.2.1.2.2.2.2.1.2 (by omega) (by omega) (by decide) rfl dJ6_getChars_ba4f3_83 rfl ?_
        refine g_bast C 0 rfl (by omega) (by omega) (by omega) (narB ch_O) (ws' := [(b, cB E N (ua (ua (ua t (i + (-1)) (dgO (((Int.tdiv x 100) * 100) - x))) ((i + (-1)) + (-1)) (dgT (((Int.tdiv x 100) * 100) - x))) (((i + (-1)) + (-1)) + (-1)) (dgO (-(Int.tdiv x 100)))))]) rfl dJ6_getChars_ba4f3_84 rfl ?_
        refine g_iload_n C 0 rfl dJ6_getChars_ba4f3_85 rfl ?_
        refine g_bipush C (by decide) dJ6_getChars_ba4f3_86 rfl ?_
        refine g_icmp_ge C (tgt := 104) ⟨by omega, by omega⟩ ⟨by decide, by decide⟩ dJ6_getChars_ba4f3_88 (by decide) rfl (fun c_49 => ?_) (fun c_49 => ?_)
        · refine g_iload C 6 rfl dJ6_getChars_ba4f3_104 rfl ?_
          refine g_if_eq C (tgt := 118) ⟨by decide, by decide⟩ dJ6_getChars_ba4f3_106 (by decide) rfl (fun c_50 => ?_) (fun c_50 => ?_)
          · exact absurd c_50 (by decide)
          refine g_aload_n C 2 rfl dJ6_getChars_ba4f3_109 rfl ?_
          refine g_iinc C (r := ((((i + (-1)) + (-1)) + (-1)) + (-1))) (lv' := [(0, vI (Int.tdiv x 100)), (1, vI i), (2, vR b), (3, vI (Int.tdiv x 100)), (4, vI (((Int.tdiv x 100) * 100) - x)), (5, vI ((((i + (-1)) + (-1)) + (-1)) + (-1))), (6, vI 1)]) 5 [1, 2, 3, 4, 5, 0, 6] rfl rfl (by decide) rfl rfl dJ6_getChars_ba4f3_110 rfl ?_
          refine g_iload C 5 rfl dJ6_getChars_ba4f3_113 rfl ?_
          refine g_bipush C (by decide) dJ6_getChars_ba4f3_115 rfl ?_
          refine g_bast C 0 rfl (by omega) (by omega) (by omega) (by decide) (ws' := [(b, cB E N (ua (ua (ua (ua t (i + (-1)) (dgO (((Int.tdiv x 100) * 100) - x))) ((i + (-1)) + (-1)) (dgT (((Int.tdiv x 100) * 100) - x))) (((i + (-1)) + (-1)) + (-1)) (dgO (-(Int.tdiv x 100)))) ((((i + (-1)) + (-1)) + (-1)) + (-1)) 45))]) rfl dJ6_getChars_ba4f3_117 rfl ?_
          refine g_iload C 5 rfl dJ6_getChars_ba4f3_118 rfl ?_
          exact g_iret C hr rfl (Nat.le_of_ble_eq_true rfl) (Nat.le_of_ble_eq_true rfl) dJ6_getChars_ba4f3_120 ⟨((((i + (-1)) + (-1)) + (-1)) + (-1)), (ua (ua (ua (ua t (i + (-1)) (dgO (((Int.tdiv x 100) * 100) - x))) ((i + (-1)) + (-1)) (dgT (((Int.tdiv x 100) * 100) - x))) (((i + (-1)) + (-1)) + (-1)) (dgO (-(Int.tdiv x 100)))) ((((i + (-1)) + (-1)) + (-1)) + (-1)) 45), rfl, rfl, (by repeat (first | exact hb | refine BX_u ?_ (by first | exact ch_O | exact ch_T ⟨by omega, by omega⟩ | exact ⟨by decide, by decide⟩))), (by rw [dgs_n (by omega), dgs_p3 (v := (-x)) (by omega)]; exact gc_4 (n := (L.length : Int)) rfl (TX_c hT (fun k h0 h1 => by unfold ua; (repeat' split) <;> first | rfl | omega)) (by unfold ua; (try unfold dgO); (try unfold dgT); (repeat' split) <;> omega) (by unfold ua; (try unfold dgO); (try unfold dgT); (repeat' split) <;> omega) (by unfold ua; (try unfold dgO); (try unfold dgT); (repeat' split) <;> omega) (by unfold ua; (try unfold dgO); (try unfold dgT); (repeat' split) <;> omega))⟩
        exfalso; omega
      exfalso; omega
    exact absurd c_45 (by decide)
  · refine g_iload_n C 1 rfl dJ6_getChars_ba4f3_0 rfl ?_
    refine g_istore C (lv' := [(0, vI x), (1, vI i), (2, vR b), (5, vI i)]) [1, 2, 3, 0] (by decide) rfl rfl dJ6_getChars_ba4f3_1 rfl ?_
    refine g_iload_n C 0 rfl dJ6_getChars_ba4f3_3 rfl ?_
    refine g_if_ge C (tgt := 11) ⟨by omega, by omega⟩ dJ6_getChars_ba4f3_4 (by decide) rfl (fun c_51 => ?_) (fun c_51 => ?_)
    · exfalso; omega
    refine g_iconst C dJ6_getChars_ba4f3_7 rfl ?_
    refine g_goto C (pc' := 12) dJ6_getChars_ba4f3_8 (by decide) ?_
    refine g_istore C (lv' := [(0, vI x), (1, vI i), (2, vR b), (5, vI i), (6, vI 1)]) [1, 2, 3, 4, 0] (by decide) rfl rfl dJ6_getChars_ba4f3_12 rfl ?_
    refine g_iload C 4 rfl dJ6_getChars_ba4f3_14 rfl ?_
    refine g_if_ne C (tgt := 22) ⟨by decide, by decide⟩ dJ6_getChars_ba4f3_16 (by decide) rfl (fun c_52 => ?_) (fun c_52 => ?_)
    · refine g_iload_n C 0 rfl dJ6_getChars_ba4f3_22 rfl ?_
      refine g_bipush C (by decide) dJ6_getChars_ba4f3_23 rfl ?_
      refine g_icmp_gt C (tgt := 72) ⟨by omega, by omega⟩ ⟨by decide, by decide⟩ dJ6_getChars_ba4f3_25 (by decide) rfl (fun c_53 => ?_) (fun c_53 => ?_)
      · exfalso; omega
      refine g_iload_n C 0 rfl dJ6_getChars_ba4f3_28 rfl ?_
      refine g_bipush C (by decide) dJ6_getChars_ba4f3_29 rfl ?_
      refine g_idiv C ⟨by omega, by omega⟩ ⟨by decide, by decide⟩ (by decide) (by decide) rfl dJ6_getChars_ba4f3_31 rfl ?_
      refine g_istore_n C (lv' := [(0, vI x), (1, vI i), (2, vR b), (3, vI (Int.tdiv x 100)), (5, vI i), (6, vI 1)]) [1, 2, 3, 0, 4, 5] (by decide) rfl rfl dJ6_getChars_ba4f3_32 rfl ?_
      have td_54 : Int.tdiv x 100 = -((-x) / 100) := td100 (by omega)
      refine g_iload_n C 3 rfl dJ6_getChars_ba4f3_33 rfl ?_
      refine g_bipush C (by decide) dJ6_getChars_ba4f3_34 rfl ?_
      refine g_imul C rfl dJ6_getChars_ba4f3_36 rfl ?_
      refine g_iload_n C 0 rfl dJ6_getChars_ba4f3_37 rfl ?_
      refine g_isub C rfl dJ6_getChars_ba4f3_38 rfl ?_
      refine g_istore C (lv' := [(0, vI x), (1, vI i), (2, vR b), (3, vI (Int.tdiv x 100)), (4, vI (((Int.tdiv x 100) * 100) - x)), (5, vI i), (6, vI 1)]) [1, 2, 3, 4, 0, 5, 6] (by decide) rfl rfl dJ6_getChars_ba4f3_39 rfl ?_
      refine g_iload_n C 3 rfl dJ6_getChars_ba4f3_41 rfl ?_
      refine g_istore_n C (lv' := [(0, vI (Int.tdiv x 100)), (1, vI i), (2, vR b), (3, vI (Int.tdiv x 100)), (4, vI (((Int.tdiv x 100) * 100) - x)), (5, vI i), (6, vI 1)]) [0, 1, 2, 3, 4, 5, 6] (by decide) rfl rfl dJ6_getChars_ba4f3_42 rfl ?_
      refine g_aload_n C 2 rfl dJ6_getChars_ba4f3_43 rfl ?_
      refine g_iinc C (r := (i + (-1))) (lv' := [(0, vI (Int.tdiv x 100)), (1, vI i), (2, vR b), (3, vI (Int.tdiv x 100)), (4, vI (((Int.tdiv x 100) * 100) - x)), (5, vI (i + (-1))), (6, vI 1)]) 5 [1, 2, 3, 4, 5, 0, 6] rfl rfl (by decide) rfl rfl dJ6_getChars_ba4f3_44 rfl ?_
      refine g_iload C 5 rfl dJ6_getChars_ba4f3_47 rfl ?_
      refine g_gets C C.2.2.1.2.2.2.2.1.1 w_J6_getChars_ba4f3_st83 rfl dJ6_getChars_ba4f3_49 rfl ?_
      refine g_iload C 4 rfl dJ6_getChars_ba4f3_52 rfl ?_
      refine g_tb C (N := 100) (a := dgO) C.2.2.1.2.2.2.2.1.2 (by omega) (by omega) (by decide) rfl dJ6_getChars_ba4f3_54 rfl ?_
      refine g_bast C 0 rfl (by omega) (by omega) (by omega) (narB ch_O) (ws' := [(b, cB E N (ua t (i + (-1)) (dgO (((Int.tdiv x 100) * 100) - x))))]) rfl dJ6_getChars_ba4f3_55 rfl ?_
      refine g_aload_n C 2 rfl dJ6_getChars_ba4f3_56 rfl ?_
      refine g_iinc C (r := ((i + (-1)) + (-1))) (lv' := [(0, vI (Int.tdiv x 100)), (1, vI i), (2, vR b), (3, vI (Int.tdiv x 100)), (4, vI (((Int.tdiv x 100) * 100) - x)), (5, vI ((i + (-1)) + (-1))), (6, vI 1)]) 5 [1, 2, 3, 4, 5, 0, 6] rfl rfl (by decide) rfl rfl dJ6_getChars_ba4f3_57 rfl ?_
      refine g_iload C 5 rfl dJ6_getChars_ba4f3_60 rfl ?_
      refine g_gets C C.2.2.1.2.2.2.2.2.1.1 w_J6_getChars_ba4f3_st87 rfl dJ6_getChars_ba4f3_62 rfl ?_
      refine g_iload C 4 rfl dJ6_getChars_ba4f3_65 rfl ?_
      refine g_tb C (N := 100) (a := dgT) C.2.2.1.2.2.2.2.2.1.2 (by omega) (by omega) (by decide) rfl dJ6_getChars_ba4f3_67 rfl ?_
      refine g_bast C 0 rfl (by omega) (by omega) (by omega) (narB (ch_T ⟨by omega, by omega⟩)) (ws' := [(b, cB E N (ua (ua t (i + (-1)) (dgO (((Int.tdiv x 100) * 100) - x))) ((i + (-1)) + (-1)) (dgT (((Int.tdiv x 100) * 100) - x))))]) rfl dJ6_getChars_ba4f3_68 rfl ?_
      refine g_goto C (pc' := 22) dJ6_getChars_ba4f3_69 (by decide) ?_
      refine g_iload_n C 0 rfl dJ6_getChars_ba4f3_22 rfl ?_
      refine g_bipush C (by decide) dJ6_getChars_ba4f3_23 rfl ?_
      refine g_icmp_gt C (tgt := 72) ⟨by omega, by omega⟩ ⟨by decide, by decide⟩ dJ6_getChars_ba4f3_25 (by decide) rfl (fun c_55 => ?_) (fun c_55 => ?_)
      · refine g_aload_n C 2 rfl dJ6_getChars_ba4f3_72 rfl ?_
        refine g_iinc C (r := (((i + (-1)) + (-1)) + (-1))) (lv' := [(0, vI (Int.tdiv x 100)), (1, vI i), (2, vR b), (3, vI (Int.tdiv x 100)), (4, vI (((Int.tdiv x 100) * 100) - x)), (5, vI (((i + (-1)) + (-1)) + (-1))), (6, vI 1)]) 5 [1, 2, 3, 4, 5, 0, 6] rfl rfl (by decide) rfl rfl dJ6_getChars_ba4f3_73 rfl ?_
        refine g_iload C 5 rfl dJ6_getChars_ba4f3_76 rfl ?_
        refine g_gets C C.2.2.1.2.2.2.2.1.1 w_J6_getChars_ba4f3_st83 rfl dJ6_getChars_ba4f3_78 rfl ?_
        refine g_iload_n C 0 rfl dJ6_getChars_ba4f3_81 rfl ?_
        refine g_ineg C rfl dJ6_getChars_ba4f3_82 rfl ?_
        refine g_tb C (N := 100) (a := dgO) C.2.2.1.2.2.2.2.1.2 (by omega) (by omega) (by decide) rfl dJ6_getChars_ba4f3_83 rfl ?_
        refine g_bast C 0 rfl (by omega) (by omega) (by omega) (narB ch_O) (ws' := [(b, cB E N (ua (ua (ua t (i + (-1)) (dgO (((Int.tdiv x 100) * 100) - x))) ((i + (-1)) + (-1)) (dgT (((Int.tdiv x 100) * 100) - x))) (((i + (-1)) + (-1)) + (-1)) (dgO (-(Int.tdiv x 100)))))]) rfl dJ6_getChars_ba4f3_84 rfl ?_
        refine g_iload_n C 0 rfl dJ6_getChars_ba4f3_85 rfl ?_
        refine g_bipush C (by decide) dJ6_getChars_ba4f3_86 rfl ?_
        refine g_icmp_ge C (tgt := 104) ⟨by omega, by omega⟩ ⟨by decide, by decide⟩ dJ6_getChars_ba4f3_88 (by decide) rfl (fun c_56 => ?_) (fun c_56 => ?_)
        · exfalso; omega
        refine g_aload_n C 2 rfl dJ6_getChars_ba4f3_91 rfl ?_
        refine g_iinc C (r := ((((i + (-1)) + (-1)) + (-1)) + (-1))) (lv' := [(0, vI (Int.tdiv x 100)), (1, vI i), (2, vR b), (3, vI (Int.tdiv x 100)), (4, vI (((Int.tdiv x 100) * 100) - x)), (5, vI ((((i + (-1)) + (-1)) + (-1)) + (-1))), (6, vI 1)]) 5 [1, 2, 3, 4, 5, 0, 6] rfl rfl (by decide) rfl rfl dJ6_getChars_ba4f3_92 rfl ?_
        refine g_iload C 5 rfl dJ6_getChars_ba4f3_95 rfl ?_
        refine g_gets C C.2.2.1.2.2.2.2.2.1.1 w_J6_getChars_ba4f3_st87 rfl dJ6_getChars_ba4f3_97 rfl ?_
        refine g_iload_n C 0 rfl dJ6_getChars_ba4f3_100 rfl ?_
        refine g_ineg C rfl dJ6_getChars_ba4f3_101 rfl ?_
        refine g_tb C (N := 100) (a := dgT) C.2.2.1.2.2.2.2.2.1.2 (by omega) (by omega) (by decide) rfl dJ6_getChars_ba4f3_102 rfl ?_
        refine g_bast C 0 rfl (by omega) (by omega) (by omega) (narB (ch_T ⟨by omega, by omega⟩)) (ws' := [(b, cB E N (ua (ua (ua (ua t (i + (-1)) (dgO (((Int.tdiv x 100) * 100) - x))) ((i + (-1)) + (-1)) (dgT (((Int.tdiv x 100) * 100) - x))) (((i + (-1)) + (-1)) + (-1)) (dgO (-(Int.tdiv x 100)))) ((((i + (-1)) + (-1)) + (-1)) + (-1)) (dgT (-(Int.tdiv x 100)))))]) rfl dJ6_getChars_ba4f3_103 rfl ?_
        refine g_iload C 6 rfl dJ6_getChars_ba4f3_104 rfl ?_
        refine g_if_eq C (tgt := 118) ⟨by decide, by decide⟩ dJ6_getChars_ba4f3_106 (by decide) rfl (fun c_57 => ?_) (fun c_57 => ?_)
        · exact absurd c_57 (by decide)
        refine g_aload_n C 2 rfl dJ6_getChars_ba4f3_109 rfl ?_
        refine g_iinc C (r := (((((i + (-1)) + (-1)) + (-1)) + (-1)) + (-1))) (lv' := [(0, vI (Int.tdiv x 100)), (1, vI i), (2, vR b), (3, vI (Int.tdiv x 100)), (4, vI (((Int.tdiv x 100) * 100) - x)), (5, vI (((((i + (-1)) + (-1)) + (-1)) + (-1)) + (-1))), (6, vI 1)]) 5 [1, 2, 3, 4, 5, 0, 6] rfl rfl (by decide) rfl rfl dJ6_getChars_ba4f3_110 rfl ?_
        refine g_iload C 5 rfl dJ6_getChars_ba4f3_113 rfl ?_
        refine g_bipush C (by decide) dJ6_getChars_ba4f3_115 rfl ?_
        refine g_bast C 0 rfl (by omega) (by omega) (by omega) (by decide) (ws' := [(b, cB E N (ua (ua (ua (ua (ua t (i + (-1)) (dgO (((Int.tdiv x 100) * 100) - x))) ((i + (-1)) + (-1)) (dgT (((Int.tdiv x 100) * 100) - x))) (((i + (-1)) + (-1)) + (-1)) (dgO (-(Int.tdiv x 100)))) ((((i + (-1)) + (-1)) + (-1)) + (-1)) (dgT (-(Int.tdiv x 100)))) (((((i + (-1)) + (-1)) + (-1)) + (-1)) + (-1)) 45))]) rfl dJ6_getChars_ba4f3_117 rfl ?_
        refine g_iload C 5 rfl dJ6_getChars_ba4f3_118 rfl ?_
        exact g_iret C hr rfl (Nat.le_of_ble_eq_true rfl) (Nat.le_of_ble_eq_true rfl) dJ6_getChars_ba4f3_120 ⟨(((((i + (-1)) + (-1)) + (-1)) + (-1)) + (-1)), (ua (ua (ua (ua (ua t (i + (-1)) (dgO (((Int.tdiv x 100) * 100) - x))) ((i + (-1)) + (-1)) (dgT (((Int.tdiv x 100) * 100) - x))) (((i + (-1)) + (-1)) + (-1)) (dgO (-(Int.tdiv x 100)))) ((((i + (-1)) + (-1)) + (-1)) + (-1)) (dgT (-(Int.tdiv x 100)))) (((((i + (-1)) + (-1)) + (-1)) + (-1)) + (-1)) 45), rfl, rfl, (by repeat (first | exact hb | refine BX_u ?_ (by first | exact ch_O | exact ch_T ⟨by omega, by omega⟩ | exact ⟨by decide, by decide⟩))), (by rw [dgs_n (by omega), dgs_p4 (v := (-x)) (by omega)]; exact gc_5 (n := (L.length : Int)) rfl (TX_c hT (fun k h0 h1 => by unfold ua; (repeat' split) <;> first | rfl | omega)) (by unfold ua; (try unfold dgO); (try unfold dgT); (repeat' split) <;> omega) (by unfold ua; (try unfold dgO); (try unfold dgT); (repeat' split) <;> omega) (by unfold ua; (try unfold dgO); (try unfold dgT); (repeat' split) <;> omega) (by unfold ua; (try unfold dgO); (try unfold dgT); (repeat' split) <;> omega) (by unfold ua; (try unfold dgO); (try unfold dgT); (repeat' split) <;> omega))⟩
      exfalso; omega
    exact absurd c_52 (by decide)
  · refine g_iload_n C 1 rfl dJ6_getChars_ba4f3_0 rfl ?_
    refine g_istore C (lv' := [(0, vI x), (1, vI i), (2, vR b), (5, vI i)]) [1, 2, 3, 0] (by decide) rfl rfl dJ6_getChars_ba4f3_1 rfl ?_
    refine g_iload_n C 0 rfl dJ6_getChars_ba4f3_3 rfl ?_
    refine g_if_ge C (tgt := 11) ⟨by omega, by omega⟩ dJ6_getChars_ba4f3_4 (by decide) rfl (fun c_58 => ?_) (fun c_58 => ?_)
    · exfalso; omega
    refine g_iconst C dJ6_getChars_ba4f3_7 rfl ?_
    refine g_goto C (pc' := 12) dJ6_getChars_ba4f3_8 (by decide) ?_
    refine g_istore C (lv' := [(0, vI x), (1, vI i), (2, vR b), (5, vI i), (6, vI 1)]) [1, 2, 3, 4, 0] (by decide) rfl rfl dJ6_getChars_ba4f3_12 rfl ?_
    refine g_iload C 4 rfl dJ6_getChars_ba4f3_14 rfl ?_
    refine g_if_ne C (tgt := 22) ⟨by decide, by decide⟩ dJ6_getChars_ba4f3_16 (by decide) rfl (fun c_59 => ?_) (fun c_59 => ?_)
    · refine g_iload_n C 0 rfl dJ6_getChars_ba4f3_22 rfl ?_
      refine g_bipush C (by decide) dJ6_getChars_ba4f3_23 rfl ?_
      refine g_icmp_gt C (tgt := 72) ⟨by omega, by omega⟩ ⟨by decide, by decide⟩ dJ6_getChars_ba4f3_25 (by decide) rfl (fun c_60 => ?_) (fun c_60 => ?_)
      · exfalso; omega
      refine g_iload_n C 0 rfl dJ6_getChars_ba4f3_28 rfl ?_
      refine g_bipush C (by decide) dJ6_getChars_ba4f3_29 rfl ?_
      refine g_idiv C ⟨by omega, by omega⟩ ⟨by decide, by decide⟩ (by decide) (by decide) rfl dJ6_getChars_ba4f3_31 rfl ?_
      refine g_istore_n C (lv' := [(0, vI x), (1, vI i), (2, vR b), (3, vI (Int.tdiv x 100)), (5, vI i), (6, vI 1)]) [1, 2, 3, 0, 4, 5] (by decide) rfl rfl dJ6_getChars_ba4f3_32 rfl ?_
      have td_61 : Int.tdiv x 100 = -((-x) / 100) := td100 (by omega)
      refine g_iload_n C 3 rfl dJ6_getChars_ba4f3_33 rfl ?_
      refine g_bipush C (by decide) dJ6_getChars_ba4f3_34 rfl ?_
      refine g_imul C rfl dJ6_getChars_ba4f3_36 rfl ?_
      refine g_iload_n C 0 rfl dJ6_getChars_ba4f3_37 rfl ?_
      refine g_isub C rfl dJ6_getChars_ba4f3_38 rfl ?_
      refine g_istore C (lv' := [(0, vI x), (1, vI i), (2, vR b), (3, vI (Int.tdiv x 100)), (4, vI (((Int.tdiv x 100) * 100) - x)), (5, vI i), (6, vI 1)]) [1, 2, 3, 4, 0, 5, 6] (by decide) rfl rfl dJ6_getChars_ba4f3_39 rfl ?_
      refine g_iload_n C 3 rfl dJ6_getChars_ba4f3_41 rfl ?_
      refine g_istore_n C (lv' := [(0, vI (Int.tdiv x 100)), (1, vI i), (2, vR b), (3, vI (Int.tdiv x 100)), (4, vI (((Int.tdiv x 100) * 100) - x)), (5, vI i), (6, vI 1)]) [0, 1, 2, 3, 4, 5, 6] (by decide) rfl rfl dJ6_getChars_ba4f3_42 rfl ?_
      refine g_aload_n C 2 rfl dJ6_getChars_ba4f3_43 rfl ?_
      refine g_iinc C (r := (i + (-1))) (lv' := [(0, vI (Int.tdiv x 100)), (1, vI i), (2, vR b), (3, vI (Int.tdiv x 100)), (4, vI (((Int.tdiv x 100) * 100) - x)), (5, vI (i + (-1))), (6, vI 1)]) 5 [1, 2, 3, 4, 5, 0, 6] rfl rfl (by decide) rfl rfl dJ6_getChars_ba4f3_44 rfl ?_
      refine g_iload C 5 rfl dJ6_getChars_ba4f3_47 rfl ?_
      refine g_gets C C.2.2.1.2.2.2.2.1.1 w_J6_getChars_ba4f3_st83 rfl dJ6_getChars_ba4f3_49 rfl ?_
      refine g_iload C 4 rfl dJ6_getChars_ba4f3_52 rfl ?_
      refine g_tb C (N := 100) (a := dgO) C.2.2.1.2.2.2.2.1.2 (by omega) (by omega) (by decide) rfl dJ6_getChars_ba4f3_54 rfl ?_
      refine g_bast C 0 rfl (by omega) (by omega) (by omega) (narB ch_O) (ws' := [(b, cB E N (ua t (i + (-1)) (dgO (((Int.tdiv x 100) * 100) - x))))]) rfl dJ6_getChars_ba4f3_55 rfl ?_
      refine g_aload_n C 2 rfl dJ6_getChars_ba4f3_56 rfl ?_
      refine g_iinc C (r := ((i + (-1)) + (-1))) (lv' := [(0, vI (Int.tdiv x 100)), (1, vI i), (2, vR b), (3, vI (Int.tdiv x 100)), (4, vI (((Int.tdiv x 100) * 100) - x)), (5, vI ((i + (-1)) + (-1))), (6, vI 1)]) 5 [1, 2, 3, 4, 5, 0, 6] rfl rfl (by decide) rfl rfl dJ6_getChars_ba4f3_57 rfl ?_
      refine g_iload C 5 rfl dJ6_getChars_ba4f3_60 rfl ?_
      refine g_gets C C.2.2.1.2.2.2.2.2.1.1 w_J6_getChars_ba4f3_st87 rfl dJ6_getChars_ba4f3_62 rfl ?_
      refine g_iload C 4 rfl dJ6_getChars_ba4f3_65 rfl ?_
      refine g_tb C (N := 100) (a := dgT) C.2.2.1.2.2.2.2.2.1.2 (by omega) (by omega) (by decide) rfl dJ6_getChars_ba4f3_67 rfl ?_
      refine g_bast C 0 rfl (by omega) (by omega) (by omega) (narB (ch_T ⟨by omega, by omega⟩)) (ws' := [(b, cB E N (ua (ua t (i + (-1)) (dgO (((Int.tdiv x 100) * 100) - x))) ((i + (-1)) + (-1)) (dgT (((Int.tdiv x 100) * 100) - x))))]) rfl dJ6_getChars_ba4f3_68 rfl ?_
      refine g_goto C (pc' := 22) dJ6_getChars_ba4f3_69 (by decide) ?_
      refine g_iload_n C 0 rfl dJ6_getChars_ba4f3_22 rfl ?_
      refine g_bipush C (by decide) dJ6_getChars_ba4f3_23 rfl ?_
      refine g_icmp_gt C (tgt := 72) ⟨by omega, by omega⟩ ⟨by decide, by decide⟩ dJ6_getChars_ba4f3_25 (by decide) rfl (fun c_62 => ?_) (fun c_62 => ?_)
      · exfalso; omega
      refine g_iload_n C 0 rfl dJ6_getChars_ba4f3_28 rfl ?_
      refine g_bipush C (by decide) dJ6_getChars_ba4f3_29 rfl ?_
      refine g_idiv C ⟨by omega, by omega⟩ ⟨by decide, by decide⟩ (by decide) (by decide) rfl dJ6_getChars_ba4f3_31 rfl ?_
      refine g_istore_n C (lv' := [(0, vI (Int.tdiv x 100)), (1, vI i), (2, vR b), (3, vI (Int.tdiv (Int.tdiv x 100) 100)), (4, vI (((Int.tdiv x 100) * 100) - x)), (5, vI ((i + (-1)) + (-1))), (6, vI 1)]) [1, 2, 3, 0, 4, 5, 6] (by decide) rfl rfl dJ6_getChars_ba4f3_32 rfl ?_
      have td_63 : Int.tdiv (Int.tdiv x 100) 100 = -((-(Int.tdiv x 100)) / 100) := td100 (by omega)
      refine g_iload_n C 3 rfl dJ6_getChars_ba4f3_33 rfl ?_
      refine g_bipush C (by decide) dJ6_getChars_ba4f3_34 rfl ?_
      refine g_imul C rfl dJ6_getChars_ba4f3_36 rfl ?_
      refine g_iload_n C 0 rfl dJ6_getChars_ba4f3_37 rfl ?_
      refine g_isub C rfl dJ6_getChars_ba4f3_38 rfl ?_
      refine g_istore C (lv' := [(0, vI (Int.tdiv x 100)), (1, vI i), (2, vR b), (3, vI (Int.tdiv (Int.tdiv x 100) 100)), (4, vI (((Int.tdiv (Int.tdiv x 100) 100) * 100) - (Int.tdiv x 100))), (5, vI ((i + (-1)) + (-1))), (6, vI 1)]) [1, 2, 3, 4, 0, 5, 6] (by decide) rfl rfl dJ6_getChars_ba4f3_39 rfl ?_
      refine g_iload_n C 3 rfl dJ6_getChars_ba4f3_41 rfl ?_
      refine g_istore_n C (lv' := [(0, vI (Int.tdiv (Int.tdiv x 100) 100)), (1, vI i), (2, vR b), (3, vI (Int.tdiv (Int.tdiv x 100) 100)), (4, vI (((Int.tdiv (Int.tdiv x 100) 100) * 100) - (Int.tdiv x 100))), (5, vI ((i + (-1)) + (-1))), (6, vI 1)]) [0, 1, 2, 3, 4, 5, 6] (by decide) rfl rfl dJ6_getChars_ba4f3_42 rfl ?_
      refine g_aload_n C 2 rfl dJ6_getChars_ba4f3_43 rfl ?_
      refine g_iinc C (r := (((i + (-1)) + (-1)) + (-1))) (lv' := [(0, vI (Int.tdiv (Int.tdiv x 100) 100)), (1, vI i), (2, vR b), (3, vI (Int.tdiv (Int.tdiv x 100) 100)), (4, vI (((Int.tdiv (Int.tdiv x 100) 100) * 100) - (Int.tdiv x 100))), (5, vI (((i + (-1)) + (-1)) + (-1))), (6, vI 1)]) 5 [1, 2, 3, 4, 5, 0, 6] rfl rfl (by decide) rfl rfl dJ6_getChars_ba4f3_44 rfl ?_
      refine g_iload C 5 rfl dJ6_getChars_ba4f3_47 rfl ?_
      refine g_gets C C.2.2.1.2.2.2.2.1.1 w_J6_getChars_ba4f3_st83 rfl dJ6_getChars_ba4f3_49 rfl ?_
      refine g_iload C 4 rfl dJ6_getChars_ba4f3_52 rfl ?_
      refine g_tb C (N := 100) (a := dgO) C.2.2.1.2.2.2.2.1.2 (by omega) (by omega) (by decide) rfl dJ6_getChars_ba4f3_54 rfl ?_
      refine g_bast C 0 rfl (by omega) (by omega) (by omega) (narB ch_O) (ws' := [(b, cB E N (ua (ua (ua t (i + (-1)) (dgO (((Int.tdiv x 100) * 100) - x))) ((i + (-1)) + (-1)) (dgT (((Int.tdiv x 100) * 100) - x))) (((i + (-1)) + (-1)) + (-1)) (dgO (((Int.tdiv (Int.tdiv x 100) 100) * 100) - (Int.tdiv x 100)))))]) rfl dJ6_getChars_ba4f3_55 rfl ?_
      refine g_aload_n C 2 rfl dJ6_getChars_ba4f3_56 rfl ?_
      refine g_iinc C (r := ((((i + (-1)) + (-1)) + (-1)) + (-1))) (lv' := [(0, vI (Int.tdiv (Int.tdiv x 100) 100)), (1, vI i), (2, vR b), (3, vI (Int.tdiv (Int.tdiv x 100) 100)), (4, vI (((Int.tdiv (Int.tdiv x 100) 100) * 100) - (Int.tdiv x 100))), (5, vI ((((i + (-1)) + (-1)) + (-1)) + (-1))), (6, vI 1)]) 5 [1, 2, 3, 4, 5, 0, 6] rfl rfl (by decide) rfl rfl dJ6_getChars_ba4f3_57 rfl ?_
      refine g_iload C 5 rfl dJ6_getChars_ba4f3_60 rfl ?_
      refine g_gets C C.2.2.1.2.2.2.2.2.1.1 w_J6_getChars_ba4f3_st87 rfl dJ6_getChars_ba4f3_62 rfl ?_
      refine g_iload C 4 rfl dJ6_getChars_ba4f3_65 rfl ?_
      refine g_tb C (N := 100) (a := dgT) C.2.2.1.2.2.2.2.2.1.2 (by omega) (by omega) (by decide) rfl dJ6_getChars_ba4f3_67 rfl ?_
      refine g_bast C 0 rfl (by omega) (by omega) (by omega) (narB (ch_T ⟨by omega, by omega⟩)) (ws' := [(b, cB E N (ua (ua (ua (ua t (i + (-1)) (dgO (((Int.tdiv x 100) * 100) - x))) ((i + (-1)) + (-1)) (dgT (((Int.tdiv x 100) * 100) - x))) (((i + (-1)) + (-1)) + (-1)) (dgO (((Int.tdiv (Int.tdiv x 100) 100) * 100) - (Int.tdiv x 100)))) ((((i + (-1)) + (-1)) + (-1)) + (-1)) (dgT (((Int.tdiv (Int.tdiv x 100) 100) * 100) - (Int.tdiv x 100)))))]) rfl dJ6_getChars_ba4f3_68 rfl ?_
      refine g_goto C (pc' := 22) dJ6_getChars_ba4f3_69 (by decide) ?_
      refine g_iload_n C 0 rfl dJ6_getChars_ba4f3_22 rfl ?_
      refine g_bipush C (by decide) dJ6_getChars_ba4f3_23 rfl ?_
      refine g_icmp_gt C (tgt := 72) ⟨by omega, by omega⟩ ⟨by decide, by decide⟩ dJ6_getChars_ba4f3_25 (by decide) rfl (fun c_64 => ?_) (fun c_64 => ?_)
      · refine g_aload_n C 2 rfl dJ6_getChars_ba4f3_72 rfl ?_
        refine g_iinc C (r := (((((i + (-1)) + (-1)) + (-1)) + (-1)) + (-1))) (lv' := [(0, vI (Int.tdiv (Int.tdiv x 100) 100)), (1, vI i), (2, vR b), (3, vI (Int.tdiv (Int.tdiv x 100) 100)), (4, vI (((Int.tdiv (Int.tdiv x 100) 100) * 100) - (Int.tdiv x 100))), (5, vI (((((i + (-1)) + (-1)) + (-1)) + (-1)) + (-1))), (6, vI 1)]) 5 [1, 2, 3, 4, 5, 0, 6] rfl rfl (by decide) rfl rfl dJ6_getChars_ba4f3_73 rfl ?_
        refine g_iload C 5 rfl dJ6_getChars_ba4f3_76 rfl ?_
        refine g_gets C C.2.2.1.2.2.2.2.1.1 w_J6_getChars_ba4f3_st83 rfl dJ6_getChars_ba4f3_78 rfl ?_
        refine g_iload_n C 0 rfl dJ6_getChars_ba4f3_81 rfl ?_
        refine g_ineg C rfl dJ6_getChars_ba4f3_82 rfl ?_
        refine g_tb C (N := 100) (a := dgO) C.2.2.1.2.2.2.2.1.2 (by omega) (by omega) (by decide) rfl dJ6_getChars_ba4f3_83 rfl ?_
        refine g_bast C 0 rfl (by omega) (by omega) (by omega) (narB ch_O) (ws' := [(b, cB E N (ua (ua (ua (ua (ua t (i + (-1)) (dgO (((Int.tdiv x 100) * 100) - x))) ((i + (-1)) + (-1)) (dgT (((Int.tdiv x 100) * 100) - x))) (((i + (-1)) + (-1)) + (-1)) (dgO (((Int.tdiv (Int.tdiv x 100) 100) * 100) - (Int.tdiv x 100)))) ((((i + (-1)) + (-1)) + (-1)) + (-1)) (dgT (((Int.tdiv (Int.tdiv x 100) 100) * 100) - (Int.tdiv x 100)))) (((((i + (-1)) + (-1)) + (-1)) + (-1)) + (-1)) (dgO (-(Int.tdiv (Int.tdiv x 100) 100)))))]) rfl dJ6_getChars_ba4f3_84 rfl ?_
        refine g_iload_n C 0 rfl dJ6_getChars_ba4f3_85 rfl ?_
        refine g_bipush C (by decide) dJ6_getChars_ba4f3_86 rfl ?_
        refine g_icmp_ge C (tgt := 104) ⟨by omega, by omega⟩ ⟨by decide, by decide⟩ dJ6_getChars_ba4f3_88 (by decide) rfl (fun c_65 => ?_) (fun c_65 => ?_)
        · refine g_iload C 6 rfl dJ6_getChars_ba4f3_104 rfl ?_
          refine g_if_eq C (tgt := 118) ⟨by decide, by decide⟩ dJ6_getChars_ba4f3_106 (by decide) rfl (fun c_66 => ?_) (fun c_66 => ?_)
          · exact absurd c_66 (by decide)
          refine g_aload_n C 2 rfl dJ6_getChars_ba4f3_109 rfl ?_
          refine g_iinc C (r := ((((((i + (-1)) + (-1)) + (-1)) + (-1)) + (-1)) + (-1))) (lv' := [(0, vI (Int.tdiv (Int.tdiv x 100) 100)), (1, vI i), (2, vR b), (3, vI (Int.tdiv (Int.tdiv x 100) 100)), (4, vI (((Int.tdiv (Int.tdiv x 100) 100) * 100) - (Int.tdiv x 100))), (5, vI ((((((i + (-1)) + (-1)) + (-1)) + (-1)) + (-1)) + (-1))), (6, vI 1)]) 5 [1, 2, 3, 4, 5, 0, 6] rfl rfl (by decide) rfl rfl dJ6_getChars_ba4f3_110 rfl ?_
          refine g_iload C 5 rfl dJ6_getChars_ba4f3_113 rfl ?_
          refine g_bipush C (by decide) dJ6_getChars_ba4f3_115 rfl ?_
          refine g_bast C 0 rfl (by omega) (by omega) (by omega) (by decide) (ws' := [(b, cB E N (ua (ua (ua (ua (ua (ua t (i + (-1)) (dgO (((Int.tdiv x 100) * 100) - x))) ((i + (-1)) + (-1)) (dgT (((Int.tdiv x 100) * 100) - x))) (((i + (-1)) + (-1)) + (-1)) (dgO (((Int.tdiv (Int.tdiv x 100) 100) * 100) - (Int.tdiv x 100)))) ((((i + (-1)) + (-1)) + (-1)) + (-1)) (dgT (((Int.tdiv (Int.tdiv x 100) 100) * 100) - (Int.tdiv x 100)))) (((((i + (-1)) + (-1)) + (-1)) + (-1)) + (-1)) (dgO (-(Int.tdiv (Int.tdiv x 100) 100)))) ((((((i + (-1)) + (-1)) + (-1)) + (-1)) + (-1)) + (-1)) 45))]) rfl dJ6_getChars_ba4f3_117 rfl ?_
          refine g_iload C 5 rfl dJ6_getChars_ba4f3_118 rfl ?_
          exact g_iret C hr rfl (Nat.le_of_ble_eq_true rfl) (Nat.le_of_ble_eq_true rfl) dJ6_getChars_ba4f3_120 ⟨((((((i + (-1)) + (-1)) + (-1)) + (-1)) + (-1)) + (-1)), (ua (ua (ua (ua (ua (ua t (i + (-1)) (dgO (((Int.tdiv x 100) * 100) - x))) ((i + (-1)) + (-1)) (dgT (((Int.tdiv x 100) * 100) - x))) (((i + (-1)) + (-1)) + (-1)) (dgO (((Int.tdiv (Int.tdiv x 100) 100) * 100) - (Int.tdiv x 100)))) ((((i + (-1)) + (-1)) + (-1)) + (-1)) (dgT (((Int.tdiv (Int.tdiv x 100) 100) * 100) - (Int.tdiv x 100)))) (((((i + (-1)) + (-1)) + (-1)) + (-1)) + (-1)) (dgO (-(Int.tdiv (Int.tdiv x 100) 100)))) ((((((i + (-1)) + (-1)) + (-1)) + (-1)) + (-1)) + (-1)) 45), rfl, rfl, (by repeat (first | exact hb | refine BX_u ?_ (by first | exact ch_O | exact ch_T ⟨by omega, by omega⟩ | exact ⟨by decide, by decide⟩))), (by rw [dgs_n (by omega), dgs_p5 (v := (-x)) (by omega)]; exact gc_6 (n := (L.length : Int)) rfl (TX_c hT (fun k h0 h1 => by unfold ua; (repeat' split) <;> first | rfl | omega)) (by unfold ua; (try unfold dgO); (try unfold dgT); (repeat' split) <;> omega) (by unfold ua; (try unfold dgO); (try unfold dgT); (repeat' split) <;> omega) (by unfold ua; (try unfold dgO); (try unfold dgT); (repeat' split) <;> omega) (by unfold ua; (try unfold dgO); (try unfold dgT); (repeat' split) <;> omega) (by unfold ua; (try unfold dgO); (try unfold dgT); (repeat' split) <;> omega) (by unfold ua; (try unfold dgO); (try unfold dgT); (repeat' split) <;> omega))⟩
        exfalso; omega
      exfalso; omega
    exact absurd c_59 (by decide)

theorem in_J5_append_c97b9_J4 : ∀ w ∈ u_ws RJ4 TJ4 4, w ∈ wsJ5_append_c97b9 := by decide +kernel
theorem fd_J5_append_c97b9_79 : fdk wsJ5_append_c97b9 RJ5 79 "java/lang/AbstractStringBuilder" RJ4 TJ4 4 3 := ⟨in_J5_append_c97b9_J4, by decide +kernel, by decide, rfl⟩
theorem hyd_J6_stringSize_0f7a4 : yJ6_stringSize_0f7a4.cls ≠ "java/lang/invoke/MethodHandle" ∧ yJ6_stringSize_0f7a4.cls ≠ "java/lang/invoke/VarHandle" ∧ (parseMethodDescriptor yJ6_stringSize_0f7a4.desc).map (fun d => d.parameters.length) = some 1 := by decide +kernel
theorem fd_J5_append_c97b9_15 : fdk wsJ5_append_c97b9 RJ5 15 "java/lang/AbstractStringBuilder" RJ4 TJ4 4 0 := ⟨in_J5_append_c97b9_J4, by decide +kernel, by decide, rfl⟩
theorem hyd_J6_getChars_ba4f3 : yJ6_getChars_ba4f3.cls ≠ "java/lang/invoke/MethodHandle" ∧ yJ6_getChars_ba4f3.cls ≠ "java/lang/invoke/VarHandle" ∧ (parseMethodDescriptor yJ6_getChars_ba4f3.desc).map (fun d => d.parameters.length) = some 3 := by decide +kernel
abbrev rm_K_appI5_k : Room := { frames := 1, cells := 0, slots := 0, locals := 26 }
set_option maxHeartbeats 1000000 in
set_option maxRecDepth 100000 in
theorem K_appI5_k (l : Launch) (E : Ev) (h b : Nat) (ml n : Int) (t : Int → Int) (N : Nat) (x : Int) (L : List Int) (hb : BX N t) (hT : TX t L) (hl : n = (L.length : Int)) (hg : n + dlen x ≤ (N : Int)) (hN : (N : Int) ≤ 1000) (hx : cb x) : Mc l yJ5_append_c97b9 wsJ5_append_c97b9 rm_K_appI5_k E [vR h, vI x] [(h, .inr (0, [vR b, vI 0, vI ml, vI n])), (b, cB E N t)] 0 0 (fun v9 w9 => ∃ (u9 : Int → Int), v9 = some (vR h) ∧ w9 = [(h, .inr (0, [vR b, vI 0, vI ml, vI (n + (dlen x))])), (b, cB E N u9)] ∧ BX N u9 ∧ TX u9 (L ++ dgs x)) := by
  refine Mc.intro (cc := cJ5_append_c97b9) (maxL := 4) (ret := (some (.object "java/lang/AbstractStringBuilder"))) (lv0 := [(0, vR h), (1, vI x)]) (by decide +kernel) rfl rfl (Nat.le_of_ble_eq_true rfl) ?_
  intro p9 e9 s9 m9 args9 below9 meth9 c9 A9 C hr hmn
  have C : Cx p9 s9 m9 args9 meth9 c9 E A9 4 cJ5_append_c97b9 wsJ5_append_c97b9 RJ5 := C
  have dr := dlen_r x
  refine g_aload_n C 0 rfl dJ5_append_c97b9_0 rfl ?_
  refine g_get C 0 fd_J5_append_c97b9_79 rfl rfl rfl dJ5_append_c97b9_1 rfl ?_
  refine g_istore_n C (lv' := [(0, vR h), (1, vI x), (2, vI n)]) [1, 2, 0] (by decide) rfl rfl dJ5_append_c97b9_4 rfl ?_
  refine g_iload_n C 2 rfl dJ5_append_c97b9_5 rfl ?_
  refine g_iload_n C 1 rfl dJ5_append_c97b9_6 rfl ?_
  refine g_callS C (As := [vI x]) (wc := []) (wr := [(h, .inr (0, [vR b, vI 0, vI ml, vI n])), (b, cB E N t)]) (st := [vI n]) gJ5_append_c97b9_J6_stringSize_0f7a4 rfl (K_strSize l E x hx) hyd_J6_stringSize_0f7a4 rfl [] [0, 1] rfl rfl rfl rfl rfl (by decide) ⟨rfl, rfl⟩ ⟨Nat.le_of_ble_eq_true rfl, Nat.le_of_ble_eq_true rfl, Nat.le_of_ble_eq_true rfl, Nat.le_of_ble_eq_true rfl⟩ (Nat.le_of_ble_eq_true rfl) dJ5_append_c97b9_7 (rfl : _ = 0) (rfl : _ = 0) rfl ?_
  rintro _ _ ⟨rfl, rfl⟩
  refine g_is (ws' := [(h, .inr (0, [vR b, vI 0, vI ml, vI n])), (b, cB E N t)]) (st' := [vI (dlen x), vI n]) rfl rfl ?_
  refine g_iadd C rfl dJ5_append_c97b9_10 rfl ?_
  refine g_istore_n C (lv' := [(0, vR h), (1, vI x), (2, vI n), (3, vI (n + (dlen x)))]) [1, 2, 3, 0] (by decide) rfl rfl dJ5_append_c97b9_11 rfl ?_
  refine g_aload_n C 0 rfl dJ5_append_c97b9_12 rfl ?_
  refine g_iload_n C 3 rfl dJ5_append_c97b9_13 rfl ?_
  refine g_callU C (b := h) (As := [vI (n + (dlen x))]) (wc := [(h, .inr (0, [vR b, vI 0, vI ml, vI n])), (b, cB E N t)]) (wr := []) (st := []) (q9 := 0) (ci := 0) (x := ⟨"java/lang/AbstractStringBuilder", yJ5_ensureCapacityInternal_d00df.name, yJ5_ensureCapacityInternal_d00df.desc⟩) (y := yJ5_ensureCapacityInternal_d00df) gJ5_append_c97b9_J5_ensureCapacityInternal_d00df_u100J4 rfl rfl rfl rfl (K_ens_k l E h b ml n t N (n + (dlen x)) (by first | assumption | omega) (by first | assumption | omega) hN) hyu_J5_ensureCapacityInternal_d00df rfl [0, 1] [] rfl rfl rfl rfl rfl (by decide) ⟨rfl, rfl⟩ ⟨Nat.le_of_ble_eq_true rfl, Nat.le_of_ble_eq_true rfl, Nat.le_of_ble_eq_true rfl, Nat.le_of_ble_eq_true rfl⟩ (Nat.le_of_ble_eq_true rfl) dJ5_append_c97b9_14 (rfl : _ = 0) (rfl : _ = 0) rfl ?_
  rintro _ _ ⟨rfl, rfl⟩
  refine g_is (ws' := [(h, .inr (0, [vR b, vI 0, vI ml, vI n])), (b, cB E N t)]) (st' := []) rfl rfl ?_
  refine g_aload_n C 0 rfl dJ5_append_c97b9_17 rfl ?_
  refine g_callU C (b := h) (As := []) (wc := [(h, .inr (0, [vR b, vI 0, vI ml, vI n]))]) (wr := [(b, cB E N t)]) (st := []) (q9 := 0) (ci := 0) (x := ⟨"java/lang/AbstractStringBuilder", yJ5_isLatin1_aae02.name, yJ5_isLatin1_aae02.desc⟩) (y := yJ5_isLatin1_aae02) gJ5_append_c97b9_J5_isLatin1_aae02_u83J4 rfl rfl rfl rfl (K_sb_lat l E h b ml n ) hyu_J5_isLatin1_aae02 rfl [0] [1] rfl rfl rfl rfl rfl (by decide) ⟨rfl, rfl⟩ ⟨Nat.le_of_ble_eq_true rfl, Nat.le_of_ble_eq_true rfl, Nat.le_of_ble_eq_true rfl, Nat.le_of_ble_eq_true rfl⟩ (Nat.le_of_ble_eq_true rfl) dJ5_append_c97b9_18 (rfl : _ = 0) (rfl : _ = 0) rfl ?_
  rintro _ _ ⟨rfl, rfl⟩
  refine g_is (ws' := [(b, cB E N t), (h, .inr (0, [vR b, vI 0, vI ml, vI n]))]) (st' := [vI 1]) rfl rfl ?_
  refine g_sub (ws' := [(h, .inr (0, [vR b, vI 0, vI ml, vI n])), (b, cB E N t)]) [1, 0] rfl rfl rfl ?_
  refine g_if_eq C (tgt := 37) ⟨by decide, by decide⟩ dJ5_append_c97b9_21 (by decide) rfl (fun c_1 => ?_) (fun c_1 => ?_)
  · exact absurd c_1 (by decide)
  refine g_iload_n C 1 rfl dJ5_append_c97b9_24 rfl ?_
  refine g_iload_n C 3 rfl dJ5_append_c97b9_25 rfl ?_
  refine g_aload_n C 0 rfl dJ5_append_c97b9_26 rfl ?_
  refine g_get C 0 fd_J5_append_c97b9_15 rfl rfl rfl dJ5_append_c97b9_27 rfl ?_
  refine g_callS C (As := [vI x, vI (n + (dlen x)), vR b]) (wc := [(b, cB E N t)]) (wr := [(h, .inr (0, [vR b, vI 0, vI ml, vI n]))]) (st := []) gJ5_append_c97b9_J6_getChars_ba4f3 rfl (K_getChars l E x (n + (dlen x)) b t N L hx (by omega) hg hN hb hT) hyd_J6_getChars_ba4f3 rfl [1] [0] rfl rfl rfl rfl rfl (by decide) ⟨rfl, rfl⟩ ⟨Nat.le_of_ble_eq_true rfl, Nat.le_of_ble_eq_true rfl, Nat.le_of_ble_eq_true rfl, Nat.le_of_ble_eq_true rfl⟩ (Nat.le_of_ble_eq_true rfl) dJ5_append_c97b9_30 (rfl : _ = 0) (rfl : _ = 0) rfl ?_
  rintro _ _ ⟨z9_2, u9_3, rfl, rfl, f_4, f_5⟩
  refine g_is (ws' := [(h, .inr (0, [vR b, vI 0, vI ml, vI n])), (b, cB E N u9_3)]) (st' := [vI z9_2]) rfl rfl ?_
  refine g_pop C rfl dJ5_append_c97b9_33 rfl ?_
  refine g_goto C (pc' := 48) dJ5_append_c97b9_34 (by decide) ?_
  refine g_aload_n C 0 rfl dJ5_append_c97b9_48 rfl ?_
  refine g_iload_n C 3 rfl dJ5_append_c97b9_49 rfl ?_
  refine g_put C tyJ4 tyJ4_ok nmJ4 0 fd_J5_append_c97b9_79 rfl rfl rfl rfl rfl rfl (Nat.le_of_ble_eq_true rfl) (ws' := [(h, .inr (0, [vR b, vI 0, vI ml, vI (n + (dlen x))])), (b, cB E N u9_3)]) rfl dJ5_append_c97b9_50 rfl ?_
  refine g_aload_n C 0 rfl dJ5_append_c97b9_53 rfl ?_
  exact g_aret C hr (Or.inl ⟨_, rfl⟩) (Nat.le_of_ble_eq_true rfl) (Nat.le_of_ble_eq_true rfl) dJ5_append_c97b9_54 ⟨u9_3, rfl, rfl, (by first | rfl | assumption | omega), (by first | rfl | assumption | omega)⟩

abbrev rm_K_appI5_16 : Room := { frames := 4, cells := 1, slots := 34, locals := 104 }
set_option maxHeartbeats 1000000 in
set_option maxRecDepth 100000 in
theorem K_appI5_16 (l : Launch) (E : Ev) (h b : Nat) (ml n : Int) (t : Int → Int) (x : Int) (L : List Int) (hb : BX 16 t) (hT : TX t L) (hl : n = (L.length : Int)) (hn : n ≤ 16) (hg : ¬ n + dlen x ≤ 16) (hx : cb x) : Mc l yJ5_append_c97b9 wsJ5_append_c97b9 rm_K_appI5_16 E [vR h, vI x] [(h, .inr (0, [vR b, vI 0, vI ml, vI n])), (b, cB E 16 t)] 1 34 (fun v9 w9 => ∃ (q9 : Nat) (u9 : Int → Int), v9 = some (vR h) ∧ w9 = [(h, .inr (0, [vR q9, vI 0, vI ml, vI (n + (dlen x))])), (q9, cB E 34 u9)] ∧ BX 34 u9 ∧ TX u9 (L ++ dgs x)) := by
  refine Mc.intro (cc := cJ5_append_c97b9) (maxL := 4) (ret := (some (.object "java/lang/AbstractStringBuilder"))) (lv0 := [(0, vR h), (1, vI x)]) (by decide +kernel) rfl rfl (Nat.le_of_ble_eq_true rfl) ?_
  intro p9 e9 s9 m9 args9 below9 meth9 c9 A9 C hr hmn
  have C : Cx p9 s9 m9 args9 meth9 c9 E A9 4 cJ5_append_c97b9 wsJ5_append_c97b9 RJ5 := C
  have dr := dlen_r x
  refine g_aload_n C 0 rfl dJ5_append_c97b9_0 rfl ?_
  refine g_get C 0 fd_J5_append_c97b9_79 rfl rfl rfl dJ5_append_c97b9_1 rfl ?_
  refine g_istore_n C (lv' := [(0, vR h), (1, vI x), (2, vI n)]) [1, 2, 0] (by decide) rfl rfl dJ5_append_c97b9_4 rfl ?_
  refine g_iload_n C 2 rfl dJ5_append_c97b9_5 rfl ?_
  refine g_iload_n C 1 rfl dJ5_append_c97b9_6 rfl ?_
  refine g_callS C (As := [vI x]) (wc := []) (wr := [(h, .inr (0, [vR b, vI 0, vI ml, vI n])), (b, cB E 16 t)]) (st := [vI n]) gJ5_append_c97b9_J6_stringSize_0f7a4 rfl (K_strSize l E x hx) hyd_J6_stringSize_0f7a4 rfl [] [0, 1] rfl rfl rfl rfl rfl (by decide) ⟨rfl, rfl⟩ ⟨Nat.le_of_ble_eq_true rfl, Nat.le_of_ble_eq_true rfl, Nat.le_of_ble_eq_true rfl, Nat.le_of_ble_eq_true rfl⟩ (Nat.le_of_ble_eq_true rfl) dJ5_append_c97b9_7 (rfl : _ = 0) (rfl : _ = 0) rfl ?_
  rintro _ _ ⟨rfl, rfl⟩
  refine g_is (ws' := [(h, .inr (0, [vR b, vI 0, vI ml, vI n])), (b, cB E 16 t)]) (st' := [vI (dlen x), vI n]) rfl rfl ?_
  refine g_iadd C rfl dJ5_append_c97b9_10 rfl ?_
  refine g_istore_n C (lv' := [(0, vR h), (1, vI x), (2, vI n), (3, vI (n + (dlen x)))]) [1, 2, 3, 0] (by decide) rfl rfl dJ5_append_c97b9_11 rfl ?_
  refine g_aload_n C 0 rfl dJ5_append_c97b9_12 rfl ?_
  refine g_iload_n C 3 rfl dJ5_append_c97b9_13 rfl ?_
  refine g_callU C (b := h) (As := [vI (n + (dlen x))]) (wc := [(h, .inr (0, [vR b, vI 0, vI ml, vI n])), (b, cB E 16 t)]) (wr := []) (st := []) (q9 := 0) (ci := 0) (x := ⟨"java/lang/AbstractStringBuilder", yJ5_ensureCapacityInternal_d00df.name, yJ5_ensureCapacityInternal_d00df.desc⟩) (y := yJ5_ensureCapacityInternal_d00df) gJ5_append_c97b9_J5_ensureCapacityInternal_d00df_u100J4 rfl rfl rfl rfl (K_ens_16 l E h b ml n t (n + (dlen x)) (by first | assumption | omega) hb) hyu_J5_ensureCapacityInternal_d00df rfl [0, 1] [] rfl rfl rfl rfl rfl (by decide) ⟨rfl, rfl⟩ ⟨Nat.le_of_ble_eq_true rfl, Nat.le_of_ble_eq_true rfl, Nat.le_of_ble_eq_true rfl, Nat.le_of_ble_eq_true rfl⟩ (Nat.le_of_ble_eq_true rfl) dJ5_append_c97b9_14 (rfl : _ = 1) (rfl : _ = 34) rfl ?_
  rintro _ _ ⟨q9_1, rfl, rfl⟩
  refine g_is (ws' := [(h, .inr (0, [vR q9_1, vI 0, vI ml, vI n])), (q9_1, cB E 34 (cpyT t (fun _ => 0) 0 0 16))]) (st' := []) rfl rfl ?_
  refine g_aload_n C 0 rfl dJ5_append_c97b9_17 rfl ?_
  refine g_callU C (b := h) (As := []) (wc := [(h, .inr (0, [vR q9_1, vI 0, vI ml, vI n]))]) (wr := [(q9_1, cB E 34 (cpyT t (fun _ => 0) 0 0 16))]) (st := []) (q9 := 0) (ci := 0) (x := ⟨"java/lang/AbstractStringBuilder", yJ5_isLatin1_aae02.name, yJ5_isLatin1_aae02.desc⟩) (y := yJ5_isLatin1_aae02) gJ5_append_c97b9_J5_isLatin1_aae02_u83J4 rfl rfl rfl rfl (K_sb_lat l E h q9_1 ml n ) hyu_J5_isLatin1_aae02 rfl [0] [1] rfl rfl rfl rfl rfl (by decide) ⟨rfl, rfl⟩ ⟨Nat.le_of_ble_eq_true rfl, Nat.le_of_ble_eq_true rfl, Nat.le_of_ble_eq_true rfl, Nat.le_of_ble_eq_true rfl⟩ (Nat.le_of_ble_eq_true rfl) dJ5_append_c97b9_18 (rfl : _ = 1) (rfl : _ = 34) rfl ?_
  rintro _ _ ⟨rfl, rfl⟩
  refine g_is (ws' := [(q9_1, cB E 34 (cpyT t (fun _ => 0) 0 0 16)), (h, .inr (0, [vR q9_1, vI 0, vI ml, vI n]))]) (st' := [vI 1]) rfl rfl ?_
  refine g_sub (ws' := [(h, .inr (0, [vR q9_1, vI 0, vI ml, vI n])), (q9_1, cB E 34 (cpyT t (fun _ => 0) 0 0 16))]) [1, 0] rfl rfl rfl ?_
  refine g_if_eq C (tgt := 37) ⟨by decide, by decide⟩ dJ5_append_c97b9_21 (by decide) rfl (fun c_2 => ?_) (fun c_2 => ?_)
  · exact absurd c_2 (by decide)
  refine g_iload_n C 1 rfl dJ5_append_c97b9_24 rfl ?_
  refine g_iload_n C 3 rfl dJ5_append_c97b9_25 rfl ?_
  refine g_aload_n C 0 rfl dJ5_append_c97b9_26 rfl ?_
  refine g_get C 0 fd_J5_append_c97b9_15 rfl rfl rfl dJ5_append_c97b9_27 rfl ?_
  refine g_callS C (As := [vI x, vI (n + (dlen x)), vR q9_1]) (wc := [(q9_1, cB E 34 (cpyT t (fun _ => 0) 0 0 16))]) (wr := [(h, .inr (0, [vR q9_1, vI 0, vI ml, vI n]))]) (st := []) gJ5_append_c97b9_J6_getChars_ba4f3 rfl (K_getChars l E x (n + (dlen x)) q9_1 (cpyT t (fun _ => 0) 0 0 16) 34 L hx (by omega) (by omega) (by first | assumption | omega) (BX_g (N := 16) hb) (TX_g (N := 16) hT (by omega))) hyd_J6_getChars_ba4f3 rfl [1] [0] rfl rfl rfl rfl rfl (by decide) ⟨rfl, rfl⟩ ⟨Nat.le_of_ble_eq_true rfl, Nat.le_of_ble_eq_true rfl, Nat.le_of_ble_eq_true rfl, Nat.le_of_ble_eq_true rfl⟩ (Nat.le_of_ble_eq_true rfl) dJ5_append_c97b9_30 (rfl : _ = 1) (rfl : _ = 34) rfl ?_
  rintro _ _ ⟨z9_3, u9_4, rfl, rfl, f_5, f_6⟩
  refine g_is (ws' := [(h, .inr (0, [vR q9_1, vI 0, vI ml, vI n])), (q9_1, cB E 34 u9_4)]) (st' := [vI z9_3]) rfl rfl ?_
  refine g_pop C rfl dJ5_append_c97b9_33 rfl ?_
  refine g_goto C (pc' := 48) dJ5_append_c97b9_34 (by decide) ?_
  refine g_aload_n C 0 rfl dJ5_append_c97b9_48 rfl ?_
  refine g_iload_n C 3 rfl dJ5_append_c97b9_49 rfl ?_
  refine g_put C tyJ4 tyJ4_ok nmJ4 0 fd_J5_append_c97b9_79 rfl rfl rfl rfl rfl rfl (Nat.le_of_ble_eq_true rfl) (ws' := [(h, .inr (0, [vR q9_1, vI 0, vI ml, vI (n + (dlen x))])), (q9_1, cB E 34 u9_4)]) rfl dJ5_append_c97b9_50 rfl ?_
  refine g_aload_n C 0 rfl dJ5_append_c97b9_53 rfl ?_
  exact g_aret C hr (Or.inl ⟨_, rfl⟩) (Nat.le_of_ble_eq_true rfl) (Nat.le_of_ble_eq_true rfl) dJ5_append_c97b9_54 ⟨q9_1, u9_4, rfl, rfl, (by first | rfl | assumption | omega), (by first | rfl | assumption | omega)⟩

abbrev rm_K_appI5_34 : Room := { frames := 4, cells := 1, slots := 70, locals := 104 }
set_option maxHeartbeats 1000000 in
set_option maxRecDepth 100000 in
theorem K_appI5_34 (l : Launch) (E : Ev) (h b : Nat) (ml n : Int) (t : Int → Int) (x : Int) (L : List Int) (hb : BX 34 t) (hT : TX t L) (hl : n = (L.length : Int)) (hn : n ≤ 34) (hg : ¬ n + dlen x ≤ 34) (hx : cb x) : Mc l yJ5_append_c97b9 wsJ5_append_c97b9 rm_K_appI5_34 E [vR h, vI x] [(h, .inr (0, [vR b, vI 0, vI ml, vI n])), (b, cB E 34 t)] 1 70 (fun v9 w9 => ∃ (q9 : Nat) (u9 : Int → Int), v9 = some (vR h) ∧ w9 = [(h, .inr (0, [vR q9, vI 0, vI ml, vI (n + (dlen x))])), (q9, cB E 70 u9)] ∧ BX 70 u9 ∧ TX u9 (L ++ dgs x)) := by
  refine Mc.intro (cc := cJ5_append_c97b9) (maxL := 4) (ret := (some (.object "java/lang/AbstractStringBuilder"))) (lv0 := [(0, vR h), (1, vI x)]) (by decide +kernel) rfl rfl (Nat.le_of_ble_eq_true rfl) ?_
  intro p9 e9 s9 m9 args9 below9 meth9 c9 A9 C hr hmn
  have C : Cx p9 s9 m9 args9 meth9 c9 E A9 4 cJ5_append_c97b9 wsJ5_append_c97b9 RJ5 := C
  have dr := dlen_r x
  refine g_aload_n C 0 rfl dJ5_append_c97b9_0 rfl ?_
  refine g_get C 0 fd_J5_append_c97b9_79 rfl rfl rfl dJ5_append_c97b9_1 rfl ?_
  refine g_istore_n C (lv' := [(0, vR h), (1, vI x), (2, vI n)]) [1, 2, 0] (by decide) rfl rfl dJ5_append_c97b9_4 rfl ?_
  refine g_iload_n C 2 rfl dJ5_append_c97b9_5 rfl ?_
  refine g_iload_n C 1 rfl dJ5_append_c97b9_6 rfl ?_
  refine g_callS C (As := [vI x]) (wc := []) (wr := [(h, .inr (0, [vR b, vI 0, vI ml, vI n])), (b, cB E 34 t)]) (st := [vI n]) gJ5_append_c97b9_J6_stringSize_0f7a4 rfl (K_strSize l E x hx) hyd_J6_stringSize_0f7a4 rfl [] [0, 1] rfl rfl rfl rfl rfl (by decide) ⟨rfl, rfl⟩ ⟨Nat.le_of_ble_eq_true rfl, Nat.le_of_ble_eq_true rfl, Nat.le_of_ble_eq_true rfl, Nat.le_of_ble_eq_true rfl⟩ (Nat.le_of_ble_eq_true rfl) dJ5_append_c97b9_7 (rfl : _ = 0) (rfl : _ = 0) rfl ?_
  rintro _ _ ⟨rfl, rfl⟩
  refine g_is (ws' := [(h, .inr (0, [vR b, vI 0, vI ml, vI n])), (b, cB E 34 t)]) (st' := [vI (dlen x), vI n]) rfl rfl ?_
  refine g_iadd C rfl dJ5_append_c97b9_10 rfl ?_
  refine g_istore_n C (lv' := [(0, vR h), (1, vI x), (2, vI n), (3, vI (n + (dlen x)))]) [1, 2, 3, 0] (by decide) rfl rfl dJ5_append_c97b9_11 rfl ?_
  refine g_aload_n C 0 rfl dJ5_append_c97b9_12 rfl ?_
  refine g_iload_n C 3 rfl dJ5_append_c97b9_13 rfl ?_
  refine g_callU C (b := h) (As := [vI (n + (dlen x))]) (wc := [(h, .inr (0, [vR b, vI 0, vI ml, vI n])), (b, cB E 34 t)]) (wr := []) (st := []) (q9 := 0) (ci := 0) (x := ⟨"java/lang/AbstractStringBuilder", yJ5_ensureCapacityInternal_d00df.name, yJ5_ensureCapacityInternal_d00df.desc⟩) (y := yJ5_ensureCapacityInternal_d00df) gJ5_append_c97b9_J5_ensureCapacityInternal_d00df_u100J4 rfl rfl rfl rfl (K_ens_34 l E h b ml n t (n + (dlen x)) (by first | assumption | omega) hb) hyu_J5_ensureCapacityInternal_d00df rfl [0, 1] [] rfl rfl rfl rfl rfl (by decide) ⟨rfl, rfl⟩ ⟨Nat.le_of_ble_eq_true rfl, Nat.le_of_ble_eq_true rfl, Nat.le_of_ble_eq_true rfl, Nat.le_of_ble_eq_true rfl⟩ (Nat.le_of_ble_eq_true rfl) dJ5_append_c97b9_14 (rfl : _ = 1) (rfl : _ = 70) rfl ?_
  rintro _ _ ⟨q9_1, rfl, rfl⟩
  refine g_is (ws' := [(h, .inr (0, [vR q9_1, vI 0, vI ml, vI n])), (q9_1, cB E 70 (cpyT t (fun _ => 0) 0 0 34))]) (st' := []) rfl rfl ?_
  refine g_aload_n C 0 rfl dJ5_append_c97b9_17 rfl ?_
  refine g_callU C (b := h) (As := []) (wc := [(h, .inr (0, [vR q9_1, vI 0, vI ml, vI n]))]) (wr := [(q9_1, cB E 70 (cpyT t (fun _ => 0) 0 0 34))]) (st := []) (q9 := 0) (ci := 0) (x := ⟨"java/lang/AbstractStringBuilder", yJ5_isLatin1_aae02.name, yJ5_isLatin1_aae02.desc⟩) (y := yJ5_isLatin1_aae02) gJ5_append_c97b9_J5_isLatin1_aae02_u83J4 rfl rfl rfl rfl (K_sb_lat l E h q9_1 ml n ) hyu_J5_isLatin1_aae02 rfl [0] [1] rfl rfl rfl rfl rfl (by decide) ⟨rfl, rfl⟩ ⟨Nat.le_of_ble_eq_true rfl, Nat.le_of_ble_eq_true rfl, Nat.le_of_ble_eq_true rfl, Nat.le_of_ble_eq_true rfl⟩ (Nat.le_of_ble_eq_true rfl) dJ5_append_c97b9_18 (rfl : _ = 1) (rfl : _ = 70) rfl ?_
  rintro _ _ ⟨rfl, rfl⟩
  refine g_is (ws' := [(q9_1, cB E 70 (cpyT t (fun _ => 0) 0 0 34)), (h, .inr (0, [vR q9_1, vI 0, vI ml, vI n]))]) (st' := [vI 1]) rfl rfl ?_
  refine g_sub (ws' := [(h, .inr (0, [vR q9_1, vI 0, vI ml, vI n])), (q9_1, cB E 70 (cpyT t (fun _ => 0) 0 0 34))]) [1, 0] rfl rfl rfl ?_
  refine g_if_eq C (tgt := 37) ⟨by decide, by decide⟩ dJ5_append_c97b9_21 (by decide) rfl (fun c_2 => ?_) (fun c_2 => ?_)
  · exact absurd c_2 (by decide)
  refine g_iload_n C 1 rfl dJ5_append_c97b9_24 rfl ?_
  refine g_iload_n C 3 rfl dJ5_append_c97b9_25 rfl ?_
  refine g_aload_n C 0 rfl dJ5_append_c97b9_26 rfl ?_
  refine g_get C 0 fd_J5_append_c97b9_15 rfl rfl rfl dJ5_append_c97b9_27 rfl ?_
  refine g_callS C (As := [vI x, vI (n + (dlen x)), vR q9_1]) (wc := [(q9_1, cB E 70 (cpyT t (fun _ => 0) 0 0 34))]) (wr := [(h, .inr (0, [vR q9_1, vI 0, vI ml, vI n]))]) (st := []) gJ5_append_c97b9_J6_getChars_ba4f3 rfl (K_getChars l E x (n + (dlen x)) q9_1 (cpyT t (fun _ => 0) 0 0 34) 70 L hx (by omega) (by omega) (by first | assumption | omega) (BX_g (N := 34) hb) (TX_g (N := 34) hT (by omega))) hyd_J6_getChars_ba4f3 rfl [1] [0] rfl rfl rfl rfl rfl (by decide) ⟨rfl, rfl⟩ ⟨Nat.le_of_ble_eq_true rfl, Nat.le_of_ble_eq_true rfl, Nat.le_of_ble_eq_true rfl, Nat.le_of_ble_eq_true rfl⟩ (Nat.le_of_ble_eq_true rfl) dJ5_append_c97b9_30 (rfl : _ = 1) (rfl : _ = 70) rfl ?_
  rintro _ _ ⟨z9_3, u9_4, rfl, rfl, f_5, f_6⟩
  refine g_is (ws' := [(h, .inr (0, [vR q9_1, vI 0, vI ml, vI n])), (q9_1, cB E 70 u9_4)]) (st' := [vI z9_3]) rfl rfl ?_
  refine g_pop C rfl dJ5_append_c97b9_33 rfl ?_
  refine g_goto C (pc' := 48) dJ5_append_c97b9_34 (by decide) ?_
  refine g_aload_n C 0 rfl dJ5_append_c97b9_48 rfl ?_
  refine g_iload_n C 3 rfl dJ5_append_c97b9_49 rfl ?_
  refine g_put C tyJ4 tyJ4_ok nmJ4 0 fd_J5_append_c97b9_79 rfl rfl rfl rfl rfl rfl (Nat.le_of_ble_eq_true rfl) (ws' := [(h, .inr (0, [vR q9_1, vI 0, vI ml, vI (n + (dlen x))])), (q9_1, cB E 70 u9_4)]) rfl dJ5_append_c97b9_50 rfl ?_
  refine g_aload_n C 0 rfl dJ5_append_c97b9_53 rfl ?_
  exact g_aret C hr (Or.inl ⟨_, rfl⟩) (Nat.le_of_ble_eq_true rfl) (Nat.le_of_ble_eq_true rfl) dJ5_append_c97b9_54 ⟨q9_1, u9_4, rfl, rfl, (by first | rfl | assumption | omega), (by first | rfl | assumption | omega)⟩

abbrev rm_K_appI5_70 : Room := { frames := 4, cells := 1, slots := 142, locals := 104 }
set_option maxHeartbeats 1000000 in
set_option maxRecDepth 100000 in
theorem K_appI5_70 (l : Launch) (E : Ev) (h b : Nat) (ml n : Int) (t : Int → Int) (x : Int) (L : List Int) (hb : BX 70 t) (hT : TX t L) (hl : n = (L.length : Int)) (hn : n ≤ 70) (hg : ¬ n + dlen x ≤ 70) (hx : cb x) : Mc l yJ5_append_c97b9 wsJ5_append_c97b9 rm_K_appI5_70 E [vR h, vI x] [(h, .inr (0, [vR b, vI 0, vI ml, vI n])), (b, cB E 70 t)] 1 142 (fun v9 w9 => ∃ (q9 : Nat) (u9 : Int → Int), v9 = some (vR h) ∧ w9 = [(h, .inr (0, [vR q9, vI 0, vI ml, vI (n + (dlen x))])), (q9, cB E 142 u9)] ∧ BX 142 u9 ∧ TX u9 (L ++ dgs x)) := by
  refine Mc.intro (cc := cJ5_append_c97b9) (maxL := 4) (ret := (some (.object "java/lang/AbstractStringBuilder"))) (lv0 := [(0, vR h), (1, vI x)]) (by decide +kernel) rfl rfl (Nat.le_of_ble_eq_true rfl) ?_
  intro p9 e9 s9 m9 args9 below9 meth9 c9 A9 C hr hmn
  have C : Cx p9 s9 m9 args9 meth9 c9 E A9 4 cJ5_append_c97b9 wsJ5_append_c97b9 RJ5 := C
  have dr := dlen_r x
  refine g_aload_n C 0 rfl dJ5_append_c97b9_0 rfl ?_
  refine g_get C 0 fd_J5_append_c97b9_79 rfl rfl rfl dJ5_append_c97b9_1 rfl ?_
  refine g_istore_n C (lv' := [(0, vR h), (1, vI x), (2, vI n)]) [1, 2, 0] (by decide) rfl rfl dJ5_append_c97b9_4 rfl ?_
  refine g_iload_n C 2 rfl dJ5_append_c97b9_5 rfl ?_
  refine g_iload_n C 1 rfl dJ5_append_c97b9_6 rfl ?_
  refine g_callS C (As := [vI x]) (wc := []) (wr := [(h, .inr (0, [vR b, vI 0, vI ml, vI n])), (b, cB E 70 t)]) (st := [vI n]) gJ5_append_c97b9_J6_stringSize_0f7a4 rfl (K_strSize l E x hx) hyd_J6_stringSize_0f7a4 rfl [] [0, 1] rfl rfl rfl rfl rfl (by decide) ⟨rfl, rfl⟩ ⟨Nat.le_of_ble_eq_true rfl, Nat.le_of_ble_eq_true rfl, Nat.le_of_ble_eq_true rfl, Nat.le_of_ble_eq_true rfl⟩ (Nat.le_of_ble_eq_true rfl) dJ5_append_c97b9_7 (rfl : _ = 0) (rfl : _ = 0) rfl ?_
  rintro _ _ ⟨rfl, rfl⟩
  refine g_is (ws' := [(h, .inr (0, [vR b, vI 0, vI ml, vI n])), (b, cB E 70 t)]) (st' := [vI (dlen x), vI n]) rfl rfl ?_
  refine g_iadd C rfl dJ5_append_c97b9_10 rfl ?_
  refine g_istore_n C (lv' := [(0, vR h), (1, vI x), (2, vI n), (3, vI (n + (dlen x)))]) [1, 2, 3, 0] (by decide) rfl rfl dJ5_append_c97b9_11 rfl ?_
  refine g_aload_n C 0 rfl dJ5_append_c97b9_12 rfl ?_
  refine g_iload_n C 3 rfl dJ5_append_c97b9_13 rfl ?_
  refine g_callU C (b := h) (As := [vI (n + (dlen x))]) (wc := [(h, .inr (0, [vR b, vI 0, vI ml, vI n])), (b, cB E 70 t)]) (wr := []) (st := []) (q9 := 0) (ci := 0) (x := ⟨"java/lang/AbstractStringBuilder", yJ5_ensureCapacityInternal_d00df.name, yJ5_ensureCapacityInternal_d00df.desc⟩) (y := yJ5_ensureCapacityInternal_d00df) gJ5_append_c97b9_J5_ensureCapacityInternal_d00df_u100J4 rfl rfl rfl rfl (K_ens_70 l E h b ml n t (n + (dlen x)) (by first | assumption | omega) hb) hyu_J5_ensureCapacityInternal_d00df rfl [0, 1] [] rfl rfl rfl rfl rfl (by decide) ⟨rfl, rfl⟩ ⟨Nat.le_of_ble_eq_true rfl, Nat.le_of_ble_eq_true rfl, Nat.le_of_ble_eq_true rfl, Nat.le_of_ble_eq_true rfl⟩ (Nat.le_of_ble_eq_true rfl) dJ5_append_c97b9_14 (rfl : _ = 1) (rfl : _ = 142) rfl ?_
  rintro _ _ ⟨q9_1, rfl, rfl⟩
  refine g_is (ws' := [(h, .inr (0, [vR q9_1, vI 0, vI ml, vI n])), (q9_1, cB E 142 (cpyT t (fun _ => 0) 0 0 70))]) (st' := []) rfl rfl ?_
  refine g_aload_n C 0 rfl dJ5_append_c97b9_17 rfl ?_
  refine g_callU C (b := h) (As := []) (wc := [(h, .inr (0, [vR q9_1, vI 0, vI ml, vI n]))]) (wr := [(q9_1, cB E 142 (cpyT t (fun _ => 0) 0 0 70))]) (st := []) (q9 := 0) (ci := 0) (x := ⟨"java/lang/AbstractStringBuilder", yJ5_isLatin1_aae02.name, yJ5_isLatin1_aae02.desc⟩) (y := yJ5_isLatin1_aae02) gJ5_append_c97b9_J5_isLatin1_aae02_u83J4 rfl rfl rfl rfl (K_sb_lat l E h q9_1 ml n ) hyu_J5_isLatin1_aae02 rfl [0] [1] rfl rfl rfl rfl rfl (by decide) ⟨rfl, rfl⟩ ⟨Nat.le_of_ble_eq_true rfl, Nat.le_of_ble_eq_true rfl, Nat.le_of_ble_eq_true rfl, Nat.le_of_ble_eq_true rfl⟩ (Nat.le_of_ble_eq_true rfl) dJ5_append_c97b9_18 (rfl : _ = 1) (rfl : _ = 142) rfl ?_
  rintro _ _ ⟨rfl, rfl⟩
  refine g_is (ws' := [(q9_1, cB E 142 (cpyT t (fun _ => 0) 0 0 70)), (h, .inr (0, [vR q9_1, vI 0, vI ml, vI n]))]) (st' := [vI 1]) rfl rfl ?_
  refine g_sub (ws' := [(h, .inr (0, [vR q9_1, vI 0, vI ml, vI n])), (q9_1, cB E 142 (cpyT t (fun _ => 0) 0 0 70))]) [1, 0] rfl rfl rfl ?_
  refine g_if_eq C (tgt := 37) ⟨by decide, by decide⟩ dJ5_append_c97b9_21 (by decide) rfl (fun c_2 => ?_) (fun c_2 => ?_)
  · exact absurd c_2 (by decide)
  refine g_iload_n C 1 rfl dJ5_append_c97b9_24 rfl ?_
  refine g_iload_n C 3 rfl dJ5_append_c97b9_25 rfl ?_
  refine g_aload_n C 0 rfl dJ5_append_c97b9_26 rfl ?_
  refine g_get C 0 fd_J5_append_c97b9_15 rfl rfl rfl dJ5_append_c97b9_27 rfl ?_
  refine g_callS C (As := [vI x, vI (n + (dlen x)), vR q9_1]) (wc := [(q9_1, cB E 142 (cpyT t (fun _ => 0) 0 0 70))]) (wr := [(h, .inr (0, [vR q9_1, vI 0, vI ml, vI n]))]) (st := []) gJ5_append_c97b9_J6_getChars_ba4f3 rfl (K_getChars l E x (n + (dlen x)) q9_1 (cpyT t (fun _ => 0) 0 0 70) 142 L hx (by omega) (by omega) (by first | assumption | omega) (BX_g (N := 70) hb) (TX_g (N := 70) hT (by omega))) hyd_J6_getChars_ba4f3 rfl [1] [0] rfl rfl rfl rfl rfl (by decide) ⟨rfl, rfl⟩ ⟨Nat.le_of_ble_eq_true rfl, Nat.le_of_ble_eq_true rfl, Nat.le_of_ble_eq_true rfl, Nat.le_of_ble_eq_true rfl⟩ (Nat.le_of_ble_eq_true rfl) dJ5_append_c97b9_30 (rfl : _ = 1) (rfl : _ = 142) rfl ?_
  rintro _ _ ⟨z9_3, u9_4, rfl, rfl, f_5, f_6⟩
  refine g_is (ws' := [(h, .inr (0, [vR q9_1, vI 0, vI ml, vI n])), (q9_1, cB E 142 u9_4)]) (st' := [vI z9_3]) rfl rfl ?_
  refine g_pop C rfl dJ5_append_c97b9_33 rfl ?_
  refine g_goto C (pc' := 48) dJ5_append_c97b9_34 (by decide) ?_
  refine g_aload_n C 0 rfl dJ5_append_c97b9_48 rfl ?_
  refine g_iload_n C 3 rfl dJ5_append_c97b9_49 rfl ?_
  refine g_put C tyJ4 tyJ4_ok nmJ4 0 fd_J5_append_c97b9_79 rfl rfl rfl rfl rfl rfl (Nat.le_of_ble_eq_true rfl) (ws' := [(h, .inr (0, [vR q9_1, vI 0, vI ml, vI (n + (dlen x))])), (q9_1, cB E 142 u9_4)]) rfl dJ5_append_c97b9_50 rfl ?_
  refine g_aload_n C 0 rfl dJ5_append_c97b9_53 rfl ?_
  exact g_aret C hr (Or.inl ⟨_, rfl⟩) (Nat.le_of_ble_eq_true rfl) (Nat.le_of_ble_eq_true rfl) dJ5_append_c97b9_54 ⟨q9_1, u9_4, rfl, rfl, (by first | rfl | assumption | omega), (by first | rfl | assumption | omega)⟩

theorem hyd_J5_append_c97b9 : yJ5_append_c97b9.cls ≠ "java/lang/invoke/MethodHandle" ∧ yJ5_append_c97b9.cls ≠ "java/lang/invoke/VarHandle" ∧ (parseMethodDescriptor yJ5_append_c97b9.desc).map (fun d => d.parameters.length) = some 1 := by decide +kernel
theorem hys_J5_append_c97b9 : yJ5_append_c97b9.name ≠ "<init>" ∧ (parseMethodDescriptor yJ5_append_c97b9.desc).map (fun d => d.parameters.length) = some 1 := by decide +kernel
abbrev rm_K_appI : Room := { frames := 5, cells := 1, slots := 142, locals := 127 }
set_option maxHeartbeats 1000000 in
set_option maxRecDepth 100000 in
theorem K_appI (l : Launch) (E : Ev) (h b : Nat) (ml n : Int) (t : Int → Int) (N : Nat) (x : Int) (L : List Int) (hC : CP N) (hb : BX N t) (hT : TX t L) (hl : n = (L.length : Int)) (hnN : n ≤ (N : Int)) (hn : n ≤ 130) (hx : cb x) : Mc l yJ4_append_bf812 wsJ4_append_bf812 rm_K_appI E [vR h, vI x] [(h, .inr (0, [vR b, vI 0, vI ml, vI n])), (b, cB E N t)] 1 142 (fun v9 w9 => ∃ (q9 : Nat) (M9 : Nat) (u9 : Int → Int), v9 = some (vR h) ∧ w9 = [(h, .inr (0, [vR q9, vI 0, vI ml, vI (n + (dlen x))])), (q9, cB E M9 u9)] ∧ CP M9 ∧ BX M9 u9 ∧ TX u9 (L ++ dgs x) ∧ n + dlen x ≤ (M9 : Int)) := by
  refine Mc.intro (cc := cJ4_append_bf812) (maxL := 2) (ret := (some (.object "java/lang/StringBuilder"))) (lv0 := [(0, vR h), (1, vI x)]) (by decide +kernel) rfl rfl (Nat.le_of_ble_eq_true rfl) ?_
  intro p9 e9 s9 m9 args9 below9 meth9 c9 A9 C hr hmn
  have C : Cx p9 s9 m9 args9 meth9 c9 E A9 2 cJ4_append_bf812 wsJ4_append_bf812 RJ4 := C
  rcases hC with rfl | rfl | rfl | rfl
  · have hnN : n ≤ 16 := hnN
    by_cases hg : n + dlen x ≤ 16
    · refine g_aload_n C 0 rfl dJ4_append_bf812_0 rfl ?_
      refine g_iload_n C 1 rfl dJ4_append_bf812_1 rfl ?_
      refine g_callSU C (b := h) (As := [vI x]) (wc := [(h, .inr (0, [vR b, vI 0, vI ml, vI n])), (b, cB E 16 t)]) (wr := []) (st := []) gJ4_append_bf812_J5_append_c97b9_s53 (q9 := 0) (ci := 0) rfl rfl rfl (K_appI5_k l E h b ml n t 16 x L hb hT hl (by first | assumption | omega) (by first | assumption | omega) hx) hys_J5_append_c97b9 rfl [0, 1] [] rfl rfl rfl rfl rfl (by decide) ⟨rfl, rfl⟩ ⟨Nat.le_of_ble_eq_true rfl, Nat.le_of_ble_eq_true rfl, Nat.le_of_ble_eq_true rfl, Nat.le_of_ble_eq_true rfl⟩ (Nat.le_of_ble_eq_true rfl) dJ4_append_bf812_2 (rfl : _ = 0) (rfl : _ = 0) rfl ?_
      rintro _ _ ⟨u9_1, rfl, rfl, f_2, f_3⟩
      refine g_is (ws' := [(h, .inr (0, [vR b, vI 0, vI ml, vI (n + (dlen x))])), (b, cB E 16 u9_1)]) (st' := [vR h]) rfl rfl ?_
      refine g_pop C rfl dJ4_append_bf812_5 rfl ?_
      refine g_aload_n C 0 rfl dJ4_append_bf812_6 rfl ?_
      exact g_aret C hr (Or.inl ⟨_, rfl⟩) (Nat.le_of_ble_eq_true rfl) (Nat.le_of_ble_eq_true rfl) dJ4_append_bf812_7 ⟨b, 16, u9_1, rfl, rfl, (by unfold CP; omega), (by assumption), (by assumption), (by have dr := dlen_r x; omega)⟩
    · refine g_aload_n C 0 rfl dJ4_append_bf812_0 rfl ?_
      refine g_iload_n C 1 rfl dJ4_append_bf812_1 rfl ?_
      refine g_callSU C (b := h) (As := [vI x]) (wc := [(h, .inr (0, [vR b, vI 0, vI ml, vI n])), (b, cB E 16 t)]) (wr := []) (st := []) gJ4_append_bf812_J5_append_c97b9_s53 (q9 := 0) (ci := 0) rfl rfl rfl (K_appI5_16 l E h b ml n t x L hb hT hl (by first | assumption | omega) hg hx) hys_J5_append_c97b9 rfl [0, 1] [] rfl rfl rfl rfl rfl (by decide) ⟨rfl, rfl⟩ ⟨Nat.le_of_ble_eq_true rfl, Nat.le_of_ble_eq_true rfl, Nat.le_of_ble_eq_true rfl, Nat.le_of_ble_eq_true rfl⟩ (Nat.le_of_ble_eq_true rfl) dJ4_append_bf812_2 (rfl : _ = 1) (rfl : _ = 34) rfl ?_
      rintro _ _ ⟨q9_4, u9_5, rfl, rfl, f_6, f_7⟩
      refine g_is (ws' := [(h, .inr (0, [vR q9_4, vI 0, vI ml, vI (n + (dlen x))])), (q9_4, cB E 34 u9_5)]) (st' := [vR h]) rfl rfl ?_
      refine g_pop C rfl dJ4_append_bf812_5 rfl ?_
      refine g_aload_n C 0 rfl dJ4_append_bf812_6 rfl ?_
      exact g_aret C hr (Or.inl ⟨_, rfl⟩) (Nat.le_of_ble_eq_true rfl) (Nat.le_of_ble_eq_true rfl) dJ4_append_bf812_7 ⟨q9_4, 34, u9_5, rfl, rfl, (by unfold CP; omega), (by assumption), (by assumption), (by have dr := dlen_r x; omega)⟩
  · have hnN : n ≤ 34 := hnN
    by_cases hg : n + dlen x ≤ 34
    · refine g_aload_n C 0 rfl dJ4_append_bf812_0 rfl ?_
      refine g_iload_n C 1 rfl dJ4_append_bf812_1 rfl ?_
      refine g_callSU C (b := h) (As := [vI x]) (wc := [(h, .inr (0, [vR b, vI 0, vI ml, vI n])), (b, cB E 34 t)]) (wr := []) (st := []) gJ4_append_bf812_J5_append_c97b9_s53 (q9 := 0) (ci := 0) rfl rfl rfl (K_appI5_k l E h b ml n t 34 x L hb hT hl (by first | assumption | omega) (by first | assumption | omega) hx) hys_J5_append_c97b9 rfl [0, 1] [] rfl rfl rfl rfl rfl (by decide) ⟨rfl, rfl⟩ ⟨Nat.le_of_ble_eq_true rfl, Nat.le_of_ble_eq_true rfl, Nat.le_of_ble_eq_true rfl, Nat.le_of_ble_eq_true rfl⟩ (Nat.le_of_ble_eq_true rfl) dJ4_append_bf812_2 (rfl : _ = 0) (rfl : _ = 0) rfl ?_
      rintro _ _ ⟨u9_8, rfl, rfl, f_9, f_10⟩
      refine g_is (ws' := [(h, .inr (0, [vR b, vI 0, vI ml, vI (n + (dlen x))])), (b, cB E 34 u9_8)]) (st' := [vR h]) rfl rfl ?_
      refine g_pop C rfl dJ4_append_bf812_5 rfl ?_
      refine g_aload_n C 0 rfl dJ4_append_bf812_6 rfl ?_
      exact g_aret C hr (Or.inl ⟨_, rfl⟩) (Nat.le_of_ble_eq_true rfl) (Nat.le_of_ble_eq_true rfl) dJ4_append_bf812_7 ⟨b, 34, u9_8, rfl, rfl, (by unfold CP; omega), (by assumption), (by assumption), (by have dr := dlen_r x; omega)⟩
    · refine g_aload_n C 0 rfl dJ4_append_bf812_0 rfl ?_
      refine g_iload_n C 1 rfl dJ4_append_bf812_1 rfl ?_
      refine g_callSU C (b := h) (As := [vI x]) (wc := [(h, .inr (0, [vR b, vI 0, vI ml, vI n])), (b, cB E 34 t)]) (wr := []) (st := []) gJ4_append_bf812_J5_append_c97b9_s53 (q9 := 0) (ci := 0) rfl rfl rfl (K_appI5_34 l E h b ml n t x L hb hT hl (by first | assumption | omega) hg hx) hys_J5_append_c97b9 rfl [0, 1] [] rfl rfl rfl rfl rfl (by decide) ⟨rfl, rfl⟩ ⟨Nat.le_of_ble_eq_true rfl, Nat.le_of_ble_eq_true rfl, Nat.le_of_ble_eq_true rfl, Nat.le_of_ble_eq_true rfl⟩ (Nat.le_of_ble_eq_true rfl) dJ4_append_bf812_2 (rfl : _ = 1) (rfl : _ = 70) rfl ?_
      rintro _ _ ⟨q9_11, u9_12, rfl, rfl, f_13, f_14⟩
      refine g_is (ws' := [(h, .inr (0, [vR q9_11, vI 0, vI ml, vI (n + (dlen x))])), (q9_11, cB E 70 u9_12)]) (st' := [vR h]) rfl rfl ?_
      refine g_pop C rfl dJ4_append_bf812_5 rfl ?_
      refine g_aload_n C 0 rfl dJ4_append_bf812_6 rfl ?_
      exact g_aret C hr (Or.inl ⟨_, rfl⟩) (Nat.le_of_ble_eq_true rfl) (Nat.le_of_ble_eq_true rfl) dJ4_append_bf812_7 ⟨q9_11, 70, u9_12, rfl, rfl, (by unfold CP; omega), (by assumption), (by assumption), (by have dr := dlen_r x; omega)⟩
  · have hnN : n ≤ 70 := hnN
    by_cases hg : n + dlen x ≤ 70
    · refine g_aload_n C 0 rfl dJ4_append_bf812_0 rfl ?_
      refine g_iload_n C 1 rfl dJ4_append_bf812_1 rfl ?_
      refine g_callSU C (b := h) (As := [vI x]) (wc := [(h, .inr (0, [vR b, vI 0, vI ml, vI n])), (b, cB E 70 t)]) (wr := []) (st := []) gJ4_append_bf812_J5_append_c97b9_s53 (q9 := 0) (ci := 0) rfl rfl rfl (K_appI5_k l E h b ml n t 70 x L hb hT hl (by first | assumption | omega) (by first | assumption | omega) hx) hys_J5_append_c97b9 rfl [0, 1] [] rfl rfl rfl rfl rfl (by decide) ⟨rfl, rfl⟩ ⟨Nat.le_of_ble_eq_true rfl, Nat.le_of_ble_eq_true rfl, Nat.le_of_ble_eq_true rfl, Nat.le_of_ble_eq_true rfl⟩ (Nat.le_of_ble_eq_true rfl) dJ4_append_bf812_2 (rfl : _ = 0) (rfl : _ = 0) rfl ?_
      rintro _ _ ⟨u9_15, rfl, rfl, f_16, f_17⟩
      refine g_is (ws' := [(h, .inr (0, [vR b, vI 0, vI ml, vI (n + (dlen x))])), (b, cB E 70 u9_15)]) (st' := [vR h]) rfl rfl ?_
      refine g_pop C rfl dJ4_append_bf812_5 rfl ?_
      refine g_aload_n C 0 rfl dJ4_append_bf812_6 rfl ?_
      exact g_aret C hr (Or.inl ⟨_, rfl⟩) (Nat.le_of_ble_eq_true rfl) (Nat.le_of_ble_eq_true rfl) dJ4_append_bf812_7 ⟨b, 70, u9_15, rfl, rfl, (by unfold CP; omega), (by assumption), (by assumption), (by have dr := dlen_r x; omega)⟩
    · refine g_aload_n C 0 rfl dJ4_append_bf812_0 rfl ?_
      refine g_iload_n C 1 rfl dJ4_append_bf812_1 rfl ?_
      refine g_callSU C (b := h) (As := [vI x]) (wc := [(h, .inr (0, [vR b, vI 0, vI ml, vI n])), (b, cB E 70 t)]) (wr := []) (st := []) gJ4_append_bf812_J5_append_c97b9_s53 (q9 := 0) (ci := 0) rfl rfl rfl (K_appI5_70 l E h b ml n t x L hb hT hl (by first | assumption | omega) hg hx) hys_J5_append_c97b9 rfl [0, 1] [] rfl rfl rfl rfl rfl (by decide) ⟨rfl, rfl⟩ ⟨Nat.le_of_ble_eq_true rfl, Nat.le_of_ble_eq_true rfl, Nat.le_of_ble_eq_true rfl, Nat.le_of_ble_eq_true rfl⟩ (Nat.le_of_ble_eq_true rfl) dJ4_append_bf812_2 (rfl : _ = 1) (rfl : _ = 142) rfl ?_
      rintro _ _ ⟨q9_18, u9_19, rfl, rfl, f_20, f_21⟩
      refine g_is (ws' := [(h, .inr (0, [vR q9_18, vI 0, vI ml, vI (n + (dlen x))])), (q9_18, cB E 142 u9_19)]) (st' := [vR h]) rfl rfl ?_
      refine g_pop C rfl dJ4_append_bf812_5 rfl ?_
      refine g_aload_n C 0 rfl dJ4_append_bf812_6 rfl ?_
      exact g_aret C hr (Or.inl ⟨_, rfl⟩) (Nat.le_of_ble_eq_true rfl) (Nat.le_of_ble_eq_true rfl) dJ4_append_bf812_7 ⟨q9_18, 142, u9_19, rfl, rfl, (by unfold CP; omega), (by assumption), (by assumption), (by have dr := dlen_r x; omega)⟩
  · have hnN : n ≤ 142 := hnN
    by_cases hg : n + dlen x ≤ 142
    · refine g_aload_n C 0 rfl dJ4_append_bf812_0 rfl ?_
      refine g_iload_n C 1 rfl dJ4_append_bf812_1 rfl ?_
      refine g_callSU C (b := h) (As := [vI x]) (wc := [(h, .inr (0, [vR b, vI 0, vI ml, vI n])), (b, cB E 142 t)]) (wr := []) (st := []) gJ4_append_bf812_J5_append_c97b9_s53 (q9 := 0) (ci := 0) rfl rfl rfl (K_appI5_k l E h b ml n t 142 x L hb hT hl (by first | assumption | omega) (by first | assumption | omega) hx) hys_J5_append_c97b9 rfl [0, 1] [] rfl rfl rfl rfl rfl (by decide) ⟨rfl, rfl⟩ ⟨Nat.le_of_ble_eq_true rfl, Nat.le_of_ble_eq_true rfl, Nat.le_of_ble_eq_true rfl, Nat.le_of_ble_eq_true rfl⟩ (Nat.le_of_ble_eq_true rfl) dJ4_append_bf812_2 (rfl : _ = 0) (rfl : _ = 0) rfl ?_
      rintro _ _ ⟨u9_22, rfl, rfl, f_23, f_24⟩
      refine g_is (ws' := [(h, .inr (0, [vR b, vI 0, vI ml, vI (n + (dlen x))])), (b, cB E 142 u9_22)]) (st' := [vR h]) rfl rfl ?_
      refine g_pop C rfl dJ4_append_bf812_5 rfl ?_
      refine g_aload_n C 0 rfl dJ4_append_bf812_6 rfl ?_
      exact g_aret C hr (Or.inl ⟨_, rfl⟩) (Nat.le_of_ble_eq_true rfl) (Nat.le_of_ble_eq_true rfl) dJ4_append_bf812_7 ⟨b, 142, u9_22, rfl, rfl, (by unfold CP; omega), (by assumption), (by assumption), (by have dr := dlen_r x; omega)⟩
    · exfalso; have dr := dlen_r x; omega

theorem w_J5_init_d00df_oi : Cond.methodLink RJ5 3 Lib.objectInit ∈ wsJ5_init_d00df ∧ Cond.instanceMethod Lib.objectInit ∈ wsJ5_init_d00df ∧ Cond.code Lib.objectInit ⟨#[0xb1]⟩ 1 none ∈ wsJ5_init_d00df := ⟨by decide +kernel, by decide +kernel, by decide +kernel⟩
theorem w_J5_init_d00df_st18 : Cond.fieldLink RJ5 18 "java/lang/String" "COMPACT_STRINGS" "Z" ∈ wsJ5_init_d00df := by decide +kernel
theorem w_J5_init_d00df_acb : Cond.arrayClass .byte ∈ wsJ5_init_d00df := by decide +kernel
theorem in_J5_init_d00df_J4 : ∀ w ∈ u_ws RJ4 TJ4 4, w ∈ wsJ5_init_d00df := by decide +kernel
theorem fd_J5_init_d00df_15 : fdk wsJ5_init_d00df RJ5 15 "java/lang/AbstractStringBuilder" RJ4 TJ4 4 0 := ⟨in_J5_init_d00df_J4, by decide +kernel, by decide, rfl⟩
theorem fd_J5_init_d00df_22 : fdk wsJ5_init_d00df RJ5 22 "java/lang/AbstractStringBuilder" RJ4 TJ4 4 1 := ⟨in_J5_init_d00df_J4, by decide +kernel, by decide, rfl⟩
abbrev rm_K_sb_init5 : Room := { frames := 1, cells := 1, slots := 16, locals := 12 }
set_option maxHeartbeats 1000000 in
set_option maxRecDepth 100000 in
theorem K_sb_init5 (l : Launch) (E : Ev) (h : Nat)  : Mc l yJ5_init_d00df wsJ5_init_d00df rm_K_sb_init5 E [vR h, vI 16] [(h, .inr (0, [.null, vI 0, vI 0, vI 0]))] 1 16 (fun v9 w9 => ∃ (q9 : Nat), v9 = none ∧ w9 = [(h, .inr (0, [vR q9, vI 0, vI 0, vI 0])), (q9, cB E 16 (fun _ => 0))]) := by
  refine Mc.intro (cc := cJ5_init_d00df) (maxL := 2) (ret := none) (lv0 := [(0, vR h), (1, vI 16)]) (by decide +kernel) rfl rfl (Nat.le_of_ble_eq_true rfl) ?_
  intro p9 e9 s9 m9 args9 below9 meth9 c9 A9 C hr hmn
  have C : Cx p9 s9 m9 args9 meth9 c9 E A9 2 cJ5_init_d00df wsJ5_init_d00df RJ5 := C
  refine g_aload_n C 0 rfl dJ5_init_d00df_0 rfl ?_
  refine g_objInit C w_J5_init_d00df_oi ⟨Nat.le_of_ble_eq_true rfl, Nat.le_of_ble_eq_true rfl⟩ dJ5_init_d00df_1 rfl ?_
  refine g_gets C C.2.2.1.2.2.2.1 w_J5_init_d00df_st18 rfl dJ5_init_d00df_4 rfl ?_
  refine g_if_eq C (tgt := 25) ⟨by decide, by decide⟩ dJ5_init_d00df_7 (by decide) rfl (fun c_1 => ?_) (fun c_1 => ?_)
  · exact absurd c_1 (by decide)
  refine g_aload_n C 0 rfl dJ5_init_d00df_10 rfl ?_
  refine g_iload_n C 1 rfl dJ5_init_d00df_11 rfl ?_
  refine g_newab C (N := 16) (by decide) rfl (by decide) (rfl : _ = 1) (rfl : _ = 16) ⟨by decide, Nat.le_of_ble_eq_true rfl⟩ w_J5_init_d00df_acb dJ5_init_d00df_12 rfl (fun q_2 => ?_)
  refine g_is (ws' := [(h, .inr (0, [.null, vI 0, vI 0, vI 0])), (q_2, cB E 16 (fun _ => 0))]) (st' := [vR q_2, vR h]) rfl rfl ?_
  refine g_put C tyJ4 tyJ4_ok nmJ4 0 fd_J5_init_d00df_15 rfl rfl rfl rfl rfl rfl (Nat.le_of_ble_eq_true rfl) (ws' := [(h, .inr (0, [vR q_2, vI 0, vI 0, vI 0])), (q_2, cB E 16 (fun _ => 0))]) rfl dJ5_init_d00df_14 rfl ?_
  refine g_aload_n C 0 rfl dJ5_init_d00df_17 rfl ?_
  refine g_iconst C dJ5_init_d00df_18 rfl ?_
  refine g_put C tyJ4 tyJ4_ok nmJ4 0 fd_J5_init_d00df_22 rfl rfl rfl rfl (by decide) (by decide) (Nat.le_of_ble_eq_true rfl) (ws' := [(h, .inr (0, [vR q_2, vI 0, vI 0, vI 0])), (q_2, cB E 16 (fun _ => 0))]) rfl dJ5_init_d00df_19 rfl ?_
  refine g_goto C (pc' := 38) dJ5_init_d00df_22 (by decide) ?_
  exact g_vret C hr (Nat.le_of_ble_eq_true rfl) (Nat.le_of_ble_eq_true rfl) dJ5_init_d00df_38 ⟨q_2, rfl, rfl⟩

theorem hyd_J5_init_d00df : yJ5_init_d00df.cls ≠ "java/lang/invoke/MethodHandle" ∧ yJ5_init_d00df.cls ≠ "java/lang/invoke/VarHandle" ∧ (parseMethodDescriptor yJ5_init_d00df.desc).map (fun d => d.parameters.length) = some 1 := by decide +kernel
theorem w_J4_init_da8c8_in1 : Cond.initialized yJ5_init_d00df.cls ∈ wsJ4_init_da8c8 ∧ Cond.methodLink RJ4 1 yJ5_init_d00df ∈ wsJ4_init_da8c8 ∧ Cond.instanceMethod yJ5_init_d00df ∈ wsJ4_init_da8c8 := ⟨by decide +kernel, by decide +kernel, by decide +kernel⟩
abbrev rm_K_sb_init : Room := { frames := 2, cells := 1, slots := 16, locals := 33 }
set_option maxHeartbeats 1000000 in
set_option maxRecDepth 100000 in
theorem K_sb_init (l : Launch) (E : Ev) (h : Nat)  : Mc l yJ4_init_da8c8 wsJ4_init_da8c8 rm_K_sb_init E [vR h] [(h, .inr (0, [.null, vI 0, vI 0, vI 0]))] 1 16 (fun v9 w9 => ∃ (q9 : Nat), v9 = none ∧ w9 = [(h, .inr (0, [vR q9, vI 0, vI 0, vI 0])), (q9, cB E 16 (fun _ => 0))]) := by
  refine Mc.intro (cc := cJ4_init_da8c8) (maxL := 1) (ret := none) (lv0 := [(0, vR h)]) (by decide +kernel) rfl rfl (Nat.le_of_ble_eq_true rfl) ?_
  intro p9 e9 s9 m9 args9 below9 meth9 c9 A9 C hr hmn
  have C : Cx p9 s9 m9 args9 meth9 c9 E A9 1 cJ4_init_da8c8 wsJ4_init_da8c8 RJ4 := C
  refine g_aload_n C 0 rfl dJ4_init_da8c8_0 rfl ?_
  refine g_bipush C (by decide) dJ4_init_da8c8_1 rfl ?_
  refine g_callI C (b := h) (As := [vI 16]) (wc := [(h, .inr (0, [.null, vI 0, vI 0, vI 0]))]) (wr := []) (st := []) gJ4_init_da8c8_J5_init_d00df w_J4_init_da8c8_in1 rfl rfl (K_sb_init5 l E h ) hyd_J5_init_d00df rfl [0] [] rfl rfl rfl rfl rfl (by decide) ⟨rfl, rfl⟩ ⟨Nat.le_of_ble_eq_true rfl, Nat.le_of_ble_eq_true rfl, Nat.le_of_ble_eq_true rfl, Nat.le_of_ble_eq_true rfl⟩ (Nat.le_of_ble_eq_true rfl) dJ4_init_da8c8_3 (rfl : _ = 1) (rfl : _ = 16) rfl ?_
  rintro _ _ ⟨q9_1, rfl, rfl⟩
  refine g_is (ws' := [(h, .inr (0, [vR q9_1, vI 0, vI 0, vI 0])), (q9_1, cB E 16 (fun _ => 0))]) (st' := []) rfl rfl ?_
  exact g_vret C hr (Nat.le_of_ble_eq_true rfl) (Nat.le_of_ble_eq_true rfl) dJ4_init_da8c8_6 ⟨q9_1, rfl, rfl⟩

theorem in_J5_setLength_d00df_J4 : ∀ w ∈ u_ws RJ4 TJ4 4, w ∈ wsJ5_setLength_d00df := by decide +kernel
theorem fd_J5_setLength_d00df_79 : fdk wsJ5_setLength_d00df RJ5 79 "java/lang/AbstractStringBuilder" RJ4 TJ4 4 3 := ⟨in_J5_setLength_d00df_J4, by decide +kernel, by decide, rfl⟩
theorem fd_J5_setLength_d00df_73 : fdk wsJ5_setLength_d00df RJ5 73 "java/lang/AbstractStringBuilder" RJ4 TJ4 4 2 := ⟨in_J5_setLength_d00df_J4, by decide +kernel, by decide, rfl⟩
abbrev rm_K_setLen5 : Room := { frames := 1, cells := 0, slots := 0, locals := 22 }
set_option maxHeartbeats 1000000 in
set_option maxRecDepth 100000 in
theorem K_setLen5 (l : Launch) (E : Ev) (h b : Nat) (ml n : Int) (t : Int → Int) (N : Nat) (hn : 0 ≤ n ∧ n ≤ 1000) (hN : (N : Int) ≤ 1000) : Mc l yJ5_setLength_d00df wsJ5_setLength_d00df rm_K_setLen5 E [vR h, vI 0] [(h, .inr (0, [vR b, vI 0, vI ml, vI n])), (b, cB E N t)] 0 0 (fun v9 w9 => ∃ (m9 : Int), v9 = none ∧ w9 = [(h, .inr (0, [vR b, vI 0, vI m9, vI 0])), (b, cB E N t)]) := by
  refine Mc.intro (cc := cJ5_setLength_d00df) (maxL := 2) (ret := none) (lv0 := [(0, vR h), (1, vI 0)]) (by decide +kernel) rfl rfl (Nat.le_of_ble_eq_true rfl) ?_
  intro p9 e9 s9 m9 args9 below9 meth9 c9 A9 C hr hmn
  have C : Cx p9 s9 m9 args9 meth9 c9 E A9 2 cJ5_setLength_d00df wsJ5_setLength_d00df RJ5 := C
  refine g_iload_n C 1 rfl dJ5_setLength_d00df_0 rfl ?_
  refine g_if_ge C (tgt := 13) ⟨by decide, by decide⟩ dJ5_setLength_d00df_1 (by decide) rfl (fun c_1 => ?_) (fun c_1 => ?_)
  · refine g_aload_n C 0 rfl dJ5_setLength_d00df_13 rfl ?_
    refine g_iload_n C 1 rfl dJ5_setLength_d00df_14 rfl ?_
    refine g_callU C (b := h) (As := [vI 0]) (wc := [(h, .inr (0, [vR b, vI 0, vI ml, vI n])), (b, cB E N t)]) (wr := []) (st := []) (q9 := 0) (ci := 0) (x := ⟨"java/lang/AbstractStringBuilder", yJ5_ensureCapacityInternal_d00df.name, yJ5_ensureCapacityInternal_d00df.desc⟩) (y := yJ5_ensureCapacityInternal_d00df) gJ5_setLength_d00df_J5_ensureCapacityInternal_d00df_u100J4 rfl rfl rfl rfl (K_ens_k l E h b ml n t N 0 (by first | assumption | omega) c_1 hN) hyu_J5_ensureCapacityInternal_d00df rfl [0, 1] [] rfl rfl rfl rfl rfl (by decide) ⟨rfl, rfl⟩ ⟨Nat.le_of_ble_eq_true rfl, Nat.le_of_ble_eq_true rfl, Nat.le_of_ble_eq_true rfl, Nat.le_of_ble_eq_true rfl⟩ (Nat.le_of_ble_eq_true rfl) dJ5_setLength_d00df_15 (rfl : _ = 0) (rfl : _ = 0) rfl ?_
    rintro _ _ ⟨rfl, rfl⟩
    refine g_is (ws' := [(h, .inr (0, [vR b, vI 0, vI ml, vI n])), (b, cB E N t)]) (st' := []) rfl rfl ?_
    refine g_aload_n C 0 rfl dJ5_setLength_d00df_18 rfl ?_
    refine g_get C 0 fd_J5_setLength_d00df_79 rfl rfl rfl dJ5_setLength_d00df_19 rfl ?_
    refine g_iload_n C 1 rfl dJ5_setLength_d00df_22 rfl ?_
    refine g_icmp_ge C (tgt := 63) ⟨by omega, by omega⟩ ⟨by decide, by decide⟩ dJ5_setLength_d00df_23 (by decide) rfl (fun c_2 => ?_) (fun c_2 => ?_)
    · refine g_aload_n C 0 rfl dJ5_setLength_d00df_63 rfl ?_
      refine g_get C 0 fd_J5_setLength_d00df_79 rfl rfl rfl dJ5_setLength_d00df_64 rfl ?_
      refine g_iload_n C 1 rfl dJ5_setLength_d00df_67 rfl ?_
      refine g_icmp_le C (tgt := 76) ⟨by omega, by omega⟩ ⟨by decide, by decide⟩ dJ5_setLength_d00df_68 (by decide) rfl (fun c_3 => ?_) (fun c_3 => ?_)
      · refine g_aload_n C 0 rfl dJ5_setLength_d00df_76 rfl ?_
        refine g_iload_n C 1 rfl dJ5_setLength_d00df_77 rfl ?_
        refine g_put C tyJ4 tyJ4_ok nmJ4 0 fd_J5_setLength_d00df_79 rfl rfl rfl rfl rfl rfl (Nat.le_of_ble_eq_true rfl) (ws' := [(h, .inr (0, [vR b, vI 0, vI ml, vI 0])), (b, cB E N t)]) rfl dJ5_setLength_d00df_78 rfl ?_
        exact g_vret C hr (Nat.le_of_ble_eq_true rfl) (Nat.le_of_ble_eq_true rfl) dJ5_setLength_d00df_81 ⟨ml, rfl, rfl⟩
      refine g_aload_n C 0 rfl dJ5_setLength_d00df_71 rfl ?_
      refine g_iconst C dJ5_setLength_d00df_72 rfl ?_
      refine g_put C tyJ4 tyJ4_ok nmJ4 0 fd_J5_setLength_d00df_73 rfl rfl rfl rfl (by decide) (by decide) (Nat.le_of_ble_eq_true rfl) (ws' := [(h, .inr (0, [vR b, vI 0, vI 1, vI n])), (b, cB E N t)]) rfl dJ5_setLength_d00df_73 rfl ?_
      refine g_aload_n C 0 rfl dJ5_setLength_d00df_76 rfl ?_
      refine g_iload_n C 1 rfl dJ5_setLength_d00df_77 rfl ?_
      refine g_put C tyJ4 tyJ4_ok nmJ4 0 fd_J5_setLength_d00df_79 rfl rfl rfl rfl rfl rfl (Nat.le_of_ble_eq_true rfl) (ws' := [(h, .inr (0, [vR b, vI 0, vI 1, vI 0])), (b, cB E N t)]) rfl dJ5_setLength_d00df_78 rfl ?_
      exact g_vret C hr (Nat.le_of_ble_eq_true rfl) (Nat.le_of_ble_eq_true rfl) dJ5_setLength_d00df_81 ⟨1, rfl, rfl⟩
    exfalso; omega
  exact absurd c_1 (by decide)

theorem hyd_J5_setLength_d00df : yJ5_setLength_d00df.cls ≠ "java/lang/invoke/MethodHandle" ∧ yJ5_setLength_d00df.cls ≠ "java/lang/invoke/VarHandle" ∧ (parseMethodDescriptor yJ5_setLength_d00df.desc).map (fun d => d.parameters.length) = some 1 := by decide +kernel
theorem hys_J5_setLength_d00df : yJ5_setLength_d00df.name ≠ "<init>" ∧ (parseMethodDescriptor yJ5_setLength_d00df.desc).map (fun d => d.parameters.length) = some 1 := by decide +kernel
abbrev rm_K_setLen : Room := { frames := 2, cells := 0, slots := 0, locals := 43 }
set_option maxHeartbeats 1000000 in
set_option maxRecDepth 100000 in
theorem K_setLen (l : Launch) (E : Ev) (h b : Nat) (ml n : Int) (t : Int → Int) (N : Nat) (hn : 0 ≤ n ∧ n ≤ 1000) (hN : (N : Int) ≤ 1000) : Mc l yJ4_setLength_d00df wsJ4_setLength_d00df rm_K_setLen E [vR h, vI 0] [(h, .inr (0, [vR b, vI 0, vI ml, vI n])), (b, cB E N t)] 0 0 (fun v9 w9 => ∃ (m9 : Int), v9 = none ∧ w9 = [(h, .inr (0, [vR b, vI 0, vI m9, vI 0])), (b, cB E N t)]) := by
  refine Mc.intro (cc := cJ4_setLength_d00df) (maxL := 2) (ret := none) (lv0 := [(0, vR h), (1, vI 0)]) (by decide +kernel) rfl rfl (Nat.le_of_ble_eq_true rfl) ?_
  intro p9 e9 s9 m9 args9 below9 meth9 c9 A9 C hr hmn
  have C : Cx p9 s9 m9 args9 meth9 c9 E A9 2 cJ4_setLength_d00df wsJ4_setLength_d00df RJ4 := C
  refine g_aload_n C 0 rfl dJ4_setLength_d00df_0 rfl ?_
  refine g_iload_n C 1 rfl dJ4_setLength_d00df_1 rfl ?_
  refine g_callSU C (b := h) (As := [vI 0]) (wc := [(h, .inr (0, [vR b, vI 0, vI ml, vI n])), (b, cB E N t)]) (wr := []) (st := []) gJ4_setLength_d00df_J5_setLength_d00df_s333 (q9 := 0) (ci := 0) rfl rfl rfl (K_setLen5 l E h b ml n t N hn hN) hys_J5_setLength_d00df rfl [0, 1] [] rfl rfl rfl rfl rfl (by decide) ⟨rfl, rfl⟩ ⟨Nat.le_of_ble_eq_true rfl, Nat.le_of_ble_eq_true rfl, Nat.le_of_ble_eq_true rfl, Nat.le_of_ble_eq_true rfl⟩ (Nat.le_of_ble_eq_true rfl) dJ4_setLength_d00df_2 (rfl : _ = 0) (rfl : _ = 0) rfl ?_
  rintro _ _ ⟨m9_1, rfl, rfl⟩
  refine g_is (ws' := [(h, .inr (0, [vR b, vI 0, vI m9_1, vI 0])), (b, cB E N t)]) (st' := []) rfl rfl ?_
  exact g_vret C hr (Nat.le_of_ble_eq_true rfl) (Nat.le_of_ble_eq_true rfl) dJ4_setLength_d00df_5 ⟨m9_1, rfl, rfl⟩

abbrev rm_K_pchkN : Room := { frames := 0, cells := 0, slots := 0, locals := 0 }
set_option maxHeartbeats 1000000 in
set_option maxRecDepth 100000 in
theorem K_pchkN (l : Launch) (E : Ev) (i n : Int) (hi : 0 ≤ i ∧ i < n) (hn : n ≤ 1000) : Mc l yJ3_checkIndex_8e157 wsJ3_checkIndex_8e157 rm_K_pchkN E [vI i, vI n, .null] [] 0 0 (fun v9 w9 => v9 = some (vI i) ∧ w9 = []) := by
  refine Mc.intro (cc := cJ3_checkIndex_8e157) (maxL := 3) (ret := (some .int)) (lv0 := [(0, vI i), (1, vI n), (2, .null)]) (by decide +kernel) rfl rfl (Nat.le_of_ble_eq_true rfl) ?_
  intro p9 e9 s9 m9 args9 below9 meth9 c9 A9 C hr hmn
  have C : Cx p9 s9 m9 args9 meth9 c9 E A9 3 cJ3_checkIndex_8e157 wsJ3_checkIndex_8e157 RJ3 := C
  refine g_iload_n C 0 rfl dJ3_checkIndex_8e157_0 rfl ?_
  refine g_if_lt C (tgt := 9) ⟨by omega, by omega⟩ dJ3_checkIndex_8e157_1 (by decide) rfl (fun c_1 => ?_) (fun c_1 => ?_)
  · exfalso; omega
  refine g_iload_n C 0 rfl dJ3_checkIndex_8e157_4 rfl ?_
  refine g_iload_n C 1 rfl dJ3_checkIndex_8e157_5 rfl ?_
  refine g_icmp_lt C (tgt := 16) ⟨by omega, by omega⟩ ⟨by omega, by omega⟩ dJ3_checkIndex_8e157_6 (by decide) rfl (fun c_2 => ?_) (fun c_2 => ?_)
  · refine g_iload_n C 0 rfl dJ3_checkIndex_8e157_16 rfl ?_
    exact g_iret C hr rfl (Nat.le_of_ble_eq_true rfl) (Nat.le_of_ble_eq_true rfl) dJ3_checkIndex_8e157_17 ⟨rfl, rfl⟩
  exfalso; omega

abbrev rm_K_pchkR : Room := { frames := 0, cells := 0, slots := 0, locals := 0 }
set_option maxHeartbeats 1000000 in
set_option maxRecDepth 100000 in
theorem K_pchkR (l : Launch) (E : Ev) (i n : Int) (r : Nat) (hi : 0 ≤ i ∧ i < n) (hn : n ≤ 1000) : Mc l yJ3_checkIndex_8e157 wsJ3_checkIndex_8e157 rm_K_pchkR E [vI i, vI n, vR r] [] 0 0 (fun v9 w9 => v9 = some (vI i) ∧ w9 = []) := by
  refine Mc.intro (cc := cJ3_checkIndex_8e157) (maxL := 3) (ret := (some .int)) (lv0 := [(0, vI i), (1, vI n), (2, vR r)]) (by decide +kernel) rfl rfl (Nat.le_of_ble_eq_true rfl) ?_
  intro p9 e9 s9 m9 args9 below9 meth9 c9 A9 C hr hmn
  have C : Cx p9 s9 m9 args9 meth9 c9 E A9 3 cJ3_checkIndex_8e157 wsJ3_checkIndex_8e157 RJ3 := C
  refine g_iload_n C 0 rfl dJ3_checkIndex_8e157_0 rfl ?_
  refine g_if_lt C (tgt := 9) ⟨by omega, by omega⟩ dJ3_checkIndex_8e157_1 (by decide) rfl (fun c_1 => ?_) (fun c_1 => ?_)
  · exfalso; omega
  refine g_iload_n C 0 rfl dJ3_checkIndex_8e157_4 rfl ?_
  refine g_iload_n C 1 rfl dJ3_checkIndex_8e157_5 rfl ?_
  refine g_icmp_lt C (tgt := 16) ⟨by omega, by omega⟩ ⟨by omega, by omega⟩ dJ3_checkIndex_8e157_6 (by decide) rfl (fun c_2 => ?_) (fun c_2 => ?_)
  · refine g_iload_n C 0 rfl dJ3_checkIndex_8e157_16 rfl ?_
    exact g_iret C hr rfl (Nat.le_of_ble_eq_true rfl) (Nat.le_of_ble_eq_true rfl) dJ3_checkIndex_8e157_17 ⟨rfl, rfl⟩
  exfalso; omega

theorem w_J0_checkIndex_df160_sio : Cond.fieldLink RJ0 1053 "jdk/internal/util/Preconditions" "SIOOBE_FORMATTER" "Ljava/util/function/BiFunction;" ∈ wsJ0_checkIndex_df160 := by decide +kernel
theorem hyd_J3_checkIndex_8e157 : yJ3_checkIndex_8e157.cls ≠ "java/lang/invoke/MethodHandle" ∧ yJ3_checkIndex_8e157.cls ≠ "java/lang/invoke/VarHandle" ∧ (parseMethodDescriptor yJ3_checkIndex_8e157.desc).map (fun d => d.parameters.length) = some 3 := by decide +kernel
abbrev rm_K_chk : Room := { frames := 1, cells := 0, slots := 0, locals := 22 }
set_option maxHeartbeats 1000000 in
set_option maxRecDepth 100000 in
theorem K_chk (l : Launch) (E : Ev) (i n : Int) (hi : 0 ≤ i ∧ i < n) (hn : n ≤ 1000) : Mc l yJ0_checkIndex_df160 wsJ0_checkIndex_df160 rm_K_chk E [vI i, vI n] [] 0 0 (fun v9 w9 => v9 = none ∧ w9 = []) := by
  refine Mc.intro (cc := cJ0_checkIndex_df160) (maxL := 2) (ret := none) (lv0 := [(0, vI i), (1, vI n)]) (by decide +kernel) rfl rfl (Nat.le_of_ble_eq_true rfl) ?_
  intro p9 e9 s9 m9 args9 below9 meth9 c9 A9 C hr hmn
  have C : Cx p9 s9 m9 args9 meth9 c9 E A9 2 cJ0_checkIndex_df160 wsJ0_checkIndex_df160 RJ0 := C
  refine g_iload_n C 0 rfl dJ0_checkIndex_df160_0 rfl ?_
  refine g_iload_n C 1 rfl dJ0_checkIndex_df160_1 rfl ?_
  rcases C.2.2.1.2.2.2.2.2.2 with hz | ⟨t9, hz⟩
  · refine g_gets C hz w_J0_checkIndex_df160_sio rfl dJ0_checkIndex_df160_2 rfl ?_
    refine g_callS C (As := [vI i, vI n, .null]) (wc := []) (wr := []) (st := []) gJ0_checkIndex_df160_J3_checkIndex_8e157 rfl (K_pchkN l E i n hi hn) hyd_J3_checkIndex_8e157 rfl [] [] rfl rfl rfl rfl rfl (by decide) ⟨rfl, rfl⟩ ⟨Nat.le_of_ble_eq_true rfl, Nat.le_of_ble_eq_true rfl, Nat.le_of_ble_eq_true rfl, Nat.le_of_ble_eq_true rfl⟩ (Nat.le_of_ble_eq_true rfl) dJ0_checkIndex_df160_5 (rfl : _ = 0) (rfl : _ = 0) rfl ?_
    rintro _ _ ⟨rfl, rfl⟩
    refine g_is (ws' := []) (st' := [vI i]) rfl rfl ?_
    refine g_pop C rfl dJ0_checkIndex_df160_8 rfl ?_
    exact g_vret C hr (Nat.le_of_ble_eq_true rfl) (Nat.le_of_ble_eq_true rfl) dJ0_checkIndex_df160_9 ⟨rfl, rfl⟩
  · refine g_gets C hz w_J0_checkIndex_df160_sio rfl dJ0_checkIndex_df160_2 rfl ?_
    refine g_callS C (As := [vI i, vI n, vR t9]) (wc := []) (wr := []) (st := []) gJ0_checkIndex_df160_J3_checkIndex_8e157 rfl (K_pchkR l E i n t9 hi hn) hyd_J3_checkIndex_8e157 rfl [] [] rfl rfl rfl rfl rfl (by decide) ⟨rfl, rfl⟩ ⟨Nat.le_of_ble_eq_true rfl, Nat.le_of_ble_eq_true rfl, Nat.le_of_ble_eq_true rfl, Nat.le_of_ble_eq_true rfl⟩ (Nat.le_of_ble_eq_true rfl) dJ0_checkIndex_df160_5 (rfl : _ = 0) (rfl : _ = 0) rfl ?_
    rintro _ _ ⟨rfl, rfl⟩
    refine g_is (ws' := []) (st' := [vI i]) rfl rfl ?_
    refine g_pop C rfl dJ0_checkIndex_df160_8 rfl ?_
    exact g_vret C hr (Nat.le_of_ble_eq_true rfl) (Nat.le_of_ble_eq_true rfl) dJ0_checkIndex_df160_9 ⟨rfl, rfl⟩

theorem in_J5_charAt_5068e_J4 : ∀ w ∈ u_ws RJ4 TJ4 4, w ∈ wsJ5_charAt_5068e := by decide +kernel
theorem fd_J5_charAt_5068e_22 : fdk wsJ5_charAt_5068e RJ5 22 "java/lang/AbstractStringBuilder" RJ4 TJ4 4 1 := ⟨in_J5_charAt_5068e_J4, by decide +kernel, by decide, rfl⟩
theorem fd_J5_charAt_5068e_15 : fdk wsJ5_charAt_5068e RJ5 15 "java/lang/AbstractStringBuilder" RJ4 TJ4 4 0 := ⟨in_J5_charAt_5068e_J4, by decide +kernel, by decide, rfl⟩
theorem fd_J5_charAt_5068e_79 : fdk wsJ5_charAt_5068e RJ5 79 "java/lang/AbstractStringBuilder" RJ4 TJ4 4 3 := ⟨in_J5_charAt_5068e_J4, by decide +kernel, by decide, rfl⟩
theorem w_J5_charAt_5068e_m138 : Cond.methodLink RJ5 138 Lib.Math.min.name ∈ wsJ5_charAt_5068e ∧ Cond.static Lib.Math.min.name ∈ wsJ5_charAt_5068e ∧ Cond.initialized "java/lang/Math" ∈ wsJ5_charAt_5068e ∧ Cond.code Lib.Math.min.name Lib.Math.min.code 2 (some .int) ∈ wsJ5_charAt_5068e := ⟨by decide +kernel, by decide +kernel, by decide +kernel, by decide +kernel⟩
theorem hyd_J0_checkIndex_df160 : yJ0_checkIndex_df160.cls ≠ "java/lang/invoke/MethodHandle" ∧ yJ0_checkIndex_df160.cls ≠ "java/lang/invoke/VarHandle" ∧ (parseMethodDescriptor yJ0_checkIndex_df160.desc).map (fun d => d.parameters.length) = some 2 := by decide +kernel
abbrev rm_K_charAt5 : Room := { frames := 2, cells := 0, slots := 0, locals := 43 }
set_option maxHeartbeats 1000000 in
set_option maxRecDepth 100000 in
theorem K_charAt5 (l : Launch) (E : Ev) (h b : Nat) (ml n : Int) (t : Int → Int) (N : Nat) (i : Int) (hi : 0 ≤ i ∧ i < n) (hn : n ≤ (N : Int)) (hN : (N : Int) ≤ 1000) (hb : BX N t) : Mc l yJ5_charAt_5068e wsJ5_charAt_5068e rm_K_charAt5 E [vR h, vI i] [(h, .inr (0, [vR b, vI 0, vI ml, vI n])), (b, cB E N t)] 0 0 (fun v9 w9 => v9 = some (vI (t i)) ∧ w9 = [(h, .inr (0, [vR b, vI 0, vI ml, vI n])), (b, cB E N t)]) := by
  refine Mc.intro (cc := cJ5_charAt_5068e) (maxL := 5) (ret := (some .char)) (lv0 := [(0, vR h), (1, vI i)]) (by decide +kernel) rfl rfl (Nat.le_of_ble_eq_true rfl) ?_
  intro p9 e9 s9 m9 args9 below9 meth9 c9 A9 C hr hmn
  have C : Cx p9 s9 m9 args9 meth9 c9 E A9 5 cJ5_charAt_5068e wsJ5_charAt_5068e RJ5 := C
  refine g_aload_n C 0 rfl dJ5_charAt_5068e_0 rfl ?_
  refine g_get C 0 fd_J5_charAt_5068e_22 rfl rfl rfl dJ5_charAt_5068e_1 rfl ?_
  refine g_istore_n C (lv' := [(0, vR h), (1, vI i), (2, vI 0)]) [1, 2, 0] (by decide) rfl rfl dJ5_charAt_5068e_4 rfl ?_
  refine g_aload_n C 0 rfl dJ5_charAt_5068e_5 rfl ?_
  refine g_get C 0 fd_J5_charAt_5068e_15 rfl rfl rfl dJ5_charAt_5068e_6 rfl ?_
  refine g_astore_n C (lv' := [(0, vR h), (1, vI i), (2, vI 0), (3, vR b)]) [1, 2, 3, 0] (by decide) rfl rfl dJ5_charAt_5068e_9 rfl ?_
  refine g_aload_n C 0 rfl dJ5_charAt_5068e_10 rfl ?_
  refine g_get C 0 fd_J5_charAt_5068e_79 rfl rfl rfl dJ5_charAt_5068e_11 rfl ?_
  refine g_aload_n C 3 rfl dJ5_charAt_5068e_14 rfl ?_
  refine g_alen C 1 3 rfl rfl dJ5_charAt_5068e_15 rfl ?_
  refine g_iload_n C 2 rfl dJ5_charAt_5068e_16 rfl ?_
  refine g_ishr C (z := I32 ((N : Int))) (shr0 _) dJ5_charAt_5068e_17 rfl ?_
  refine g_mmin C ⟨by omega, by omega⟩ ⟨by omega, by omega⟩ (r := (minI n ((N : Int)))) rfl w_J5_charAt_5068e_m138 ⟨Nat.le_of_ble_eq_true rfl, Nat.le_of_ble_eq_true rfl, Nat.le_of_ble_eq_true rfl, Nat.le_of_ble_eq_true rfl⟩ dJ5_charAt_5068e_18 rfl ?_
  refine g_top (v' := vI n) (congrArg (fun z_ : Int => vI z_) (show (n : Int) = (minI n ((N : Int))) by unfold minI; split <;> omega)) ?_
  refine g_istore C (lv' := [(0, vR h), (1, vI i), (2, vI 0), (3, vR b), (4, vI n)]) [1, 2, 3, 4, 0] (by decide) rfl rfl dJ5_charAt_5068e_21 rfl ?_
  refine g_iload_n C 1 rfl dJ5_charAt_5068e_23 rfl ?_
  refine g_iload C 4 rfl dJ5_charAt_5068e_24 rfl ?_
  refine g_callS C (As := [vI i, vI n]) (wc := []) (wr := [(h, .inr (0, [vR b, vI 0, vI ml, vI n])), (b, cB E N t)]) (st := []) gJ5_charAt_5068e_J0_checkIndex_df160 rfl (K_chk l E i n hi (by first | assumption | omega)) hyd_J0_checkIndex_df160 rfl [] [0, 1] rfl rfl rfl rfl rfl (by decide) ⟨rfl, rfl⟩ ⟨Nat.le_of_ble_eq_true rfl, Nat.le_of_ble_eq_true rfl, Nat.le_of_ble_eq_true rfl, Nat.le_of_ble_eq_true rfl⟩ (Nat.le_of_ble_eq_true rfl) dJ5_charAt_5068e_26 (rfl : _ = 0) (rfl : _ = 0) rfl ?_
  rintro _ _ ⟨rfl, rfl⟩
  refine g_is (ws' := [(h, .inr (0, [vR b, vI 0, vI ml, vI n])), (b, cB E N t)]) (st' := []) rfl rfl ?_
  refine g_iload_n C 2 rfl dJ5_charAt_5068e_29 rfl ?_
  refine g_if_ne C (tgt := 42) ⟨by decide, by decide⟩ dJ5_charAt_5068e_30 (by decide) rfl (fun c_1 => ?_) (fun c_1 => ?_)
  · exact absurd c_1 (by decide)
  refine g_aload_n C 3 rfl dJ5_charAt_5068e_33 rfl ?_
  refine g_iload_n C 1 rfl dJ5_charAt_5068e_34 rfl ?_
  refine g_bald C 1 rfl (by omega) (by omega) (by omega) rfl dJ5_charAt_5068e_35 rfl ?_
  refine g_sipush C (by decide) dJ5_charAt_5068e_36 rfl ?_
  refine g_iand C (z := I32 (t i)) (a255_I (hb i (by omega) (by omega))) dJ5_charAt_5068e_39 rfl ?_
  refine g_i2c C (z := I32 (t i)) (i2c_I (hb i (by omega) (by omega))) dJ5_charAt_5068e_40 rfl ?_
  exact g_iret C hr (nrC (hb i (by omega) (by omega))) (Nat.le_of_ble_eq_true rfl) (Nat.le_of_ble_eq_true rfl) dJ5_charAt_5068e_41 ⟨rfl, rfl⟩

theorem hyd_J5_charAt_5068e : yJ5_charAt_5068e.cls ≠ "java/lang/invoke/MethodHandle" ∧ yJ5_charAt_5068e.cls ≠ "java/lang/invoke/VarHandle" ∧ (parseMethodDescriptor yJ5_charAt_5068e.desc).map (fun d => d.parameters.length) = some 1 := by decide +kernel
theorem hys_J5_charAt_5068e : yJ5_charAt_5068e.name ≠ "<init>" ∧ (parseMethodDescriptor yJ5_charAt_5068e.desc).map (fun d => d.parameters.length) = some 1 := by decide +kernel
abbrev rm_K_charAt : Room := { frames := 3, cells := 0, slots := 0, locals := 67 }
set_option maxHeartbeats 1000000 in
set_option maxRecDepth 100000 in
theorem K_charAt (l : Launch) (E : Ev) (h b : Nat) (ml n : Int) (t : Int → Int) (N : Nat) (i : Int) (hi : 0 ≤ i ∧ i < n) (hn : n ≤ (N : Int)) (hN : (N : Int) ≤ 1000) (hb : BX N t) : Mc l yJ4_charAt_5068e wsJ4_charAt_5068e rm_K_charAt E [vR h, vI i] [(h, .inr (0, [vR b, vI 0, vI ml, vI n])), (b, cB E N t)] 0 0 (fun v9 w9 => v9 = some (vI (t i)) ∧ w9 = [(h, .inr (0, [vR b, vI 0, vI ml, vI n])), (b, cB E N t)]) := by
  refine Mc.intro (cc := cJ4_charAt_5068e) (maxL := 2) (ret := (some .char)) (lv0 := [(0, vR h), (1, vI i)]) (by decide +kernel) rfl rfl (Nat.le_of_ble_eq_true rfl) ?_
  intro p9 e9 s9 m9 args9 below9 meth9 c9 A9 C hr hmn
  have C : Cx p9 s9 m9 args9 meth9 c9 E A9 2 cJ4_charAt_5068e wsJ4_charAt_5068e RJ4 := C
  refine g_aload_n C 0 rfl dJ4_charAt_5068e_0 rfl ?_
  refine g_iload_n C 1 rfl dJ4_charAt_5068e_1 rfl ?_
  refine g_callSU C (b := h) (As := [vI i]) (wc := [(h, .inr (0, [vR b, vI 0, vI ml, vI n])), (b, cB E N t)]) (wr := []) (st := []) gJ4_charAt_5068e_J5_charAt_5068e_s329 (q9 := 0) (ci := 0) rfl rfl rfl (K_charAt5 l E h b ml n t N i hi hn hN hb) hys_J5_charAt_5068e rfl [0, 1] [] rfl rfl rfl rfl rfl (by decide) ⟨rfl, rfl⟩ ⟨Nat.le_of_ble_eq_true rfl, Nat.le_of_ble_eq_true rfl, Nat.le_of_ble_eq_true rfl, Nat.le_of_ble_eq_true rfl⟩ (Nat.le_of_ble_eq_true rfl) dJ4_charAt_5068e_2 (rfl : _ = 0) (rfl : _ = 0) rfl ?_
  rintro _ _ ⟨rfl, rfl⟩
  refine g_is (ws' := [(h, .inr (0, [vR b, vI 0, vI ml, vI n])), (b, cB E N t)]) (st' := [vI (t i)]) rfl rfl ?_
  exact g_iret C hr (nrC (hb i (by omega) (by omega))) (Nat.le_of_ble_eq_true rfl) (Nat.le_of_ble_eq_true rfl) dJ4_charAt_5068e_5 ⟨rfl, rfl⟩
