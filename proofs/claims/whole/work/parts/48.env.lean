/-! THE SURROUNDINGS at the law's entry -/
def nar : List Cond := flatC (Jvm.Cond.and given_1 narrow_1)
theorem envT {args : Array Value} {s : State} {C n d : String} {ty : FieldType} {N : Nat} {g : Int → Int} {A : Nat → Prop} (hl : (Cond.laysStatic C n d).before args s = true) (hini : (Cond.initialized C).before args s = true) (hN : N < 2 ^ 31) (harr : (Cond.arrayOf (.static C n d) ty).before args s = true) (hlen : (Cond.eq (.length (.static C n d)) (.int (Int32.ofNat N))).before args s = true) (hel : ∀ j : Nat, j < N → (Cond.eq (.elem (.static C n d) (.int (Int32.ofNat j))) (.int (I32 (g j)))).before args s = true) (hA : ∀ a : Nat, a < s.heap.size → ¬ A a) :
    ∃ t : Nat, va_Z C n d (.ref t) A s s.heap ∧ va_T ty t N (fun j => .int (AI N g j)) A s s.heap := by
  obtain ⟨t, ht, cell, a1, a2, a3, a4, a5, a6, a7⟩ := va_Tof (f := fun j => .int (I32 (g j))) hN harr (va_eqt hlen) (fun j hj => va_eqt (hel j hj)) hA
  refine ⟨t, va_Zof hl hini ht hA, cell, a1, a2, a3, a4, a5, fun j hj => ?_, a7⟩
  rw [a6 j hj]
  show some (Value.int (I32 (g j))) = some (Value.int (AI N g j))
  unfold AI; rw [if_pos hj]
theorem arrP_int {args : Array Value} {s : State} (h : (Cond.arrayClass .int).before args s = true) : ∃ cA : ClassId, ArrOfT s cA .int ∧ va_RA s cA .int := by
  obtain ⟨c, k, comp, h1, h2, h3⟩ := Cond.arrayClass_spec h
  exact ⟨c, fun n z => ⟨fun k h => (by cases h), k, h2, comp, h3⟩, h1⟩
theorem arrP_long {args : Array Value} {s : State} (h : (Cond.arrayClass .long).before args s = true) : ∃ cA : ClassId, ArrOfT s cA .long ∧ va_RA s cA .long := by
  obtain ⟨c, k, comp, h1, h2, h3⟩ := Cond.arrayClass_spec h
  exact ⟨c, fun n z => ⟨fun k h => (by cases h), k, h2, comp, h3⟩, h1⟩
theorem arrP_boolean {args : Array Value} {s : State} (h : (Cond.arrayClass .boolean).before args s = true) : ∃ cA : ClassId, ArrOfT s cA .boolean ∧ va_RA s cA .boolean := by
  obtain ⟨c, k, comp, h1, h2, h3⟩ := Cond.arrayClass_spec h
  exact ⟨c, fun n z => ⟨fun k h => (by cases h), k, h2, comp, h3⟩, h1⟩
theorem arrP_byte {args : Array Value} {s : State} (h : (Cond.arrayClass .byte).before args s = true) : ∃ cA : ClassId, ArrOfT s cA .byte ∧ va_RA s cA .byte := by
  obtain ⟨c, k, comp, h1, h2, h3⟩ := Cond.arrayClass_spec h
  exact ⟨c, fun n z => ⟨fun k h => (by cases h), k, h2, comp, h3⟩, h1⟩
theorem arrO {args : Array Value} {s : State} {C : String} (h : (Cond.arrayOver (.object C)).before args s = true) : ∃ cA : ClassId, ArrOfT s cA (.object C) ∧ va_RA s cA (.object C) := by
  obtain ⟨comp, c, k, h1, -, h3, h4, h5⟩ := Cond.arrayOver_spec h
  exact ⟨c, fun n z => ⟨fun k h => (by cases h), k, h3, comp, h4⟩, k, comp, h3, h4, h1, h5⟩
theorem nE_COSINE : ∀ j : Nat, j < 24 → nar[30 + j]? = some (Cond.eq (.elem (.static RX10 "COSINE" "[I") (.int (Int32.ofNat j))) (.int (I32 (cosT (j : Int))))) := by decide +kernel
theorem nE_LOWEST_SETTING : ∀ j : Nat, j < 8 → nar[8 + j]? = some (Cond.eq (.elem (.static RX10 "LOWEST_SETTING" "[I") (.int (Int32.ofNat j))) (.int (I32 (lowT (j : Int))))) := by decide +kernel
theorem nE_HIGHEST_SETTING : ∀ j : Nat, j < 8 → nar[19 + j]? = some (Cond.eq (.elem (.static RX10 "HIGHEST_SETTING" "[I") (.int (Int32.ofNat j))) (.int (I32 (higT (j : Int))))) := by decide +kernel
theorem nE_DigitOnes : ∀ j : Nat, j < 100 → nar[61 + j]? = some (Cond.eq (.elem (.static RJ6 "DigitOnes" "[B") (.int (Int32.ofNat j))) (.int (I32 (dgO (j : Int))))) := by decide +kernel
theorem nE_DigitTens : ∀ j : Nat, j < 100 → nar[164 + j]? = some (Cond.eq (.elem (.static RJ6 "DigitTens" "[B") (.int (Int32.ofNat j))) (.int (I32 (dgT (j : Int))))) := by decide +kernel
theorem nA_COSINE : nar[28]? = some (Cond.arrayOf (.static RX10 "COSINE" "[I") .int) := by decide +kernel
theorem nL_COSINE : nar[29]? = some (Cond.eq (.length (.static RX10 "COSINE" "[I")) (.int (Int32.ofNat 24))) := by decide +kernel
theorem nA_LOWEST_SETTING : nar[6]? = some (Cond.arrayOf (.static RX10 "LOWEST_SETTING" "[I") .int) := by decide +kernel
theorem nL_LOWEST_SETTING : nar[7]? = some (Cond.eq (.length (.static RX10 "LOWEST_SETTING" "[I")) (.int (Int32.ofNat 8))) := by decide +kernel
theorem nA_HIGHEST_SETTING : nar[17]? = some (Cond.arrayOf (.static RX10 "HIGHEST_SETTING" "[I") .int) := by decide +kernel
theorem nL_HIGHEST_SETTING : nar[18]? = some (Cond.eq (.length (.static RX10 "HIGHEST_SETTING" "[I")) (.int (Int32.ofNat 8))) := by decide +kernel
theorem nA_DigitOnes : nar[59]? = some (Cond.arrayOf (.static RJ6 "DigitOnes" "[B") .byte) := by decide +kernel
theorem nL_DigitOnes : nar[60]? = some (Cond.eq (.length (.static RJ6 "DigitOnes" "[B")) (.int (Int32.ofNat 100))) := by decide +kernel
theorem nA_DigitTens : nar[162]? = some (Cond.arrayOf (.static RJ6 "DigitTens" "[B") .byte) := by decide +kernel
theorem nL_DigitTens : nar[163]? = some (Cond.eq (.length (.static RJ6 "DigitTens" "[B")) (.int (Int32.ofNat 100))) := by decide +kernel
theorem nC : nar[4]? = some (Cond.eq (.static RJ0 "COMPACT_STRINGS" "Z") (.int (I32 1))) := by decide +kernel
theorem nF9 : nar[54]? = some (Cond.isRef (.static "jdk/internal/util/Preconditions" "SIOOBE_FORMATTER" "Ljava/util/function/BiFunction;")) := by decide +kernel
theorem kn_0 {args : Array Value} {s : State} (hts : ∀ w ∈ lw_big, w.before args s = true) : ∃ (cC : ClassId) (iS : Nat → Nat), u_Kn s RJ4 TJ4 4 cC iS := by
  refine u_known (ws := lw_big) (n := 4) hts ?_ (hts _ (mT2 (i := 64) rfl))
  exact (List.forall_mem_cons.mpr ⟨mT2 (i := 85) rfl, (List.forall_mem_cons.mpr ⟨mT2 (i := 87) rfl, (List.forall_mem_cons.mpr ⟨mT2 (i := 89) rfl, (List.forall_mem_cons.mpr ⟨mT2 (i := 91) rfl, (fun _ h => absurd h List.not_mem_nil)⟩)⟩)⟩)⟩)
theorem kn_1 {args : Array Value} {s : State} (hts : ∀ w ∈ lw_big, w.before args s = true) : ∃ (cC : ClassId) (iS : Nat → Nat), u_Kn s RX0 TX0 4 cC iS := by
  refine u_known (ws := lw_big) (n := 4) hts ?_ (hts _ (mT1 (i := 165) rfl))
  exact (List.forall_mem_cons.mpr ⟨mT1 (i := 177) rfl, (List.forall_mem_cons.mpr ⟨mT1 (i := 179) rfl, (List.forall_mem_cons.mpr ⟨mT1 (i := 181) rfl, (List.forall_mem_cons.mpr ⟨mT1 (i := 183) rfl, (fun _ h => absurd h List.not_mem_nil)⟩)⟩)⟩)⟩)
theorem kn_2 {args : Array Value} {s : State} (hts : ∀ w ∈ lw_big, w.before args s = true) : ∃ (cC : ClassId) (iS : Nat → Nat), u_Kn s RX1 TX1 3 cC iS := by
  refine u_known (ws := lw_big) (n := 3) hts ?_ (hts _ (mT1 (i := 187) rfl))
  exact (List.forall_mem_cons.mpr ⟨mT1 (i := 198) rfl, (List.forall_mem_cons.mpr ⟨mT1 (i := 200) rfl, (List.forall_mem_cons.mpr ⟨mT1 (i := 202) rfl, (fun _ h => absurd h List.not_mem_nil)⟩)⟩)⟩)
theorem kn_3 {args : Array Value} {s : State} (hts : ∀ w ∈ lw_big, w.before args s = true) : ∃ (cC : ClassId) (iS : Nat → Nat), u_Kn s RX2 TX2 2 cC iS := by
  refine u_known (ws := lw_big) (n := 2) hts ?_ (hts _ (mT1 (i := 69) rfl))
  exact (List.forall_mem_cons.mpr ⟨mT1 (i := 80) rfl, (List.forall_mem_cons.mpr ⟨mT1 (i := 82) rfl, (fun _ h => absurd h List.not_mem_nil)⟩)⟩)
theorem kn_4 {args : Array Value} {s : State} (hts : ∀ w ∈ lw_big, w.before args s = true) : ∃ (cC : ClassId) (iS : Nat → Nat), u_Kn s RX3 TX3 4 cC iS := by
  refine u_known (ws := lw_big) (n := 4) hts ?_ (hts _ (mT1 (i := 92) rfl))
  exact (List.forall_mem_cons.mpr ⟨mT1 (i := 117) rfl, (List.forall_mem_cons.mpr ⟨mT1 (i := 119) rfl, (List.forall_mem_cons.mpr ⟨mT1 (i := 121) rfl, (List.forall_mem_cons.mpr ⟨mT1 (i := 123) rfl, (fun _ h => absurd h List.not_mem_nil)⟩)⟩)⟩)⟩)
theorem kn_5 {args : Array Value} {s : State} (hts : ∀ w ∈ lw_big, w.before args s = true) : ∃ (cC : ClassId) (iS : Nat → Nat), u_Kn s RX4 TX4 4 cC iS := by
  refine u_known (ws := lw_big) (n := 4) hts ?_ (hts _ (mT1 (i := 205) rfl))
  exact (List.forall_mem_cons.mpr ⟨mT1 (i := 218) rfl, (List.forall_mem_cons.mpr ⟨mT1 (i := 220) rfl, (List.forall_mem_cons.mpr ⟨mT1 (i := 222) rfl, (List.forall_mem_cons.mpr ⟨mT1 (i := 224) rfl, (fun _ h => absurd h List.not_mem_nil)⟩)⟩)⟩)⟩)
theorem kn_6 {args : Array Value} {s : State} (hts : ∀ w ∈ lw_big, w.before args s = true) : ∃ (cC : ClassId) (iS : Nat → Nat), u_Kn s RX5 TX5 7 cC iS := by
  refine u_known (ws := lw_big) (n := 7) hts ?_ (hts _ (mT2 (i := 96) rfl))
  exact (List.forall_mem_cons.mpr ⟨mT2 (i := 111) rfl, (List.forall_mem_cons.mpr ⟨mT2 (i := 113) rfl, (List.forall_mem_cons.mpr ⟨mT2 (i := 115) rfl, (List.forall_mem_cons.mpr ⟨mT2 (i := 117) rfl, (List.forall_mem_cons.mpr ⟨mT2 (i := 119) rfl, (List.forall_mem_cons.mpr ⟨mT2 (i := 121) rfl, (List.forall_mem_cons.mpr ⟨mT2 (i := 123) rfl, (fun _ h => absurd h List.not_mem_nil)⟩)⟩)⟩)⟩)⟩)⟩)⟩)
theorem kn_7 {args : Array Value} {s : State} (hts : ∀ w ∈ lw_big, w.before args s = true) : ∃ (cC : ClassId) (iS : Nat → Nat), u_Kn s RX6 TX6 18 cC iS := by
  refine u_known (ws := lw_big) (n := 18) hts ?_ (hts _ (mT1 (i := 33) rfl))
  exact (List.forall_mem_cons.mpr ⟨mT2 (i := 21) rfl, (List.forall_mem_cons.mpr ⟨mT2 (i := 23) rfl, (List.forall_mem_cons.mpr ⟨mT2 (i := 25) rfl, (List.forall_mem_cons.mpr ⟨mT2 (i := 27) rfl, (List.forall_mem_cons.mpr ⟨mT2 (i := 29) rfl, (List.forall_mem_cons.mpr ⟨mT2 (i := 31) rfl, (List.forall_mem_cons.mpr ⟨mT2 (i := 33) rfl, (List.forall_mem_cons.mpr ⟨mT2 (i := 35) rfl, (List.forall_mem_cons.mpr ⟨mT2 (i := 37) rfl, (List.forall_mem_cons.mpr ⟨mT2 (i := 39) rfl, (List.forall_mem_cons.mpr ⟨mT2 (i := 41) rfl, (List.forall_mem_cons.mpr ⟨mT2 (i := 43) rfl, (List.forall_mem_cons.mpr ⟨mT2 (i := 45) rfl, (List.forall_mem_cons.mpr ⟨mT2 (i := 47) rfl, (List.forall_mem_cons.mpr ⟨mT2 (i := 49) rfl, (List.forall_mem_cons.mpr ⟨mT2 (i := 51) rfl, (List.forall_mem_cons.mpr ⟨mT2 (i := 53) rfl, (List.forall_mem_cons.mpr ⟨mT2 (i := 55) rfl, (fun _ h => absurd h List.not_mem_nil)⟩)⟩)⟩)⟩)⟩)⟩)⟩)⟩)⟩)⟩)⟩)⟩)⟩)⟩)⟩)⟩)⟩)⟩)
theorem kn_8 {args : Array Value} {s : State} (hts : ∀ w ∈ lw_big, w.before args s = true) : ∃ (cC : ClassId) (iS : Nat → Nat), u_Kn s RX7 TX7 5 cC iS := by
  refine u_known (ws := lw_big) (n := 5) hts ?_ (hts _ (mT1 (i := 86) rfl))
  exact (List.forall_mem_cons.mpr ⟨mT1 (i := 135) rfl, (List.forall_mem_cons.mpr ⟨mT1 (i := 137) rfl, (List.forall_mem_cons.mpr ⟨mT1 (i := 139) rfl, (List.forall_mem_cons.mpr ⟨mT1 (i := 141) rfl, (List.forall_mem_cons.mpr ⟨mT1 (i := 143) rfl, (fun _ h => absurd h List.not_mem_nil)⟩)⟩)⟩)⟩)⟩)
theorem kn_9 {args : Array Value} {s : State} (hts : ∀ w ∈ lw_big, w.before args s = true) : ∃ (cC : ClassId) (iS : Nat → Nat), u_Kn s RX8 TX8 3 cC iS := by
  refine u_known (ws := lw_big) (n := 3) hts ?_ (hts _ (mT1 (i := 147) rfl))
  exact (List.forall_mem_cons.mpr ⟨mT1 (i := 155) rfl, (List.forall_mem_cons.mpr ⟨mT1 (i := 157) rfl, (List.forall_mem_cons.mpr ⟨mT1 (i := 159) rfl, (fun _ h => absurd h List.not_mem_nil)⟩)⟩)⟩)
theorem kn_10 {args : Array Value} {s : State} (hts : ∀ w ∈ lw_big, w.before args s = true) : ∃ (cC : ClassId) (iS : Nat → Nat), u_Kn s RX9 TX9 4 cC iS := by
  refine u_known (ws := lw_big) (n := 4) hts ?_ (hts _ (mT1 (i := 42) rfl))
  exact (List.forall_mem_cons.mpr ⟨mT1 (i := 58) rfl, (List.forall_mem_cons.mpr ⟨mT1 (i := 60) rfl, (List.forall_mem_cons.mpr ⟨mT1 (i := 62) rfl, (List.forall_mem_cons.mpr ⟨mT1 (i := 64) rfl, (fun _ h => absurd h List.not_mem_nil)⟩)⟩)⟩)⟩)
theorem kn_11 {args : Array Value} {s : State} (hts : ∀ w ∈ lw_big, w.before args s = true) : ∃ (cC : ClassId) (iS : Nat → Nat), u_Kn s RX10 TX10 9 cC iS := by
  refine u_known (ws := lw_big) (n := 9) hts ?_ (hts _ (mT1 (i := 25) rfl))
  exact (List.forall_mem_cons.mpr ⟨mT2 (i := 135) rfl, (List.forall_mem_cons.mpr ⟨mT2 (i := 137) rfl, (List.forall_mem_cons.mpr ⟨mT2 (i := 139) rfl, (List.forall_mem_cons.mpr ⟨mT2 (i := 141) rfl, (List.forall_mem_cons.mpr ⟨mT2 (i := 143) rfl, (List.forall_mem_cons.mpr ⟨mT2 (i := 145) rfl, (List.forall_mem_cons.mpr ⟨mT2 (i := 147) rfl, (List.forall_mem_cons.mpr ⟨mT2 (i := 149) rfl, (List.forall_mem_cons.mpr ⟨mT2 (i := 151) rfl, (fun _ h => absurd h List.not_mem_nil)⟩)⟩)⟩)⟩)⟩)⟩)⟩)⟩)⟩)
theorem kn_12 {args : Array Value} {s : State} (hts : ∀ w ∈ lw_big, w.before args s = true) : ∃ (cC : ClassId) (iS : Nat → Nat), u_Kn s RX11 TX11 20 cC iS := by
  refine u_known (ws := lw_big) (n := 20) hts ?_ (hts _ (mT5 (i := 32) rfl))
  exact (List.forall_mem_cons.mpr ⟨mT5 (i := 73) rfl, (List.forall_mem_cons.mpr ⟨mT5 (i := 75) rfl, (List.forall_mem_cons.mpr ⟨mT5 (i := 77) rfl, (List.forall_mem_cons.mpr ⟨mT5 (i := 79) rfl, (List.forall_mem_cons.mpr ⟨mT5 (i := 81) rfl, (List.forall_mem_cons.mpr ⟨mT5 (i := 83) rfl, (List.forall_mem_cons.mpr ⟨mT5 (i := 85) rfl, (List.forall_mem_cons.mpr ⟨mT5 (i := 87) rfl, (List.forall_mem_cons.mpr ⟨mT5 (i := 89) rfl, (List.forall_mem_cons.mpr ⟨mT5 (i := 91) rfl, (List.forall_mem_cons.mpr ⟨mT5 (i := 93) rfl, (List.forall_mem_cons.mpr ⟨mT5 (i := 95) rfl, (List.forall_mem_cons.mpr ⟨mT5 (i := 97) rfl, (List.forall_mem_cons.mpr ⟨mT5 (i := 99) rfl, (List.forall_mem_cons.mpr ⟨mT5 (i := 101) rfl, (List.forall_mem_cons.mpr ⟨mT5 (i := 103) rfl, (List.forall_mem_cons.mpr ⟨mT5 (i := 105) rfl, (List.forall_mem_cons.mpr ⟨mT5 (i := 107) rfl, (List.forall_mem_cons.mpr ⟨mT5 (i := 109) rfl, (List.forall_mem_cons.mpr ⟨mT5 (i := 111) rfl, (fun _ h => absurd h List.not_mem_nil)⟩)⟩)⟩)⟩)⟩)⟩)⟩)⟩)⟩)⟩)⟩)⟩)⟩)⟩)⟩)⟩)⟩)⟩)⟩)⟩)
theorem kn_all {args : Array Value} {s : State} (hts : ∀ w ∈ lw_big, w.before args s = true) : ∀ k : Nat, ∃ D : ClassId × (Nat → Nat), ∀ q : vw_C, vwCl[k]? = some q → u_Kn s q.1 q.2.1 q.2.2 D.1 D.2 := by
  intro k
  match k with
  | 0 => obtain ⟨c, i, h⟩ := kn_0 hts; exact ⟨(c, i), fun q hq => by cases hq; exact h⟩
  | 1 => obtain ⟨c, i, h⟩ := kn_1 hts; exact ⟨(c, i), fun q hq => by cases hq; exact h⟩
  | 2 => obtain ⟨c, i, h⟩ := kn_2 hts; exact ⟨(c, i), fun q hq => by cases hq; exact h⟩
  | 3 => obtain ⟨c, i, h⟩ := kn_3 hts; exact ⟨(c, i), fun q hq => by cases hq; exact h⟩
  | 4 => obtain ⟨c, i, h⟩ := kn_4 hts; exact ⟨(c, i), fun q hq => by cases hq; exact h⟩
  | 5 => obtain ⟨c, i, h⟩ := kn_5 hts; exact ⟨(c, i), fun q hq => by cases hq; exact h⟩
  | 6 => obtain ⟨c, i, h⟩ := kn_6 hts; exact ⟨(c, i), fun q hq => by cases hq; exact h⟩
  | 7 => obtain ⟨c, i, h⟩ := kn_7 hts; exact ⟨(c, i), fun q hq => by cases hq; exact h⟩
  | 8 => obtain ⟨c, i, h⟩ := kn_8 hts; exact ⟨(c, i), fun q hq => by cases hq; exact h⟩
  | 9 => obtain ⟨c, i, h⟩ := kn_9 hts; exact ⟨(c, i), fun q hq => by cases hq; exact h⟩
  | 10 => obtain ⟨c, i, h⟩ := kn_10 hts; exact ⟨(c, i), fun q hq => by cases hq; exact h⟩
  | 11 => obtain ⟨c, i, h⟩ := kn_11 hts; exact ⟨(c, i), fun q hq => by cases hq; exact h⟩
  | 12 => obtain ⟨c, i, h⟩ := kn_12 hts; exact ⟨(c, i), fun q hq => by cases hq; exact h⟩
  | k + 13 => exact ⟨Classical.choice ⟨(⟨0, fun _ => 0⟩ : ClassId × (Nat → Nat))⟩, fun q hq => by simp [vwCl] at hq⟩
set_option maxHeartbeats 1000000 in
theorem env_of {args : Array Value} {s : State} {A : Nat → Prop} (hts : ∀ w ∈ lw_big, w.before args s = true) (hgv : ∀ w ∈ nar, w.before args s = true) (hA : ∀ a : Nat, a < s.heap.size → ¬ A a) : ∃ E : Ev, EVt E s ∧ EVs E A s s.heap := by
  obtain ⟨D, hD⟩ := Classical.axiomOfChoice (kn_all hts)
  obtain ⟨c0, p0, r0⟩ := arrP_int (hts _ (mT1 (i := 67) rfl))
  obtain ⟨c1, p1, r1⟩ := arrP_long (hts _ (mT5 (i := 114) rfl))
  obtain ⟨c2, p2, r2⟩ := arrP_boolean (hts _ (mT5 (i := 115) rfl))
  obtain ⟨c3, p3, r3⟩ := arrP_byte (hts _ (mT2 (i := 94) rfl))
  obtain ⟨c4, p4, r4⟩ := arrO (hts (.arrayOver (.object RX4)) (mT1 (i := 39) rfl))
  obtain ⟨c5, p5, r5⟩ := arrO (hts (.arrayOver (.object RX9)) (mT1 (i := 41) rfl))
  obtain ⟨c6, p6, r6⟩ := arrO (hts (.arrayOver (.object RX6)) (mT2 (i := 58) rfl))
  obtain ⟨t0, z0, v0⟩ := envT (g := cosT) (hts (.laysStatic RX10 "COSINE" "[I") (mT3 (i := 94) rfl)) (hts (.initialized RX10) (mT1 (i := 1) rfl)) (by decide) (hgv _ (List.mem_of_getElem? nA_COSINE)) (hgv _ (List.mem_of_getElem? nL_COSINE)) (fun j hj => hgv _ (List.mem_of_getElem? (nE_COSINE j hj))) hA
  obtain ⟨t1, z1, v1⟩ := envT (g := lowT) (hts (.laysStatic RX10 "LOWEST_SETTING" "[I") (mT2 (i := 221) rfl)) (hts (.initialized RX10) (mT1 (i := 1) rfl)) (by decide) (hgv _ (List.mem_of_getElem? nA_LOWEST_SETTING)) (hgv _ (List.mem_of_getElem? nL_LOWEST_SETTING)) (fun j hj => hgv _ (List.mem_of_getElem? (nE_LOWEST_SETTING j hj))) hA
  obtain ⟨t2, z2, v2⟩ := envT (g := higT) (hts (.laysStatic RX10 "HIGHEST_SETTING" "[I") (mT2 (i := 223) rfl)) (hts (.initialized RX10) (mT1 (i := 1) rfl)) (by decide) (hgv _ (List.mem_of_getElem? nA_HIGHEST_SETTING)) (hgv _ (List.mem_of_getElem? nL_HIGHEST_SETTING)) (fun j hj => hgv _ (List.mem_of_getElem? (nE_HIGHEST_SETTING j hj))) hA
  obtain ⟨t3, z3, v3⟩ := envT (g := dgO) (hts (.laysStatic RJ6 "DigitOnes" "[B") (mT4 (i := 238) rfl)) (hts (.initialized RJ6) (mT1 (i := 17) rfl)) (by decide) (hgv _ (List.mem_of_getElem? nA_DigitOnes)) (hgv _ (List.mem_of_getElem? nL_DigitOnes)) (fun j hj => hgv _ (List.mem_of_getElem? (nE_DigitOnes j hj))) hA
  obtain ⟨t4, z4, v4⟩ := envT (g := dgT) (hts (.laysStatic RJ6 "DigitTens" "[B") (mT5 (i := 0) rfl)) (hts (.initialized RJ6) (mT1 (i := 17) rfl)) (by decide) (hgv _ (List.mem_of_getElem? nA_DigitTens)) (hgv _ (List.mem_of_getElem? nL_DigitTens)) (fun j hj => hgv _ (List.mem_of_getElem? (nE_DigitTens j hj))) hA
  refine ⟨((fun k => (D k).1, fun k => (D k).2), fun k => [c0, c1, c2, c3, c4, c5, c6].getD k c0, fun k => [t0, t1, t2, t3, t4].getD k 0), ⟨⟨fun k q hq => hD k q hq, fun k q hq => ?_⟩, fun w hw => va_Nw.of (nwl_tab w hw) (hts w (tW_nwl w hw)), va_AO.of (hts (.arrayOver (.object RX4)) (mT1 (i := 39) rfl)), va_AO.of (hts (.arrayOver (.object RX9)) (mT1 (i := 41) rfl)), va_AO.of (hts (.arrayOver (.object RX6)) (mT2 (i := 58) rfl))⟩, ⟨z0, v0⟩, ⟨z1, v1⟩, ⟨z2, v2⟩, ?_, ⟨z3, v3⟩, ⟨z4, v4⟩, ?_⟩
  · match k, hq with
    | 0, hq => cases hq; exact ⟨p0, r0⟩
    | 1, hq => cases hq; exact ⟨p1, r1⟩
    | 2, hq => cases hq; exact ⟨p2, r2⟩
    | 3, hq => cases hq; exact ⟨p3, r3⟩
    | 4, hq => cases hq; exact ⟨p4, r4⟩
    | 5, hq => cases hq; exact ⟨p5, r5⟩
    | 6, hq => cases hq; exact ⟨p6, r6⟩
    | k + 7, hq => simp [tysE] at hq
  · exact va_Zof (hts (.laysStatic RJ0 "COMPACT_STRINGS" "Z") (mT2 (i := 73) rfl)) (hts (.initialized RJ0) (mT1 (i := 13) rfl)) (va_eqi (hgv _ (List.mem_of_getElem? nC))) hA
  · exact va_Zqof (hts _ (mT4 (i := 107) rfl)) (hts _ (mT1 (i := 23) rfl)) (hgv _ (List.mem_of_getElem? nF9)) hA
