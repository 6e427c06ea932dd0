/-! NUMBERS: what a cell holds is an integer; I32 and I64 lay it into the machine's words -/
abbrev I32 (x : Int) : Int32 := Int32.ofInt x
abbrev I64 (x : Int) : Int64 := Int64.ofInt x
abbrev bi (x : Int) : Prop := -2147483648 ≤ x ∧ x < 2147483648
abbrev bl (x : Int) : Prop := -9223372036854775808 ≤ x ∧ x < 9223372036854775808
theorem i_toI {x : Int} (h : bi x) : (I32 x).toInt = x := Int32.toInt_ofInt_of_le (by have := h.1; omega) (by have := h.2; omega)
theorem l_toI {x : Int} (h : bl x) : (I64 x).toInt = x := Int64.toInt_ofInt_of_le (by have := h.1; omega) (by have := h.2; omega)
theorem i_lt {a b : Int} (ha : bi a) (hb : bi b) : I32 a < I32 b ↔ a < b := by rw [Int32.lt_iff_toInt_lt, i_toI ha, i_toI hb]
theorem i_le {a b : Int} (ha : bi a) (hb : bi b) : I32 a ≤ I32 b ↔ a ≤ b := by rw [Int32.le_iff_toInt_le, i_toI ha, i_toI hb]
theorem i_eq {a b : Int} (ha : bi a) (hb : bi b) : I32 a = I32 b ↔ a = b := by rw [← Int32.toInt_inj, i_toI ha, i_toI hb]
theorem l_lt {a b : Int} (ha : bl a) (hb : bl b) : I64 a < I64 b ↔ a < b := by rw [Int64.lt_iff_toInt_lt, l_toI ha, l_toI hb]
theorem l_le {a b : Int} (ha : bl a) (hb : bl b) : I64 a ≤ I64 b ↔ a ≤ b := by rw [Int64.le_iff_toInt_le, l_toI ha, l_toI hb]
theorem l_eq {a b : Int} (ha : bl a) (hb : bl b) : I64 a = I64 b ↔ a = b := by rw [← Int64.toInt_inj, l_toI ha, l_toI hb]
theorem b0 : bi 0 := ⟨by decide, by decide⟩
theorem b0l : bl 0 := ⟨by decide, by decide⟩
theorem i_z : (0 : Int32) = I32 0 := rfl
theorem i_cl {x : Int} (h : bi x) : (I32 x).toNatClampNeg = x.toNat := Int32.toNatClampNeg_ofInt_of_le (by have := h.1; omega) (by have := h.2; omega)
theorem i_div {a b : Int} (ha : bi a) (hb : bi b) (hn : b ≠ -1 ∨ a ≠ -2147483648) : I32 a / I32 b = I32 (a.tdiv b) := by
  rw [← Int32.toInt_inj, Int32.toInt_div, i_toI ha, i_toI hb]
  simp only [I32, Int32.toInt_ofInt]
theorem l_div {a b : Int} (ha : bl a) (hb : bl b) : I64 a / I64 b = I64 (a.tdiv b) := by
  rw [← Int64.toInt_inj, Int64.toInt_div, l_toI ha, l_toI hb]
  simp only [I64, Int64.toInt_ofInt]
theorem i_mod {a b : Int} (ha : bi a) (hb : bi b) : I32 a - I32 a / I32 b * I32 b = I32 (a.tmod b) := by
  rw [show I32 a / I32 b = I32 (a.tdiv b) by
    rw [← Int32.toInt_inj, Int32.toInt_div, i_toI ha, i_toI hb]
    simp only [I32, Int32.toInt_ofInt]]
  rw [show I32 (a.tdiv b) * I32 b = I32 (a.tdiv b * b) from (Int32.ofInt_mul _ _).symm, show I32 a - I32 (a.tdiv b * b) = I32 (a - a.tdiv b * b) from (Int32.ofInt_sub _ _).symm]
  congr 1
  have := Int.tmod_add_mul_tdiv a b
  rw [Int.mul_comm] at this
  omega
theorem l_mod {a b : Int} (ha : bl a) (hb : bl b) : I64 a - I64 a / I64 b * I64 b = I64 (a.tmod b) := by
  rw [l_div ha hb]
  rw [show I64 (a.tdiv b) * I64 b = I64 (a.tdiv b * b) from (Int64.ofInt_mul _ _).symm, show I64 a - I64 (a.tdiv b * b) = I64 (a - a.tdiv b * b) from (Int64.ofInt_sub _ _).symm]
  congr 1
  have := Int.tmod_add_mul_tdiv a b
  rw [Int.mul_comm] at this
  omega
theorem i_2l {a : Int} (h : bi a) : (I32 a).toInt64 = I64 a := Int32.toInt64_ofInt (by have := h.1; show -2147483648 ≤ a; omega) (by have := h.2; show a ≤ 2147483647; omega)
theorem l_2i {a : Int} : (I64 a).toInt32 = I32 a := Int64.toInt32_ofInt
theorem i_ne0 {a : Int} (h : bi a) (hn : a ≠ 0) : ¬ I32 a = 0 := fun q => hn ((i_eq h b0).mp q)
theorem l_ne0 {a : Int} (h : bl a) (hn : a ≠ 0) : ¬ I64 a = 0 := fun q => hn ((l_eq h b0l).mp q)
/-- any word is such a one -/
theorem i_of (x : Int32) : ∃ a : Int, bi a ∧ x = I32 a := ⟨x.toInt, ⟨by have := x.le_toInt; omega, by have := x.toInt_lt; omega⟩, (Int32.ofInt_toInt x).symm⟩
def ua (a : Int → Int) (i v : Int) : Int → Int := fun j => if j = i then v else a j
theorem ua_eq {a : Int → Int} {i v : Int} : ua a i v i = v := if_pos rfl
theorem ua_eq' {a : Int → Int} {i j v : Int} (h : j = i) : ua a i v j = v := if_pos h
theorem ua_ne {a : Int → Int} {i j v : Int} (h : ¬ j = i) : ua a i v j = a j := if_neg h
/-- what an array of n places holds: 0 behind its end, so that arrays which agree are equal -/
def AI (n : Nat) (a : Int → Int) : Nat → Int32 := fun k => if k < n then I32 (a k) else 0
def AL (n : Nat) (a : Int → Int) : Nat → Int64 := fun k => if k < n then I64 (a k) else 0
theorem AI_0 (n : Nat) : AI n (fun _ => 0) = fun _ => 0 := by
  funext k; unfold AI; split <;> rfl
theorem AL_0 (n : Nat) : AL n (fun _ => 0) = fun _ => 0 := by
  funext k; unfold AL; split <;> rfl
theorem AI_c {n : Nat} {a b : Int → Int} (h : ∀ k : Int, 0 ≤ k → k < n → a k = b k) : AI n a = AI n b := by
  funext k; unfold AI; split
  · rename_i hk; rw [h k (by omega) (by omega)]
  · rfl
theorem AL_c {n : Nat} {a b : Int → Int} (h : ∀ k : Int, 0 ≤ k → k < n → a k = b k) : AL n a = AL n b := by
  funext k; unfold AL; split
  · rename_i hk; rw [h k (by omega) (by omega)]
  · rfl
theorem AI_at {n : Nat} {a : Int → Int} {i : Int} (h0 : 0 ≤ i) (h1 : i < n) (hn : n < 2147483648) : AI n a (I32 i).toNatClampNeg = I32 (a i) := by
  rw [i_cl ⟨by omega, by omega⟩]; unfold AI; rw [if_pos (by omega), show ((i.toNat : Nat) : Int) = i by omega]
theorem AL_at {n : Nat} {a : Int → Int} {i : Int} (h0 : 0 ≤ i) (h1 : i < n) (hn : n < 2147483648) : AL n a (I32 i).toNatClampNeg = I64 (a i) := by
  rw [i_cl ⟨by omega, by omega⟩]; unfold AL; rw [if_pos (by omega), show ((i.toNat : Nat) : Int) = i by omega]
theorem AI_up {n : Nat} {a : Int → Int} {i v : Int} (h0 : 0 ≤ i) (h1 : i < n) (hn : n < 2147483648) : upd (AI n a) (I32 i).toNatClampNeg (I32 v) = AI n (ua a i v) := by
  rw [i_cl ⟨by omega, by omega⟩]; funext k; unfold AI upd ua
  by_cases e : k = i.toNat
  · rw [if_pos e, if_pos (by omega), if_pos (by omega)]
  · rw [if_neg e]; show (if k < n then I32 (a k) else 0) = _; split
    · rw [if_neg (by omega)]
    · rfl
theorem AL_up {n : Nat} {a : Int → Int} {i v : Int} (h0 : 0 ≤ i) (h1 : i < n) (hn : n < 2147483648) : vp_updL (AL n a) (I32 i).toNatClampNeg (I64 v) = AL n (ua a i v) := by
  rw [i_cl ⟨by omega, by omega⟩]; funext k; unfold AL vp_updL ua
  by_cases e : k = i.toNat
  · rw [if_pos e, if_pos (by omega), if_pos (by omega)]
  · rw [if_neg e]; show (if k < n then I64 (a k) else 0) = _; split
    · rw [if_neg (by omega)]
    · rfl
theorem i_vp {n : Nat} {i : Int} (h0 : 0 ≤ i) (h1 : i < n) (hn : n < 2147483648) : vp_in (I32 i) n := by
  unfold vp_in; rw [i_cl ⟨by omega, by omega⟩, i_z, i_lt ⟨by omega, by omega⟩ b0]; omega
/-- a condition as a number -/
def bP (c : Prop) [Decidable c] : Int := if c then 1 else 0
theorem bP_t {c : Prop} [Decidable c] (h : c) : bP c = 1 := if_pos h
theorem bP_f {c : Prop} [Decidable c] (h : ¬ c) : bP c = 0 := if_neg h
theorem bP_b {c : Prop} [Decidable c] : bi (bP c) := by unfold bP; split <;> exact ⟨by decide, by decide⟩
theorem bP_01 {c : Prop} [Decidable c] : 0 ≤ bP c ∧ bP c ≤ 1 := by unfold bP; split <;> exact ⟨by decide, by decide⟩
theorem bP_iff {c : Prop} [Decidable c] : bP c = 0 ↔ ¬ c := by unfold bP; split <;> simp_all
theorem bP_c {c d : Prop} [Decidable c] [Decidable d] (h : c ↔ d) : bP c = bP d := by unfold bP; simp only [h]
abbrev vI (x : Int) : Value := .int (I32 x)
abbrev vL (x : Int) : Value := .long (I64 x)
abbrev vR (q : Nat) : Value := .ref q
def maxI (a b : Int) : Int := if a < b then b else a
def minI (a b : Int) : Int := if b < a then b else a
def absI (a : Int) : Int := if 0 < a then a else -a
def sh (a : Int → Int) (o : Int) : Int → Int := fun k => a (o + k)
def sh2 (a : Int → Int) (o : Int) : Int → Int := fun k => a (o + 2 * k)
/-! THE SURROUNDINGS: class numbers, array classes, addresses of the static arrays -/
abbrev Ev : Type := va_G × (Nat → ClassId) × (Nat → Nat)
def tysE (E : Ev) : List (ClassId × FieldType) := [(E.2.1 0, .int), (E.2.1 1, .long), (E.2.1 2, .boolean), (E.2.1 3, .byte), (E.2.1 4, .object RX4), (E.2.1 5, .object RX9), (E.2.1 6, .object RX6)]
def nwl : List Cond := [.methodLinkNest RX6 32 yX2_init RX10, .methodLinkNest RX6 39 yX7_init RX10, .methodLinkNest RX7 9 yX3_init RX10, .methodLinkNest RX6 46 yX8_init RX10, .methodLinkNest RX6 56 yX3_init RX10, .methodLinkNest RX6 63 yX0_init RX10, .methodLinkNest RX6 70 yX1_init RX10, .methodLinkNest RX6 79 yX4_init RX10, .methodLinkNest RX10 25 yX3_init RX10, .methodLinkNest RX10 35 yX0_init RX10, .methodLinkNest RX10 49 yX5_init RX10, .fieldLinkNest RX8 34 RX10 "COSINE" "[I" RX10, .methodLinkNest RX6 230 yX10_isInSet RX10, .methodLinkNest RX5 72 yX10_outside RX10]
theorem nwl_tab : ∀ w ∈ nwl, w.onTables = true := by decide +kernel
theorem nwl_warm {w : Cond} (hw : w ∈ nwl) {s U : State} (hW : s.WarmedH U.vm) (h : va_Nw w s) : va_Nw w U := by
  simp only [nwl, List.mem_cons, List.not_mem_nil, or_false] at hw
  rcases hw with rfl | rfl | rfl | rfl | rfl | rfl | rfl | rfl | rfl | rfl | rfl | rfl | rfl | rfl <;> first | exact va_Nw.warmM hW h | exact va_Nw.warmF hW h
def EVt (E : Ev) (U : State) : Prop := va_K E.1 vwCl (tysE E) U ∧ (∀ w ∈ nwl, va_Nw w U) ∧ va_AO RX4 U ∧ va_AO RX9 U ∧ va_AO RX6 U
def cosL : List Int := [4096, 3956, 3547, 2896, 2048, 1060, 0, -1060, -2048, -2896, -3547, -3956, -4096, -3956, -3547, -2896, -2048, -1060, 0, 1060, 2048, 2896, 3547, 3956]
def cosT (k : Int) : Int := cosL.getD k.toNat 0
def lowL : List Int := [1, 0, 0, 0, 0, 0, 1, 0]
def lowT (k : Int) : Int := lowL.getD k.toNat 0
def higL : List Int := [20000, 20000, 1000, 20000, 10000, 7, 1000, 7]
def higT (k : Int) : Int := higL.getD k.toNat 0
def dgO (k : Int) : Int := 48 + k % 10
def dgT (k : Int) : Int := 48 + k / 10
/-- the statics that are read: none of them lies where A allows to write -/
def EVs (E : Ev) (A : Nat → Prop) (U : State) (H : Heap) : Prop :=
  (va_Z RX10 "COSINE" "[I" (.ref (E.2.2 0)) A U H ∧ va_T .int (E.2.2 0) 24 (fun j => .int (AI 24 cosT j)) A U H) ∧
  (va_Z RX10 "LOWEST_SETTING" "[I" (.ref (E.2.2 1)) A U H ∧ va_T .int (E.2.2 1) 8 (fun j => .int (AI 8 lowT j)) A U H) ∧
  (va_Z RX10 "HIGHEST_SETTING" "[I" (.ref (E.2.2 2)) A U H ∧ va_T .int (E.2.2 2) 8 (fun j => .int (AI 8 higT j)) A U H) ∧
  va_Z RJ0 "COMPACT_STRINGS" "Z" (.int (I32 1)) A U H ∧
  (va_Z RJ6 "DigitOnes" "[B" (.ref (E.2.2 3)) A U H ∧ va_T .byte (E.2.2 3) 100 (fun j => .int (AI 100 dgO j)) A U H) ∧
  (va_Z RJ6 "DigitTens" "[B" (.ref (E.2.2 4)) A U H ∧ va_T .byte (E.2.2 4) 100 (fun j => .int (AI 100 dgT j)) A U H) ∧
  va_Zq "jdk/internal/util/Preconditions" "SIOOBE_FORMATTER" "Ljava/util/function/BiFunction;" A U H
theorem EVt.warm {E : Ev} {s U : State} (hW : s.WarmedH U.vm) (h : EVt E s) : EVt E U := ⟨h.1.moved hW.alike, fun w hw => nwl_warm hw hW (h.2.1 w hw), h.2.2.1.moved hW.alike, h.2.2.2.1.moved hW.alike, h.2.2.2.2.moved hW.alike⟩
theorem EVt.same {E : Ev} {u U : State} (hvm : u.vm = U.vm) (h : EVt E u) : EVt E U := by
  have ha : u.vm.Alike U.vm := by rw [hvm]; exact Vm.Alike.refl _
  exact ⟨h.1.moved ha, fun w hw => (h.2.1 w hw).same (nwl_tab w hw) hvm, h.2.2.1.moved ha, h.2.2.2.1.moved ha, h.2.2.2.2.moved ha⟩
theorem EVs.moved {E : Ev} {A : Nat → Prop} {u U : State} {H : Heap} (hvm : u.vm.Alike U.vm) (h : EVs E A u H) : EVs E A U H :=
  ⟨⟨h.1.1.moved hvm, h.1.2.moved hvm⟩, ⟨h.2.1.1.moved hvm, h.2.1.2.moved hvm⟩, ⟨h.2.2.1.1.moved hvm, h.2.2.1.2.moved hvm⟩, h.2.2.2.1.moved hvm, ⟨h.2.2.2.2.1.1.moved hvm, h.2.2.2.2.1.2.moved hvm⟩, ⟨h.2.2.2.2.2.1.1.moved hvm, h.2.2.2.2.2.1.2.moved hvm⟩, h.2.2.2.2.2.2.moved hvm⟩
theorem EVs.kept {E : Ev} {A : Nat → Prop} {U : State} {H H1 : Heap} (h : EVs E A U H) (hq : ∀ a : Nat, a < H.size → ¬ A a → H1[a]? = H[a]?) : EVs E A U H1 :=
  ⟨⟨h.1.1.kept hq, h.1.2.kept hq⟩, ⟨h.2.1.1.kept hq, h.2.1.2.kept hq⟩, ⟨h.2.2.1.1.kept hq, h.2.2.1.2.kept hq⟩, h.2.2.2.1.kept hq, ⟨h.2.2.2.2.1.1.kept hq, h.2.2.2.2.1.2.kept hq⟩, ⟨h.2.2.2.2.2.1.1.kept hq, h.2.2.2.2.2.1.2.kept hq⟩, h.2.2.2.2.2.2.kept hq⟩
theorem EVs.narrow {E : Ev} {A B : Nat → Prop} {U : State} {H : Heap} (h : EVs E A U H) (hq : ∀ q, B q → A q) : EVs E B U H :=
  ⟨⟨h.1.1.narrow hq, h.1.2.narrow hq⟩, ⟨h.2.1.1.narrow hq, h.2.1.2.narrow hq⟩, ⟨h.2.2.1.1.narrow hq, h.2.2.1.2.narrow hq⟩, h.2.2.2.1.narrow hq, ⟨h.2.2.2.2.1.1.narrow hq, h.2.2.2.2.1.2.narrow hq⟩, ⟨h.2.2.2.2.2.1.1.narrow hq, h.2.2.2.2.2.1.2.narrow hq⟩, h.2.2.2.2.2.2.narrow hq⟩
theorem t_i (E : Ev) : (tysE E)[0]? = some (E.2.1 0, .int) := rfl
theorem t_l (E : Ev) : (tysE E)[1]? = some (E.2.1 1, .long) := rfl
theorem t_z (E : Ev) : (tysE E)[2]? = some (E.2.1 2, .boolean) := rfl
theorem t_b (E : Ev) : (tysE E)[3]? = some (E.2.1 3, .byte) := rfl
abbrev cI (E : Ev) (N : Nat) (a : Int → Int) : va_E := .inl (E.2.1 0, N, .inl (AI N a))
abbrev cL (E : Ev) (N : Nat) (a : Int → Int) : va_E := .inl (E.2.1 1, N, .inr (.inl (AL N a)))
abbrev cZ (E : Ev) (N : Nat) (a : Int → Int) : va_E := .inl (E.2.1 2, N, .inl (AI N a))
abbrev cB (E : Ev) (N : Nat) (a : Int → Int) : va_E := .inl (E.2.1 3, N, .inl (AI N a))
abbrev cQ (E : Ev) (t N : Nat) (f : Nat → Option Nat) : va_E := .inl (E.2.1 t, N, .inr (.inr (.inr (.inr f))))
theorem cI_c {E : Ev} {n : Nat} {a b : Int → Int} (h : ∀ k : Int, 0 ≤ k → k < n → a k = b k) : cI E n a = cI E n b := by unfold cI; rw [AI_c h]
theorem cL_c {E : Ev} {n : Nat} {a b : Int → Int} (h : ∀ k : Int, 0 ≤ k → k < n → a k = b k) : cL E n a = cL E n b := by unfold cL; rw [AL_c h]
theorem cZ_c {E : Ev} {n : Nat} {a b : Int → Int} (h : ∀ k : Int, 0 ≤ k → k < n → a k = b k) : cZ E n a = cZ E n b := by unfold cZ; rw [AI_c h]
theorem cB_c {E : Ev} {n : Nat} {a b : Int → Int} (h : ∀ k : Int, 0 ≤ k → k < n → a k = b k) : cB E n a = cB E n b := by unfold cB; rw [AI_c h]
/-! THE JUDGEMENT: from the world ws, the locals lv and the stack st at pc the method comes to Q -/
def Cx (p : Program) (s : State) (m : MethodId) (args : Array Value) (meth : Method) (c : Code) (E : Ev) (A : Nat → Prop) (nL : Nat) (cc : ByteArray) (Ts : List Cond) (own : String) : Prop :=
  (p.tables.exec = Jvm.exec ∧ c.code = cc ∧ c.maxLocals = nL ∧ s.vm.findClass own = some m.cls ∧ ∀ w ∈ Ts, w.before args s = true) ∧ EVt E s ∧ EVs E A s s.heap ∧ (∀ q, s.heap.size ≤ q → A q) ∧ meth.locks = false
def G (p : Program) (l : Launch) (e : Env) (R : Room) (s : State) (m : MethodId) (args : Array Value) (below : List Frame) (meth : Method) (c : Code) (Q : State → Prop) (E : Ev) (A : Nat → Prop) (nL : Nat) (k n : Nat) (ws : va_W) (lv : List (Nat × Value)) (pc : Nat) (st : List Value) : Prop :=
  ∀ (H : Heap) (locs : List Loc) (ls : Array Slot), va_P E.1 vwCl ws H → va_D A ws → va_S A s.heap H locs → lv_has ls nL lv → W p l e R s m args below meth c H locs k n Q (F0 m pc ls st)
/-- a method's contract: from the world wc and the arguments av it comes to a value and a world of which Post holds -/
def McP (E : Ev) (wc : va_W) (av : List Value) (sz : Nat) : Array Value → State → Prop := va_Pc av (fun U => U.heap.size = sz ∧ va_P E.1 vwCl wc U.heap ∧ va_D (fun _ => True) wc ∧ EVt E U ∧ EVs E (va_A wc sz) U U.heap)
def McQ (E : Ev) (Post : Option Value → va_W → Prop) (A : Nat → Prop) : Array Value → State → Outcome → State → Prop := fun _ st oc t => (∃ (v : Option Value) (w1 : va_W), oc = .returned v ∧ Post v w1 ∧ va_P E.1 vwCl w1 t.heap ∧ va_D A w1) ∧ va_F A st t
def Mc (l : Launch) (y : MethodName) (wy : List Cond) (rm : Room) (E : Ev) (av : List Value) (wc : va_W) (mc ms : Nat) (Post : Option Value → va_W → Prop) : Prop :=
  ∀ sz : Nat, Met l y wy rm (McP E wc av sz) (McQ E Post (va_A wc sz)) mc ms (va_A wc sz)
def RQ (E : Ev) (Post : Option Value → va_W → Prop) (A : Nat → Prop) (below : List Frame) (args : Array Value) (s : State) (mc ms : Nat) : State → Prop := MQ below (McQ E Post A) args s mc ms A
/-- a contract out of the walk of its body -/
theorem Mc.intro {l : Launch} {y : MethodName} {wy wy' : List Cond} {rm : Room} {E : Ev} {av : List Value} {wc : va_W} {mc ms : Nat} {Post : Option Value → va_W → Prop} {cc : ByteArray} {maxL : Nat} {ret : Option FieldType} {lv0 : List (Nat × Value)}
    (hy : plainFor y = true) (hw : wy = Cond.code y cc maxL ret :: wy') (hlv : lv_args 0 av = lv0) (hlen : (lg_sl av).length ≤ maxL)
    (body : ∀ (p : Program) (e : Env) (s : State) (m : MethodId) (args : Array Value) (below : List Frame) (meth : Method) (c : Code) (A : Nat → Prop), Cx p s m args meth c E A maxL cc wy y.cls → meth.sig.returnType = ret → meth.name = y.name →
      G p l e rm s m args below meth c (RQ E Post A below args s mc ms) E A maxL 0 0 wc lv0 0 []) : Mc l y wy rm E av wc mc ms Post := by
  intro sz
  refine va_MetF (cc := cc) (maxL := maxL) (ret := ret) hy hw ?_
  intro p e s m args below meth c s₁ B hml hv
  obtain ⟨rfl, hsz, hP, hD0, hE, hZ⟩ := hv
  subst hsz
  have hC : Cx p s m av.toArray meth c E (va_A wc s.heap.size) maxL cc wy y.cls := ⟨⟨B.exec, B.bytes, hml, findClass_of_methodNamed B.named, atoms_spec (ws := wy) B.pre⟩, hE, hZ, fun q h => Or.inr h, B.notSynchronized⟩
  have hb := body p e s m av.toArray below meth c _ hC B.returns (name_of_methodNamed B.named B.method).1
  rw [lg_entry_eq]
  exact hb s.heap [] _ hP hD0.self va_S.rf (hlv ▸ lv_entry av hlen)
section ROWS
variable {p : Program} {l : Launch} {e : Env} {R : Room} {s : State} {m : MethodId} {args : Array Value} {below : List Frame} {meth : Method} {c : Code} {Q : State → Prop} {E : Ev} {A : Nat → Prop} {nL : Nat} {cc : ByteArray} {Ts : List Cond} {own : String} {k n : Nat} {ws : va_W} {lv : List (Nat × Value)} {pc pc' : Nat} {st : List Value}
theorem g_ws {ws' : va_W} (h : ws' = ws) (kk : G p l e R s m args below meth c Q E A nL k n ws' lv pc st) : G p l e R s m args below meth c Q E A nL k n ws lv pc st := h ▸ kk
theorem g_top {v v' : Value} (h : v' = v) (kk : G p l e R s m args below meth c Q E A nL k n ws lv pc (v' :: st)) : G p l e R s m args below meth c Q E A nL k n ws lv pc (v :: st) := h ▸ kk
theorem g_is {ws' : va_W} {st' : List Value} (h : ws = ws') (h2 : st = st') (kk : G p l e R s m args below meth c Q E A nL k n ws' lv pc st') : G p l e R s m args below meth c Q E A nL k n ws lv pc st := h ▸ h2 ▸ kk
theorem g_cast {ws' : va_W} {lv' : List (Nat × Value)} {st' : List Value} (h : ws = ws') (h1 : lv = lv') (h2 : st = st') (kk : G p l e R s m args below meth c Q E A nL k n ws' lv' pc st') : G p l e R s m args below meth c Q E A nL k n ws lv pc st := h ▸ h1 ▸ h2 ▸ kk
theorem g_lv {lv' : List (Nat × Value)} (ks : List Nat) (h : lv_pick lv ks = lv') (kk : G p l e R s m args below meth c Q E A nL k n ws lv' pc st) : G p l e R s m args below meth c Q E A nL k n ws lv pc st :=
  fun H locs ls hP hD hS hl => kk H locs ls hP hD hS (lv_sub hl ks h)
theorem g_sub {ws' : va_W} (is : List Nat) (hn : va_nd is = true) (h1 : is.filterMap (fun i => ws[i]?) = ws') (h2 : is.map (fun i => ws[i]?) = ws'.map some) (kk : G p l e R s m args below meth c Q E A nL k n ws' lv pc st) : G p l e R s m args below meth c Q E A nL k n ws lv pc st :=
  fun H locs ls hP hD hS hl => kk H locs ls (hP.sub is h1) (hD.sub is hn h2) hS hl
theorem g_wid {k' n' : Nat} (h1 : k ≤ k') (h2 : n ≤ n') (kk : G p l e R s m args below meth c Q E A nL k' n' ws lv pc st) : G p l e R s m args below meth c Q E A nL k n ws lv pc st :=
  fun H locs ls hP hD hS hl => W.widen h1 h2 (kk H locs ls hP hD hS hl)
theorem g_iconst (C : Cx p s m args meth c E A nL cc Ts own) {i : Int}  (d : decode cc pc = .ok (.iconst i, 1)) (hn : pc + 1 = pc') (kk : G p l e R s m args below meth c Q E A nL k n ws lv pc' (.int (I32 i) :: st)) : G p l e R s m args below meth c Q E A nL k n ws lv pc (st) := by
  subst hn; intro H locs ls hP hD hS hl; exact lv_iconst C.1.1 C.1.2.1 d rfl (kk H locs ls hP hD hS hl)
theorem g_bipush (C : Cx p s m args meth c E A nL cc Ts own) {i : Int} (hv : (Int8.ofInt i).toInt32 = I32 i) (d : decode cc pc = .ok (.bipush i, 2)) (hn : pc + 2 = pc') (kk : G p l e R s m args below meth c Q E A nL k n ws lv pc' (.int (I32 i) :: st)) : G p l e R s m args below meth c Q E A nL k n ws lv pc (st) := by
  subst hn; intro H locs ls hP hD hS hl; exact lv_bipush C.1.1 C.1.2.1 d hv (kk H locs ls hP hD hS hl)
theorem g_sipush (C : Cx p s m args meth c E A nL cc Ts own) {i : Int} (hv : (Int16.ofInt i).toInt32 = I32 i) (d : decode cc pc = .ok (.sipush i, 3)) (hn : pc + 3 = pc') (kk : G p l e R s m args below meth c Q E A nL k n ws lv pc' (.int (I32 i) :: st)) : G p l e R s m args below meth c Q E A nL k n ws lv pc (st) := by
  subst hn; intro H locs ls hP hD hS hl; exact lv_sipush C.1.1 C.1.2.1 d hv (kk H locs ls hP hD hS hl)
theorem g_lconst0 (C : Cx p s m args meth c E A nL cc Ts own)   (d : decode cc pc = .ok (.lconst 0, 1)) (hn : pc + 1 = pc') (kk : G p l e R s m args below meth c Q E A nL k n ws lv pc' (.long (I64 0) :: st)) : G p l e R s m args below meth c Q E A nL k n ws lv pc (st) := by
  subst hn; intro H locs ls hP hD hS hl; exact lv_lconst C.1.1 C.1.2.1 d rfl (kk H locs ls hP hD hS hl)
theorem g_lconst1 (C : Cx p s m args meth c E A nL cc Ts own)   (d : decode cc pc = .ok (.lconst 1, 1)) (hn : pc + 1 = pc') (kk : G p l e R s m args below meth c Q E A nL k n ws lv pc' (.long (I64 1) :: st)) : G p l e R s m args below meth c Q E A nL k n ws lv pc (st) := by
  subst hn; intro H locs ls hP hD hS hl; exact lv_lconst C.1.1 C.1.2.1 d rfl (kk H locs ls hP hD hS hl)
theorem g_ldc (C : Cx p s m args meth c E A nL cc Ts own) {x : Int} {idx : Nat} {z : Int32} (hm : Cond.constant own idx z ∈ Ts) (hv : z = I32 x) (d : decode cc pc = .ok (.ldc idx, 2)) (hn : pc + 2 = pc') (kk : G p l e R s m args below meth c Q E A nL k n ws lv pc' (.int (I32 x) :: st)) : G p l e R s m args below meth c Q E A nL k n ws lv pc (st) := by
  subst hn; intro H locs ls hP hD hS hl; exact lv_ldc C.1.1 C.1.2.1 C.1.2.2.2.1 (hv ▸ C.1.2.2.2.2 _ hm) d (kk H locs ls hP hD hS hl)
theorem g_ldc2 (C : Cx p s m args meth c E A nL cc Ts own) {x : Int} {idx : Nat} {z : Int64} (hm : Cond.constantLong own idx z ∈ Ts) (hv : z = I64 x) (d : decode cc pc = .ok (.ldc2_w idx, 3)) (hn : pc + 3 = pc') (kk : G p l e R s m args below meth c Q E A nL k n ws lv pc' (.long (I64 x) :: st)) : G p l e R s m args below meth c Q E A nL k n ws lv pc (st) := by
  subst hn; intro H locs ls hP hD hS hl; exact lv_ldc2 C.1.1 C.1.2.1 C.1.2.2.2.1 (hv ▸ C.1.2.2.2.2 _ hm) d (kk H locs ls hP hD hS hl)
theorem g_iload_n (C : Cx p s m args meth c E A nL cc Ts own) {i : Fin 4} {x : Int32} (q : Nat) (hq : lv[q]? = some ((i : Nat), .int x)) (d : decode cc pc = .ok (.iload_n i, 1)) (hn : pc + 1 = pc') (kk : G p l e R s m args below meth c Q E A nL k n ws lv pc' (.int x :: st)) : G p l e R s m args below meth c Q E A nL k n ws lv pc (st) := by
  subst hn; intro H locs ls hP hD hS hl; exact lv_iload_n C.1.1 C.1.2.1 d rfl (lv_at hl q hq) (kk H locs ls hP hD hS hl)
theorem g_iload (C : Cx p s m args meth c E A nL cc Ts own) {i : Nat} {x : Int32} (q : Nat) (hq : lv[q]? = some (i, .int x)) (d : decode cc pc = .ok (.iload i, 2)) (hn : pc + 2 = pc') (kk : G p l e R s m args below meth c Q E A nL k n ws lv pc' (.int x :: st)) : G p l e R s m args below meth c Q E A nL k n ws lv pc (st) := by
  subst hn; intro H locs ls hP hD hS hl; exact lv_iload C.1.1 C.1.2.1 d (lv_at hl q hq) (kk H locs ls hP hD hS hl)
theorem g_lload_n (C : Cx p s m args meth c E A nL cc Ts own) {i : Fin 4} {x : Int64} (q : Nat) (hq : lv[q]? = some ((i : Nat), .long x)) (d : decode cc pc = .ok (.lload_n i, 1)) (hn : pc + 1 = pc') (kk : G p l e R s m args below meth c Q E A nL k n ws lv pc' (.long x :: st)) : G p l e R s m args below meth c Q E A nL k n ws lv pc (st) := by
  subst hn; intro H locs ls hP hD hS hl; exact lv_lload_n C.1.1 C.1.2.1 d rfl (lv_at hl q hq) (kk H locs ls hP hD hS hl)
theorem g_lload (C : Cx p s m args meth c E A nL cc Ts own) {i : Nat} {x : Int64} (q : Nat) (hq : lv[q]? = some (i, .long x)) (d : decode cc pc = .ok (.lload i, 2)) (hn : pc + 2 = pc') (kk : G p l e R s m args below meth c Q E A nL k n ws lv pc' (.long x :: st)) : G p l e R s m args below meth c Q E A nL k n ws lv pc (st) := by
  subst hn; intro H locs ls hP hD hS hl; exact lv_lload C.1.1 C.1.2.1 d (lv_at hl q hq) (kk H locs ls hP hD hS hl)
theorem g_aload_n (C : Cx p s m args meth c E A nL cc Ts own) {i : Fin 4} {x : Nat} (q : Nat) (hq : lv[q]? = some ((i : Nat), .ref x)) (d : decode cc pc = .ok (.aload_n i, 1)) (hn : pc + 1 = pc') (kk : G p l e R s m args below meth c Q E A nL k n ws lv pc' (.ref x :: st)) : G p l e R s m args below meth c Q E A nL k n ws lv pc (st) := by
  subst hn; intro H locs ls hP hD hS hl; exact lv_aload_n C.1.1 C.1.2.1 d rfl (lv_at hl q hq) (kk H locs ls hP hD hS hl)
theorem g_aload (C : Cx p s m args meth c E A nL cc Ts own) {i : Nat} {x : Nat} (q : Nat) (hq : lv[q]? = some (i, .ref x)) (d : decode cc pc = .ok (.aload i, 2)) (hn : pc + 2 = pc') (kk : G p l e R s m args below meth c Q E A nL k n ws lv pc' (.ref x :: st)) : G p l e R s m args below meth c Q E A nL k n ws lv pc (st) := by
  subst hn; intro H locs ls hP hD hS hl; exact lv_aload C.1.1 C.1.2.1 d (lv_at hl q hq) (kk H locs ls hP hD hS hl)
theorem g_istore_n (C : Cx p s m args meth c E A nL cc Ts own) {i : Fin 4} {x : Int32} {lv' lv'' : List (Nat × Value)} (ks : List Nat) (hr : (i : Nat) < nL) (hv : ((i : Nat), Value.int x) :: lv.filter (fun q => !(q.1 == (i : Nat)) && !(q.1 + 1 == (i : Nat) && q.2.category == 2)) = lv'') (hp : lv_pick lv'' ks = lv') (d : decode cc pc = .ok (.istore_n i, 1)) (hn : pc + 1 = pc') (kk : G p l e R s m args below meth c Q E A nL k n ws lv' pc' st) : G p l e R s m args below meth c Q E A nL k n ws lv pc (.int x :: st) := by
  subst hn; intro H locs ls hP hD hS hl; exact lv_istore_n C.1.1 C.1.2.1 d rfl hl hr hv (fun ls' hl' => kk H locs ls' hP hD hS (lv_sub hl' ks hp))
theorem g_istore (C : Cx p s m args meth c E A nL cc Ts own) {i : Nat} {x : Int32} {lv' lv'' : List (Nat × Value)} (ks : List Nat) (hr : i < nL) (hv : (i, Value.int x) :: lv.filter (fun q => !(q.1 == i) && !(q.1 + 1 == i && q.2.category == 2)) = lv'') (hp : lv_pick lv'' ks = lv') (d : decode cc pc = .ok (.istore i, 2)) (hn : pc + 2 = pc') (kk : G p l e R s m args below meth c Q E A nL k n ws lv' pc' st) : G p l e R s m args below meth c Q E A nL k n ws lv pc (.int x :: st) := by
  subst hn; intro H locs ls hP hD hS hl; exact lv_istore C.1.1 C.1.2.1 d hl hr hv (fun ls' hl' => kk H locs ls' hP hD hS (lv_sub hl' ks hp))
theorem g_lstore_n (C : Cx p s m args meth c E A nL cc Ts own) {i : Fin 4} {x : Int64} {lv' lv'' : List (Nat × Value)} (ks : List Nat) (hr : (i : Nat) + 1 < nL) (hv : ((i : Nat), Value.long x) :: lv.filter (fun q => !(q.1 == (i : Nat)) && (!(q.1 == (i : Nat) + 1) && !(q.1 + 1 == (i : Nat) && q.2.category == 2))) = lv'') (hp : lv_pick lv'' ks = lv') (d : decode cc pc = .ok (.lstore_n i, 1)) (hn : pc + 1 = pc') (kk : G p l e R s m args below meth c Q E A nL k n ws lv' pc' st) : G p l e R s m args below meth c Q E A nL k n ws lv pc (.long x :: st) := by
  subst hn; intro H locs ls hP hD hS hl; exact lv_lstore_n C.1.1 C.1.2.1 d rfl hl hr hv (fun ls' hl' => kk H locs ls' hP hD hS (lv_sub hl' ks hp))
theorem g_lstore (C : Cx p s m args meth c E A nL cc Ts own) {i : Nat} {x : Int64} {lv' lv'' : List (Nat × Value)} (ks : List Nat) (hr : i + 1 < nL) (hv : (i, Value.long x) :: lv.filter (fun q => !(q.1 == i) && (!(q.1 == i + 1) && !(q.1 + 1 == i && q.2.category == 2))) = lv'') (hp : lv_pick lv'' ks = lv') (d : decode cc pc = .ok (.lstore i, 2)) (hn : pc + 2 = pc') (kk : G p l e R s m args below meth c Q E A nL k n ws lv' pc' st) : G p l e R s m args below meth c Q E A nL k n ws lv pc (.long x :: st) := by
  subst hn; intro H locs ls hP hD hS hl; exact lv_lstore C.1.1 C.1.2.1 d hl hr hv (fun ls' hl' => kk H locs ls' hP hD hS (lv_sub hl' ks hp))
theorem g_astore_n (C : Cx p s m args meth c E A nL cc Ts own) {i : Fin 4} {x : Nat} {lv' lv'' : List (Nat × Value)} (ks : List Nat) (hr : (i : Nat) < nL) (hv : ((i : Nat), Value.ref x) :: lv.filter (fun q => !(q.1 == (i : Nat)) && !(q.1 + 1 == (i : Nat) && q.2.category == 2)) = lv'') (hp : lv_pick lv'' ks = lv') (d : decode cc pc = .ok (.astore_n i, 1)) (hn : pc + 1 = pc') (kk : G p l e R s m args below meth c Q E A nL k n ws lv' pc' st) : G p l e R s m args below meth c Q E A nL k n ws lv pc (.ref x :: st) := by
  subst hn; intro H locs ls hP hD hS hl; exact lv_astore_n C.1.1 C.1.2.1 d rfl hl hr hv (fun ls' hl' => kk H locs ls' hP hD hS (lv_sub hl' ks hp))
theorem g_astore (C : Cx p s m args meth c E A nL cc Ts own) {i : Nat} {x : Nat} {lv' lv'' : List (Nat × Value)} (ks : List Nat) (hr : i < nL) (hv : (i, Value.ref x) :: lv.filter (fun q => !(q.1 == i) && !(q.1 + 1 == i && q.2.category == 2)) = lv'') (hp : lv_pick lv'' ks = lv') (d : decode cc pc = .ok (.astore i, 2)) (hn : pc + 2 = pc') (kk : G p l e R s m args below meth c Q E A nL k n ws lv' pc' st) : G p l e R s m args below meth c Q E A nL k n ws lv pc (.ref x :: st) := by
  subst hn; intro H locs ls hP hD hS hl; exact lv_astore C.1.1 C.1.2.1 d hl hr hv (fun ls' hl' => kk H locs ls' hP hD hS (lv_sub hl' ks hp))
theorem g_iinc (C : Cx p s m args meth c E A nL cc Ts own) {i : Nat} {z a r : Int} {lv' lv'' : List (Nat × Value)} (q : Nat) (ks : List Nat) (hq : lv[q]? = some (i, .int (I32 a))) (he : a + z = r) (hr : i < nL) (hv : (i, Value.int (I32 r)) :: lv.filter (fun q => !(q.1 == i) && !(q.1 + 1 == i && q.2.category == 2)) = lv'') (hp : lv_pick lv'' ks = lv') (d : decode cc pc = .ok (.iinc i z, 3)) (hn : pc + 3 = pc') (kk : G p l e R s m args below meth c Q E A nL k n ws lv' pc' st) : G p l e R s m args below meth c Q E A nL k n ws lv pc st := by
  subst hn; subst he; intro H locs ls hP hD hS hl; exact lv_iinc C.1.1 C.1.2.1 d hl hq (Int32.ofInt_add a z).symm hr hv (fun ls' hl' => kk H locs ls' hP hD hS (lv_sub hl' ks hp))
theorem g_iadd (C : Cx p s m args meth c E A nL cc Ts own) {a b r : Int}  (hr : a + b = r) (d : decode cc pc = .ok (.iadd, 1)) (hn : pc + 1 = pc') (kk : G p l e R s m args below meth c Q E A nL k n ws lv pc' (.int (I32 r) :: st)) : G p l e R s m args below meth c Q E A nL k n ws lv pc (.int (I32 b) :: .int (I32 a) :: st) := by
  subst hn; subst hr; intro H locs ls hP hD hS hl
  have kk := kk H locs ls hP hD hS hl
  rw [show I32 (a + b) = I32 a + I32 b from Int32.ofInt_add a b] at kk
  exact lv_iadd C.1.1 C.1.2.1 d  kk
theorem g_isub (C : Cx p s m args meth c E A nL cc Ts own) {a b r : Int}  (hr : a - b = r) (d : decode cc pc = .ok (.isub, 1)) (hn : pc + 1 = pc') (kk : G p l e R s m args below meth c Q E A nL k n ws lv pc' (.int (I32 r) :: st)) : G p l e R s m args below meth c Q E A nL k n ws lv pc (.int (I32 b) :: .int (I32 a) :: st) := by
  subst hn; subst hr; intro H locs ls hP hD hS hl
  have kk := kk H locs ls hP hD hS hl
  rw [show I32 (a - b) = I32 a - I32 b from Int32.ofInt_sub a b] at kk
  exact lv_isub C.1.1 C.1.2.1 d  kk
theorem g_imul (C : Cx p s m args meth c E A nL cc Ts own) {a b r : Int}  (hr : a * b = r) (d : decode cc pc = .ok (.imul, 1)) (hn : pc + 1 = pc') (kk : G p l e R s m args below meth c Q E A nL k n ws lv pc' (.int (I32 r) :: st)) : G p l e R s m args below meth c Q E A nL k n ws lv pc (.int (I32 b) :: .int (I32 a) :: st) := by
  subst hn; subst hr; intro H locs ls hP hD hS hl
  have kk := kk H locs ls hP hD hS hl
  rw [show I32 (a * b) = I32 a * I32 b from Int32.ofInt_mul a b] at kk
  exact lv_imul C.1.1 C.1.2.1 d  kk
theorem g_idiv (C : Cx p s m args meth c E A nL cc Ts own) {a b r : Int} (ha : bi a) (hb : bi b) (h0 : b ≠ 0) (h1 : b ≠ -1) (hr : a.tdiv b = r) (d : decode cc pc = .ok (.idiv, 1)) (hn : pc + 1 = pc') (kk : G p l e R s m args below meth c Q E A nL k n ws lv pc' (.int (I32 r) :: st)) : G p l e R s m args below meth c Q E A nL k n ws lv pc (.int (I32 b) :: .int (I32 a) :: st) := by
  subst hn; subst hr; intro H locs ls hP hD hS hl
  have kk := kk H locs ls hP hD hS hl
  rw [← i_div ha hb (Or.inl h1)] at kk
  exact lv_idiv C.1.1 C.1.2.1 d (i_ne0 hb h0) kk
theorem g_irem (C : Cx p s m args meth c E A nL cc Ts own) {a b r : Int} (ha : bi a) (hb : bi b) (h0 : b ≠ 0) (hr : a.tmod b = r) (d : decode cc pc = .ok (.irem, 1)) (hn : pc + 1 = pc') (kk : G p l e R s m args below meth c Q E A nL k n ws lv pc' (.int (I32 r) :: st)) : G p l e R s m args below meth c Q E A nL k n ws lv pc (.int (I32 b) :: .int (I32 a) :: st) := by
  subst hn; subst hr; intro H locs ls hP hD hS hl
  have kk := kk H locs ls hP hD hS hl
  rw [← i_mod ha hb] at kk
  exact lv_irem C.1.1 C.1.2.1 d (i_ne0 hb h0) kk
theorem g_ladd (C : Cx p s m args meth c E A nL cc Ts own) {a b r : Int}  (hr : a + b = r) (d : decode cc pc = .ok (.ladd, 1)) (hn : pc + 1 = pc') (kk : G p l e R s m args below meth c Q E A nL k n ws lv pc' (.long (I64 r) :: st)) : G p l e R s m args below meth c Q E A nL k n ws lv pc (.long (I64 b) :: .long (I64 a) :: st) := by
  subst hn; subst hr; intro H locs ls hP hD hS hl
  have kk := kk H locs ls hP hD hS hl
  rw [show I64 (a + b) = I64 a + I64 b from Int64.ofInt_add a b] at kk
  exact lv_ladd C.1.1 C.1.2.1 d  kk
theorem g_lsub (C : Cx p s m args meth c E A nL cc Ts own) {a b r : Int}  (hr : a - b = r) (d : decode cc pc = .ok (.lsub, 1)) (hn : pc + 1 = pc') (kk : G p l e R s m args below meth c Q E A nL k n ws lv pc' (.long (I64 r) :: st)) : G p l e R s m args below meth c Q E A nL k n ws lv pc (.long (I64 b) :: .long (I64 a) :: st) := by
  subst hn; subst hr; intro H locs ls hP hD hS hl
  have kk := kk H locs ls hP hD hS hl
  rw [show I64 (a - b) = I64 a - I64 b from Int64.ofInt_sub a b] at kk
  exact lv_lsub C.1.1 C.1.2.1 d  kk
theorem g_lmul (C : Cx p s m args meth c E A nL cc Ts own) {a b r : Int}  (hr : a * b = r) (d : decode cc pc = .ok (.lmul, 1)) (hn : pc + 1 = pc') (kk : G p l e R s m args below meth c Q E A nL k n ws lv pc' (.long (I64 r) :: st)) : G p l e R s m args below meth c Q E A nL k n ws lv pc (.long (I64 b) :: .long (I64 a) :: st) := by
  subst hn; subst hr; intro H locs ls hP hD hS hl
  have kk := kk H locs ls hP hD hS hl
  rw [show I64 (a * b) = I64 a * I64 b from Int64.ofInt_mul a b] at kk
  exact lv_lmul C.1.1 C.1.2.1 d  kk
theorem g_ldiv (C : Cx p s m args meth c E A nL cc Ts own) {a b r : Int} (ha : bl a) (hb : bl b) (h0 : b ≠ 0) (hr : a.tdiv b = r) (d : decode cc pc = .ok (.ldiv, 1)) (hn : pc + 1 = pc') (kk : G p l e R s m args below meth c Q E A nL k n ws lv pc' (.long (I64 r) :: st)) : G p l e R s m args below meth c Q E A nL k n ws lv pc (.long (I64 b) :: .long (I64 a) :: st) := by
  subst hn; subst hr; intro H locs ls hP hD hS hl
  have kk := kk H locs ls hP hD hS hl
  rw [← l_div ha hb] at kk
  exact lv_ldiv C.1.1 C.1.2.1 d (l_ne0 hb h0) kk
theorem g_lrem (C : Cx p s m args meth c E A nL cc Ts own) {a b r : Int} (ha : bl a) (hb : bl b) (h0 : b ≠ 0) (hr : a.tmod b = r) (d : decode cc pc = .ok (.lrem, 1)) (hn : pc + 1 = pc') (kk : G p l e R s m args below meth c Q E A nL k n ws lv pc' (.long (I64 r) :: st)) : G p l e R s m args below meth c Q E A nL k n ws lv pc (.long (I64 b) :: .long (I64 a) :: st) := by
  subst hn; subst hr; intro H locs ls hP hD hS hl
  have kk := kk H locs ls hP hD hS hl
  rw [← l_mod ha hb] at kk
  exact lv_lrem C.1.1 C.1.2.1 d (l_ne0 hb h0) kk
theorem g_ineg (C : Cx p s m args meth c E A nL cc Ts own) {a r : Int}  (hr : -a = r) (d : decode cc pc = .ok (.ineg, 1)) (hn : pc + 1 = pc') (kk : G p l e R s m args below meth c Q E A nL k n ws lv pc' (.int (I32 r) :: st)) : G p l e R s m args below meth c Q E A nL k n ws lv pc (.int (I32 a) :: st) := by
  subst hn; subst hr; intro H locs ls hP hD hS hl
  have kk := kk H locs ls hP hD hS hl
  rw [show I32 (-a) = -I32 a from Int32.ofInt_neg a] at kk
  exact lv_ineg C.1.1 C.1.2.1 d  kk
theorem g_lneg (C : Cx p s m args meth c E A nL cc Ts own) {a r : Int}  (hr : -a = r) (d : decode cc pc = .ok (.lneg, 1)) (hn : pc + 1 = pc') (kk : G p l e R s m args below meth c Q E A nL k n ws lv pc' (.long (I64 r) :: st)) : G p l e R s m args below meth c Q E A nL k n ws lv pc (.long (I64 a) :: st) := by
  subst hn; subst hr; intro H locs ls hP hD hS hl
  have kk := kk H locs ls hP hD hS hl
  rw [show I64 (-a) = -I64 a from Int64.ofInt_neg a] at kk
  exact lv_lneg C.1.1 C.1.2.1 d  kk
theorem g_i2l (C : Cx p s m args meth c E A nL cc Ts own) {a r : Int} (ha : bi a) (hr : a = r) (d : decode cc pc = .ok (.i2l, 1)) (hn : pc + 1 = pc') (kk : G p l e R s m args below meth c Q E A nL k n ws lv pc' (.long (I64 r) :: st)) : G p l e R s m args below meth c Q E A nL k n ws lv pc (.int (I32 a) :: st) := by
  subst hn; subst hr; intro H locs ls hP hD hS hl
  have kk := kk H locs ls hP hD hS hl
  skip
  exact lv_i2l C.1.1 C.1.2.1 d (i_2l ha) kk
theorem g_l2i (C : Cx p s m args meth c E A nL cc Ts own) {a r : Int}  (hr : a = r) (d : decode cc pc = .ok (.l2i, 1)) (hn : pc + 1 = pc') (kk : G p l e R s m args below meth c Q E A nL k n ws lv pc' (.int (I32 r) :: st)) : G p l e R s m args below meth c Q E A nL k n ws lv pc (.long (I64 a) :: st) := by
  subst hn; subst hr; intro H locs ls hP hD hS hl
  have kk := kk H locs ls hP hD hS hl
  skip
  exact lv_l2i C.1.1 C.1.2.1 d l_2i kk
theorem g_ixor (C : Cx p s m args meth c E A nL cc Ts own) {x y z : Int32} (hr : x ^^^ y = z) (d : decode cc pc = .ok (.ixor, 1)) (hn : pc + 1 = pc') (kk : G p l e R s m args below meth c Q E A nL k n ws lv pc' (.int z :: st)) : G p l e R s m args below meth c Q E A nL k n ws lv pc (.int y :: .int x :: st) := by
  subst hn; subst hr; intro H locs ls hP hD hS hl; exact lv_ixor C.1.1 C.1.2.1 d (kk H locs ls hP hD hS hl)
theorem g_iand (C : Cx p s m args meth c E A nL cc Ts own) {x y z : Int32} (hr : x &&& y = z) (d : decode cc pc = .ok (.iand, 1)) (hn : pc + 1 = pc') (kk : G p l e R s m args below meth c Q E A nL k n ws lv pc' (.int z :: st)) : G p l e R s m args below meth c Q E A nL k n ws lv pc (.int y :: .int x :: st) := by
  subst hn; subst hr; intro H locs ls hP hD hS hl; exact lv_iand C.1.1 C.1.2.1 d (kk H locs ls hP hD hS hl)
theorem g_ior (C : Cx p s m args meth c E A nL cc Ts own) {x y z : Int32} (hr : x ||| y = z) (d : decode cc pc = .ok (.ior, 1)) (hn : pc + 1 = pc') (kk : G p l e R s m args below meth c Q E A nL k n ws lv pc' (.int z :: st)) : G p l e R s m args below meth c Q E A nL k n ws lv pc (.int y :: .int x :: st) := by
  subst hn; subst hr; intro H locs ls hP hD hS hl; exact lv_ior C.1.1 C.1.2.1 d (kk H locs ls hP hD hS hl)
theorem g_ishl (C : Cx p s m args meth c E A nL cc Ts own) {x y z : Int32} (hr : x <<< (y &&& 31) = z) (d : decode cc pc = .ok (.ishl, 1)) (hn : pc + 1 = pc') (kk : G p l e R s m args below meth c Q E A nL k n ws lv pc' (.int z :: st)) : G p l e R s m args below meth c Q E A nL k n ws lv pc (.int y :: .int x :: st) := by
  subst hn; subst hr; intro H locs ls hP hD hS hl; exact lv_ishl C.1.1 C.1.2.1 d (kk H locs ls hP hD hS hl)
theorem g_ishr (C : Cx p s m args meth c E A nL cc Ts own) {x y z : Int32} (hr : x >>> (y &&& 31) = z) (d : decode cc pc = .ok (.ishr, 1)) (hn : pc + 1 = pc') (kk : G p l e R s m args below meth c Q E A nL k n ws lv pc' (.int z :: st)) : G p l e R s m args below meth c Q E A nL k n ws lv pc (.int y :: .int x :: st) := by
  subst hn; subst hr; intro H locs ls hP hD hS hl; exact lv_ishr C.1.1 C.1.2.1 d (kk H locs ls hP hD hS hl)
theorem g_land (C : Cx p s m args meth c E A nL cc Ts own) {x y z : Int64} (hr : x &&& y = z) (d : decode cc pc = .ok (.land, 1)) (hn : pc + 1 = pc') (kk : G p l e R s m args below meth c Q E A nL k n ws lv pc' (.long z :: st)) : G p l e R s m args below meth c Q E A nL k n ws lv pc (.long y :: .long x :: st) := by
  subst hn; subst hr; intro H locs ls hP hD hS hl; exact lv_land C.1.1 C.1.2.1 d (kk H locs ls hP hD hS hl)
theorem g_lshr (C : Cx p s m args meth c E A nL cc Ts own) {x z : Int64} {y : Int32} (hr : x >>> (y.toInt64 &&& 63) = z) (d : decode cc pc = .ok (.lshr, 1)) (hn : pc + 1 = pc') (kk : G p l e R s m args below meth c Q E A nL k n ws lv pc' (.long z :: st)) : G p l e R s m args below meth c Q E A nL k n ws lv pc (.int y :: .long x :: st) := by
  subst hn; intro H locs ls hP hD hS hl; exact lv_lshr C.1.1 C.1.2.1 d hr (kk H locs ls hP hD hS hl)
theorem g_i2c (C : Cx p s m args meth c E A nL cc Ts own) {x z : Int32} (hr : (x.toUInt32 % 65536).toInt32 = z) (d : decode cc pc = .ok (.i2c, 1)) (hn : pc + 1 = pc') (kk : G p l e R s m args below meth c Q E A nL k n ws lv pc' (.int z :: st)) : G p l e R s m args below meth c Q E A nL k n ws lv pc (.int x :: st) := by
  subst hn; intro H locs ls hP hD hS hl; exact lv_i2c C.1.1 C.1.2.1 d hr (kk H locs ls hP hD hS hl)
theorem g_i2b (C : Cx p s m args meth c E A nL cc Ts own) {x z : Int32} (hr : x.toInt8.toInt32 = z) (d : decode cc pc = .ok (.i2b, 1)) (hn : pc + 1 = pc') (kk : G p l e R s m args below meth c Q E A nL k n ws lv pc' (.int z :: st)) : G p l e R s m args below meth c Q E A nL k n ws lv pc (.int x :: st) := by
  subst hn; intro H locs ls hP hD hS hl; exact lv_i2b C.1.1 C.1.2.1 d hr (kk H locs ls hP hD hS hl)
theorem g_dup (C : Cx p s m args meth c E A nL cc Ts own) {v : Value} (hc : v.category = 1) (d : decode cc pc = .ok (.dup, 1)) (hn : pc + 1 = pc') (kk : G p l e R s m args below meth c Q E A nL k n ws lv pc' (v :: v :: st)) : G p l e R s m args below meth c Q E A nL k n ws lv pc (v :: st) := by
  subst hn; intro H locs ls hP hD hS hl; exact lv_dup C.1.1 C.1.2.1 d hc (kk H locs ls hP hD hS hl)
theorem g_dupx1 (C : Cx p s m args meth c E A nL cc Ts own) {v u : Value} (hc : v.category = 1) (hu : u.category = 1) (d : decode cc pc = .ok (.dup_x1, 1)) (hn : pc + 1 = pc') (kk : G p l e R s m args below meth c Q E A nL k n ws lv pc' (v :: u :: v :: st)) : G p l e R s m args below meth c Q E A nL k n ws lv pc (v :: u :: st) := by
  subst hn; intro H locs ls hP hD hS hl; exact lv_dup_x1 C.1.1 C.1.2.1 d hc hu (kk H locs ls hP hD hS hl)
theorem g_dup2 (C : Cx p s m args meth c E A nL cc Ts own) {v u : Value} (hc : v.category = 1) (hu : u.category = 1) (d : decode cc pc = .ok (.dup2, 1)) (hn : pc + 1 = pc') (kk : G p l e R s m args below meth c Q E A nL k n ws lv pc' (v :: u :: v :: u :: st)) : G p l e R s m args below meth c Q E A nL k n ws lv pc (v :: u :: st) := by
  subst hn; intro H locs ls hP hD hS hl; exact lv_dup2_11 C.1.1 C.1.2.1 d hc hu (kk H locs ls hP hD hS hl)
theorem g_pop (C : Cx p s m args meth c E A nL cc Ts own) {v : Value} (hc : v.category = 1) (d : decode cc pc = .ok (.pop, 1)) (hn : pc + 1 = pc') (kk : G p l e R s m args below meth c Q E A nL k n ws lv pc' st) : G p l e R s m args below meth c Q E A nL k n ws lv pc (v :: st) := by
  subst hn; intro H locs ls hP hD hS hl; exact lv_pop C.1.1 C.1.2.1 d hc (kk H locs ls hP hD hS hl)
theorem g_goto (C : Cx p s m args meth c E A nL cc Ts own) {off : Int} (d : decode cc pc = .ok (.goto off, 3)) (ht : (pc : Int) + off = (pc' : Int)) (kk : G p l e R s m args below meth c Q E A nL k n ws lv pc' st) : G p l e R s m args below meth c Q E A nL k n ws lv pc st := by
  intro H locs ls hP hD hS hl; exact lv_goto C.1.1 C.1.2.1 d ht (kk H locs ls hP hD hS hl)
theorem g_icmp_eq (C : Cx p s m args meth c E A nL cc Ts own) {a b : Int} {off : Int} {tgt : Nat} (ha : bi a) (hb : bi b) (d : decode cc pc = .ok (.if_icmp .eq off, 3)) (ht : (pc : Int) + off = (tgt : Int)) (hn : pc + 3 = pc') (kt : a = b → G p l e R s m args below meth c Q E A nL k n ws lv tgt st) (kf : ¬ a = b → G p l e R s m args below meth c Q E A nL k n ws lv pc' st) : G p l e R s m args below meth c Q E A nL k n ws lv pc (.int (I32 b) :: .int (I32 a) :: st) := by
  subst hn; intro H locs ls hP hD hS hl; exact lv_icmp_eq C.1.1 C.1.2.1 d ht (fun h => kt ((i_eq ha hb).mp h) H locs ls hP hD hS hl) (fun h => kf (fun q => h ((i_eq ha hb).mpr q)) H locs ls hP hD hS hl)
theorem g_if_eq (C : Cx p s m args meth c E A nL cc Ts own) {a : Int} {off : Int} {tgt : Nat} (ha : bi a) (d : decode cc pc = .ok (.ifCond .eq off, 3)) (ht : (pc : Int) + off = (tgt : Int)) (hn : pc + 3 = pc') (kt : a = 0 → G p l e R s m args below meth c Q E A nL k n ws lv tgt st) (kf : ¬ a = 0 → G p l e R s m args below meth c Q E A nL k n ws lv pc' st) : G p l e R s m args below meth c Q E A nL k n ws lv pc (.int (I32 a) :: st) := by
  subst hn; intro H locs ls hP hD hS hl; exact lv_if_eq C.1.1 C.1.2.1 d ht (fun h => kt ((i_eq ha b0).mp h) H locs ls hP hD hS hl) (fun h => kf (fun q => h ((i_eq ha b0).mpr q)) H locs ls hP hD hS hl)
theorem g_lcmp_eq (C : Cx p s m args meth c E A nL cc Ts own) {a b : Int} {off : Int} {tgt pc1 : Nat} (ha : bl a) (hb : bl b) (d1 : decode cc pc = .ok (.lcmp, 1)) (h1 : pc + 1 = pc1) (d : decode cc pc1 = .ok (.ifCond .eq off, 3)) (ht : (pc1 : Int) + off = (tgt : Int)) (hn : pc1 + 3 = pc') (kt : a = b → G p l e R s m args below meth c Q E A nL k n ws lv tgt st) (kf : ¬ a = b → G p l e R s m args below meth c Q E A nL k n ws lv pc' st) : G p l e R s m args below meth c Q E A nL k n ws lv pc (.long (I64 b) :: .long (I64 a) :: st) := by
  subst hn; subst h1; intro H locs ls hP hD hS hl
  refine W.lcmp C.1.1 C.1.2.1 d1 ?_
  refine lv_if_eq C.1.1 C.1.2.1 d ht (fun h => kt ?_ H locs ls hP hD hS hl) (fun h => kf ?_ H locs ls hP hD hS hl) <;>
  · unfold lg_cmp at h
    have e1 := l_lt ha hb
    have e2 := l_lt hb ha
    have e3 := l_eq ha hb
    have e4 := l_le ha hb
    have e5 := l_le hb ha
    rcases Int.lt_trichotomy a b with q | q | q
    · rw [if_neg (show ¬ I64 a > I64 b from fun z => by have := e2.mp z; omega), if_neg (fun z => by have := e3.mp z; omega)] at h
      first | omega | exact absurd h (by decide) | (exact absurd (by decide) h)
    · rw [if_neg (show ¬ I64 a > I64 b from fun z => by have := e2.mp z; omega), if_pos (e3.mpr q)] at h
      first | omega | exact absurd h (by decide) | (exact absurd (by decide) h)
    · rw [if_pos (show I64 a > I64 b from e2.mpr q)] at h
      first | omega | exact absurd h (by decide) | (exact absurd (by decide) h)
theorem g_icmp_ne (C : Cx p s m args meth c E A nL cc Ts own) {a b : Int} {off : Int} {tgt : Nat} (ha : bi a) (hb : bi b) (d : decode cc pc = .ok (.if_icmp .ne off, 3)) (ht : (pc : Int) + off = (tgt : Int)) (hn : pc + 3 = pc') (kt : ¬ a = b → G p l e R s m args below meth c Q E A nL k n ws lv tgt st) (kf : a = b → G p l e R s m args below meth c Q E A nL k n ws lv pc' st) : G p l e R s m args below meth c Q E A nL k n ws lv pc (.int (I32 b) :: .int (I32 a) :: st) := by
  subst hn; intro H locs ls hP hD hS hl; exact lv_icmp_ne C.1.1 C.1.2.1 d ht (fun h => kt (fun q => h ((i_eq ha hb).mpr q)) H locs ls hP hD hS hl) (fun h => kf ((i_eq ha hb).mp h) H locs ls hP hD hS hl)
theorem g_if_ne (C : Cx p s m args meth c E A nL cc Ts own) {a : Int} {off : Int} {tgt : Nat} (ha : bi a) (d : decode cc pc = .ok (.ifCond .ne off, 3)) (ht : (pc : Int) + off = (tgt : Int)) (hn : pc + 3 = pc') (kt : ¬ a = 0 → G p l e R s m args below meth c Q E A nL k n ws lv tgt st) (kf : a = 0 → G p l e R s m args below meth c Q E A nL k n ws lv pc' st) : G p l e R s m args below meth c Q E A nL k n ws lv pc (.int (I32 a) :: st) := by
  subst hn; intro H locs ls hP hD hS hl; exact lv_if_ne C.1.1 C.1.2.1 d ht (fun h => kt (fun q => h ((i_eq ha b0).mpr q)) H locs ls hP hD hS hl) (fun h => kf ((i_eq ha b0).mp h) H locs ls hP hD hS hl)
theorem g_lcmp_ne (C : Cx p s m args meth c E A nL cc Ts own) {a b : Int} {off : Int} {tgt pc1 : Nat} (ha : bl a) (hb : bl b) (d1 : decode cc pc = .ok (.lcmp, 1)) (h1 : pc + 1 = pc1) (d : decode cc pc1 = .ok (.ifCond .ne off, 3)) (ht : (pc1 : Int) + off = (tgt : Int)) (hn : pc1 + 3 = pc') (kt : ¬ a = b → G p l e R s m args below meth c Q E A nL k n ws lv tgt st) (kf : a = b → G p l e R s m args below meth c Q E A nL k n ws lv pc' st) : G p l e R s m args below meth c Q E A nL k n ws lv pc (.long (I64 b) :: .long (I64 a) :: st) := by
  subst hn; subst h1; intro H locs ls hP hD hS hl
  refine W.lcmp C.1.1 C.1.2.1 d1 ?_
  refine lv_if_ne C.1.1 C.1.2.1 d ht (fun h => kt ?_ H locs ls hP hD hS hl) (fun h => kf ?_ H locs ls hP hD hS hl) <;>
  · unfold lg_cmp at h
    have e1 := l_lt ha hb
    have e2 := l_lt hb ha
    have e3 := l_eq ha hb
    have e4 := l_le ha hb
    have e5 := l_le hb ha
    rcases Int.lt_trichotomy a b with q | q | q
    · rw [if_neg (show ¬ I64 a > I64 b from fun z => by have := e2.mp z; omega), if_neg (fun z => by have := e3.mp z; omega)] at h
      first | omega | exact absurd h (by decide) | (exact absurd (by decide) h)
    · rw [if_neg (show ¬ I64 a > I64 b from fun z => by have := e2.mp z; omega), if_pos (e3.mpr q)] at h
      first | omega | exact absurd h (by decide) | (exact absurd (by decide) h)
    · rw [if_pos (show I64 a > I64 b from e2.mpr q)] at h
      first | omega | exact absurd h (by decide) | (exact absurd (by decide) h)
theorem g_icmp_lt (C : Cx p s m args meth c E A nL cc Ts own) {a b : Int} {off : Int} {tgt : Nat} (ha : bi a) (hb : bi b) (d : decode cc pc = .ok (.if_icmp .lt off, 3)) (ht : (pc : Int) + off = (tgt : Int)) (hn : pc + 3 = pc') (kt : a < b → G p l e R s m args below meth c Q E A nL k n ws lv tgt st) (kf : ¬ a < b → G p l e R s m args below meth c Q E A nL k n ws lv pc' st) : G p l e R s m args below meth c Q E A nL k n ws lv pc (.int (I32 b) :: .int (I32 a) :: st) := by
  subst hn; intro H locs ls hP hD hS hl; exact lv_icmp_lt C.1.1 C.1.2.1 d ht (fun h => kt ((i_lt ha hb).mp h) H locs ls hP hD hS hl) (fun h => kf (fun q => h ((i_lt ha hb).mpr q)) H locs ls hP hD hS hl)
theorem g_if_lt (C : Cx p s m args meth c E A nL cc Ts own) {a : Int} {off : Int} {tgt : Nat} (ha : bi a) (d : decode cc pc = .ok (.ifCond .lt off, 3)) (ht : (pc : Int) + off = (tgt : Int)) (hn : pc + 3 = pc') (kt : a < 0 → G p l e R s m args below meth c Q E A nL k n ws lv tgt st) (kf : ¬ a < 0 → G p l e R s m args below meth c Q E A nL k n ws lv pc' st) : G p l e R s m args below meth c Q E A nL k n ws lv pc (.int (I32 a) :: st) := by
  subst hn; intro H locs ls hP hD hS hl; exact lv_if_lt C.1.1 C.1.2.1 d ht (fun h => kt ((i_lt ha b0).mp h) H locs ls hP hD hS hl) (fun h => kf (fun q => h ((i_lt ha b0).mpr q)) H locs ls hP hD hS hl)
theorem g_lcmp_lt (C : Cx p s m args meth c E A nL cc Ts own) {a b : Int} {off : Int} {tgt pc1 : Nat} (ha : bl a) (hb : bl b) (d1 : decode cc pc = .ok (.lcmp, 1)) (h1 : pc + 1 = pc1) (d : decode cc pc1 = .ok (.ifCond .lt off, 3)) (ht : (pc1 : Int) + off = (tgt : Int)) (hn : pc1 + 3 = pc') (kt : a < b → G p l e R s m args below meth c Q E A nL k n ws lv tgt st) (kf : ¬ a < b → G p l e R s m args below meth c Q E A nL k n ws lv pc' st) : G p l e R s m args below meth c Q E A nL k n ws lv pc (.long (I64 b) :: .long (I64 a) :: st) := by
  subst hn; subst h1; intro H locs ls hP hD hS hl
  refine W.lcmp C.1.1 C.1.2.1 d1 ?_
  refine lv_if_lt C.1.1 C.1.2.1 d ht (fun h => kt ?_ H locs ls hP hD hS hl) (fun h => kf ?_ H locs ls hP hD hS hl) <;>
  · unfold lg_cmp at h
    have e1 := l_lt ha hb
    have e2 := l_lt hb ha
    have e3 := l_eq ha hb
    have e4 := l_le ha hb
    have e5 := l_le hb ha
    rcases Int.lt_trichotomy a b with q | q | q
    · rw [if_neg (show ¬ I64 a > I64 b from fun z => by have := e2.mp z; omega), if_neg (fun z => by have := e3.mp z; omega)] at h
      first | omega | exact absurd h (by decide) | (exact absurd (by decide) h)
    · rw [if_neg (show ¬ I64 a > I64 b from fun z => by have := e2.mp z; omega), if_pos (e3.mpr q)] at h
      first | omega | exact absurd h (by decide) | (exact absurd (by decide) h)
    · rw [if_pos (show I64 a > I64 b from e2.mpr q)] at h
      first | omega | exact absurd h (by decide) | (exact absurd (by decide) h)
theorem g_icmp_ge (C : Cx p s m args meth c E A nL cc Ts own) {a b : Int} {off : Int} {tgt : Nat} (ha : bi a) (hb : bi b) (d : decode cc pc = .ok (.if_icmp .ge off, 3)) (ht : (pc : Int) + off = (tgt : Int)) (hn : pc + 3 = pc') (kt : b ≤ a → G p l e R s m args below meth c Q E A nL k n ws lv tgt st) (kf : ¬ b ≤ a → G p l e R s m args below meth c Q E A nL k n ws lv pc' st) : G p l e R s m args below meth c Q E A nL k n ws lv pc (.int (I32 b) :: .int (I32 a) :: st) := by
  subst hn; intro H locs ls hP hD hS hl; exact lv_icmp_ge C.1.1 C.1.2.1 d ht (fun h => kt ((i_le hb ha).mp h) H locs ls hP hD hS hl) (fun h => kf (fun q => h ((i_le hb ha).mpr q)) H locs ls hP hD hS hl)
theorem g_if_ge (C : Cx p s m args meth c E A nL cc Ts own) {a : Int} {off : Int} {tgt : Nat} (ha : bi a) (d : decode cc pc = .ok (.ifCond .ge off, 3)) (ht : (pc : Int) + off = (tgt : Int)) (hn : pc + 3 = pc') (kt : 0 ≤ a → G p l e R s m args below meth c Q E A nL k n ws lv tgt st) (kf : ¬ 0 ≤ a → G p l e R s m args below meth c Q E A nL k n ws lv pc' st) : G p l e R s m args below meth c Q E A nL k n ws lv pc (.int (I32 a) :: st) := by
  subst hn; intro H locs ls hP hD hS hl; exact lv_if_ge C.1.1 C.1.2.1 d ht (fun h => kt ((i_le b0 ha).mp h) H locs ls hP hD hS hl) (fun h => kf (fun q => h ((i_le b0 ha).mpr q)) H locs ls hP hD hS hl)
theorem g_lcmp_ge (C : Cx p s m args meth c E A nL cc Ts own) {a b : Int} {off : Int} {tgt pc1 : Nat} (ha : bl a) (hb : bl b) (d1 : decode cc pc = .ok (.lcmp, 1)) (h1 : pc + 1 = pc1) (d : decode cc pc1 = .ok (.ifCond .ge off, 3)) (ht : (pc1 : Int) + off = (tgt : Int)) (hn : pc1 + 3 = pc') (kt : b ≤ a → G p l e R s m args below meth c Q E A nL k n ws lv tgt st) (kf : ¬ b ≤ a → G p l e R s m args below meth c Q E A nL k n ws lv pc' st) : G p l e R s m args below meth c Q E A nL k n ws lv pc (.long (I64 b) :: .long (I64 a) :: st) := by
  subst hn; subst h1; intro H locs ls hP hD hS hl
  refine W.lcmp C.1.1 C.1.2.1 d1 ?_
  refine lv_if_ge C.1.1 C.1.2.1 d ht (fun h => kt ?_ H locs ls hP hD hS hl) (fun h => kf ?_ H locs ls hP hD hS hl) <;>
  · unfold lg_cmp at h
    have e1 := l_lt ha hb
    have e2 := l_lt hb ha
    have e3 := l_eq ha hb
    have e4 := l_le ha hb
    have e5 := l_le hb ha
    rcases Int.lt_trichotomy a b with q | q | q
    · rw [if_neg (show ¬ I64 a > I64 b from fun z => by have := e2.mp z; omega), if_neg (fun z => by have := e3.mp z; omega)] at h
      first | omega | exact absurd h (by decide) | (exact absurd (by decide) h)
    · rw [if_neg (show ¬ I64 a > I64 b from fun z => by have := e2.mp z; omega), if_pos (e3.mpr q)] at h
      first | omega | exact absurd h (by decide) | (exact absurd (by decide) h)
    · rw [if_pos (show I64 a > I64 b from e2.mpr q)] at h
      first | omega | exact absurd h (by decide) | (exact absurd (by decide) h)
theorem g_icmp_gt (C : Cx p s m args meth c E A nL cc Ts own) {a b : Int} {off : Int} {tgt : Nat} (ha : bi a) (hb : bi b) (d : decode cc pc = .ok (.if_icmp .gt off, 3)) (ht : (pc : Int) + off = (tgt : Int)) (hn : pc + 3 = pc') (kt : b < a → G p l e R s m args below meth c Q E A nL k n ws lv tgt st) (kf : ¬ b < a → G p l e R s m args below meth c Q E A nL k n ws lv pc' st) : G p l e R s m args below meth c Q E A nL k n ws lv pc (.int (I32 b) :: .int (I32 a) :: st) := by
  subst hn; intro H locs ls hP hD hS hl; exact lv_icmp_gt C.1.1 C.1.2.1 d ht (fun h => kt ((i_lt hb ha).mp h) H locs ls hP hD hS hl) (fun h => kf (fun q => h ((i_lt hb ha).mpr q)) H locs ls hP hD hS hl)
theorem g_if_gt (C : Cx p s m args meth c E A nL cc Ts own) {a : Int} {off : Int} {tgt : Nat} (ha : bi a) (d : decode cc pc = .ok (.ifCond .gt off, 3)) (ht : (pc : Int) + off = (tgt : Int)) (hn : pc + 3 = pc') (kt : 0 < a → G p l e R s m args below meth c Q E A nL k n ws lv tgt st) (kf : ¬ 0 < a → G p l e R s m args below meth c Q E A nL k n ws lv pc' st) : G p l e R s m args below meth c Q E A nL k n ws lv pc (.int (I32 a) :: st) := by
  subst hn; intro H locs ls hP hD hS hl; exact lv_if_gt C.1.1 C.1.2.1 d ht (fun h => kt ((i_lt b0 ha).mp h) H locs ls hP hD hS hl) (fun h => kf (fun q => h ((i_lt b0 ha).mpr q)) H locs ls hP hD hS hl)
theorem g_lcmp_gt (C : Cx p s m args meth c E A nL cc Ts own) {a b : Int} {off : Int} {tgt pc1 : Nat} (ha : bl a) (hb : bl b) (d1 : decode cc pc = .ok (.lcmp, 1)) (h1 : pc + 1 = pc1) (d : decode cc pc1 = .ok (.ifCond .gt off, 3)) (ht : (pc1 : Int) + off = (tgt : Int)) (hn : pc1 + 3 = pc') (kt : b < a → G p l e R s m args below meth c Q E A nL k n ws lv tgt st) (kf : ¬ b < a → G p l e R s m args below meth c Q E A nL k n ws lv pc' st) : G p l e R s m args below meth c Q E A nL k n ws lv pc (.long (I64 b) :: .long (I64 a) :: st) := by
  subst hn; subst h1; intro H locs ls hP hD hS hl
  refine W.lcmp C.1.1 C.1.2.1 d1 ?_
  refine lv_if_gt C.1.1 C.1.2.1 d ht (fun h => kt ?_ H locs ls hP hD hS hl) (fun h => kf ?_ H locs ls hP hD hS hl) <;>
  · unfold lg_cmp at h
    have e1 := l_lt ha hb
    have e2 := l_lt hb ha
    have e3 := l_eq ha hb
    have e4 := l_le ha hb
    have e5 := l_le hb ha
    rcases Int.lt_trichotomy a b with q | q | q
    · rw [if_neg (show ¬ I64 a > I64 b from fun z => by have := e2.mp z; omega), if_neg (fun z => by have := e3.mp z; omega)] at h
      first | omega | exact absurd h (by decide) | (exact absurd (by decide) h)
    · rw [if_neg (show ¬ I64 a > I64 b from fun z => by have := e2.mp z; omega), if_pos (e3.mpr q)] at h
      first | omega | exact absurd h (by decide) | (exact absurd (by decide) h)
    · rw [if_pos (show I64 a > I64 b from e2.mpr q)] at h
      first | omega | exact absurd h (by decide) | (exact absurd (by decide) h)
theorem g_icmp_le (C : Cx p s m args meth c E A nL cc Ts own) {a b : Int} {off : Int} {tgt : Nat} (ha : bi a) (hb : bi b) (d : decode cc pc = .ok (.if_icmp .le off, 3)) (ht : (pc : Int) + off = (tgt : Int)) (hn : pc + 3 = pc') (kt : a ≤ b → G p l e R s m args below meth c Q E A nL k n ws lv tgt st) (kf : ¬ a ≤ b → G p l e R s m args below meth c Q E A nL k n ws lv pc' st) : G p l e R s m args below meth c Q E A nL k n ws lv pc (.int (I32 b) :: .int (I32 a) :: st) := by
  subst hn; intro H locs ls hP hD hS hl; exact lv_icmp_le C.1.1 C.1.2.1 d ht (fun h => kt ((i_le ha hb).mp h) H locs ls hP hD hS hl) (fun h => kf (fun q => h ((i_le ha hb).mpr q)) H locs ls hP hD hS hl)
theorem g_if_le (C : Cx p s m args meth c E A nL cc Ts own) {a : Int} {off : Int} {tgt : Nat} (ha : bi a) (d : decode cc pc = .ok (.ifCond .le off, 3)) (ht : (pc : Int) + off = (tgt : Int)) (hn : pc + 3 = pc') (kt : a ≤ 0 → G p l e R s m args below meth c Q E A nL k n ws lv tgt st) (kf : ¬ a ≤ 0 → G p l e R s m args below meth c Q E A nL k n ws lv pc' st) : G p l e R s m args below meth c Q E A nL k n ws lv pc (.int (I32 a) :: st) := by
  subst hn; intro H locs ls hP hD hS hl; exact lv_if_le C.1.1 C.1.2.1 d ht (fun h => kt ((i_le ha b0).mp h) H locs ls hP hD hS hl) (fun h => kf (fun q => h ((i_le ha b0).mpr q)) H locs ls hP hD hS hl)
theorem g_lcmp_le (C : Cx p s m args meth c E A nL cc Ts own) {a b : Int} {off : Int} {tgt pc1 : Nat} (ha : bl a) (hb : bl b) (d1 : decode cc pc = .ok (.lcmp, 1)) (h1 : pc + 1 = pc1) (d : decode cc pc1 = .ok (.ifCond .le off, 3)) (ht : (pc1 : Int) + off = (tgt : Int)) (hn : pc1 + 3 = pc') (kt : a ≤ b → G p l e R s m args below meth c Q E A nL k n ws lv tgt st) (kf : ¬ a ≤ b → G p l e R s m args below meth c Q E A nL k n ws lv pc' st) : G p l e R s m args below meth c Q E A nL k n ws lv pc (.long (I64 b) :: .long (I64 a) :: st) := by
  subst hn; subst h1; intro H locs ls hP hD hS hl
  refine W.lcmp C.1.1 C.1.2.1 d1 ?_
  refine lv_if_le C.1.1 C.1.2.1 d ht (fun h => kt ?_ H locs ls hP hD hS hl) (fun h => kf ?_ H locs ls hP hD hS hl) <;>
  · unfold lg_cmp at h
    have e1 := l_lt ha hb
    have e2 := l_lt hb ha
    have e3 := l_eq ha hb
    have e4 := l_le ha hb
    have e5 := l_le hb ha
    rcases Int.lt_trichotomy a b with q | q | q
    · rw [if_neg (show ¬ I64 a > I64 b from fun z => by have := e2.mp z; omega), if_neg (fun z => by have := e3.mp z; omega)] at h
      first | omega | exact absurd h (by decide) | (exact absurd (by decide) h)
    · rw [if_neg (show ¬ I64 a > I64 b from fun z => by have := e2.mp z; omega), if_pos (e3.mpr q)] at h
      first | omega | exact absurd h (by decide) | (exact absurd (by decide) h)
    · rw [if_pos (show I64 a > I64 b from e2.mpr q)] at h
      first | omega | exact absurd h (by decide) | (exact absurd (by decide) h)
theorem g_ifb_eq (C : Cx p s m args meth c E A nL cc Ts own) {f : Prop} [Decidable f] {off : Int} {tgt : Nat} (d : decode cc pc = .ok (.ifCond .eq off, 3)) (ht : (pc : Int) + off = (tgt : Int)) (hn : pc + 3 = pc') (kt : ¬ f → G p l e R s m args below meth c Q E A nL k n ws lv tgt st) (kf : f → G p l e R s m args below meth c Q E A nL k n ws lv pc' st) : G p l e R s m args below meth c Q E A nL k n ws lv pc (.int (I32 (bP f)) :: st) :=
  g_if_eq C bP_b d ht hn (fun h => kt (bP_iff.mp h)) (fun h => kf (Classical.byContradiction fun q => h (bP_iff.mpr q)))
theorem g_ifb_ne (C : Cx p s m args meth c E A nL cc Ts own) {f : Prop} [Decidable f] {off : Int} {tgt : Nat} (d : decode cc pc = .ok (.ifCond .ne off, 3)) (ht : (pc : Int) + off = (tgt : Int)) (hn : pc + 3 = pc') (kt : f → G p l e R s m args below meth c Q E A nL k n ws lv tgt st) (kf : ¬ f → G p l e R s m args below meth c Q E A nL k n ws lv pc' st) : G p l e R s m args below meth c Q E A nL k n ws lv pc (.int (I32 (bP f)) :: st) :=
  g_if_ne C bP_b d ht hn (fun h => kt (Classical.byContradiction fun q => h (bP_iff.mpr q))) (fun h => kf (bP_iff.mp h))
theorem g_ifnull (C : Cx p s m args meth c E A nL cc Ts own) {x : Nat} {off : Int} (d : decode cc pc = .ok (.ifnull off, 3)) (hn : pc + 3 = pc') (kk : G p l e R s m args below meth c Q E A nL k n ws lv pc' st) : G p l e R s m args below meth c Q E A nL k n ws lv pc (.ref x :: st) := by
  subst hn; intro H locs ls hP hD hS hl; exact lv_ifnull C.1.1 C.1.2.1 d (kk H locs ls hP hD hS hl)
theorem g_ifnonnull (C : Cx p s m args meth c E A nL cc Ts own) {x : Nat} {off : Int} (d : decode cc pc = .ok (.ifnonnull off, 3)) (ht : (pc : Int) + off = (pc' : Int)) (kk : G p l e R s m args below meth c Q E A nL k n ws lv pc' st) : G p l e R s m args below meth c Q E A nL k n ws lv pc (.ref x :: st) := by
  intro H locs ls hP hD hS hl; exact lv_ifnonnull C.1.1 C.1.2.1 d ht (kk H locs ls hP hD hS hl)
theorem g_ifnullN (C : Cx p s m args meth c E A nL cc Ts own) {off : Int} (d : decode cc pc = .ok (.ifnull off, 3)) (ht : (pc : Int) + off = (pc' : Int)) (kk : G p l e R s m args below meth c Q E A nL k n ws lv pc' st) : G p l e R s m args below meth c Q E A nL k n ws lv pc (.null :: st) := by
  intro H locs ls hP hD hS hl; exact lv_ifnullN C.1.1 C.1.2.1 d ht (kk H locs ls hP hD hS hl)
theorem g_ifnonnullN (C : Cx p s m args meth c E A nL cc Ts own) {off : Int} (d : decode cc pc = .ok (.ifnonnull off, 3)) (hn : pc + 3 = pc') (kk : G p l e R s m args below meth c Q E A nL k n ws lv pc' st) : G p l e R s m args below meth c Q E A nL k n ws lv pc (.null :: st) := by
  subst hn; intro H locs ls hP hD hS hl; exact lv_ifnonnullN C.1.1 C.1.2.1 d (kk H locs ls hP hD hS hl)
theorem g_tsIn (C : Cx p s m args meth c E A nL cc Ts own) {a : Int} {dflt lo hi : Int} {offs : Array Int} {len : Nat} {off : Int} (ha : bi a) (h1 : lo ≤ a) (h2 : a ≤ hi) (ho : offs[(a - lo).toNat]? = some off) (d : decode cc pc = .ok (.tableswitch dflt lo hi offs, len)) (ht : (pc : Int) + off = (pc' : Int)) (kk : G p l e R s m args below meth c Q E A nL k n ws lv pc' st) : G p l e R s m args below meth c Q E A nL k n ws lv pc (.int (I32 a) :: st) := by
  intro H locs ls hP hD hS hl
  have e := i_toI ha
  exact lv_tableIn C.1.1 C.1.2.1 d (by rw [e]; omega) (by rw [e]; omega) (by rw [e]; exact ho) ht (kk H locs ls hP hD hS hl)
theorem g_tsOut (C : Cx p s m args meth c E A nL cc Ts own) {a : Int} {dflt lo hi : Int} {offs : Array Int} {len : Nat} (ha : bi a) (h1 : a < lo ∨ hi < a) (d : decode cc pc = .ok (.tableswitch dflt lo hi offs, len)) (ht : (pc : Int) + dflt = (pc' : Int)) (kk : G p l e R s m args below meth c Q E A nL k n ws lv pc' st) : G p l e R s m args below meth c Q E A nL k n ws lv pc (.int (I32 a) :: st) := by
  intro H locs ls hP hD hS hl
  have e := i_toI ha
  exact lv_tableOut C.1.1 C.1.2.1 d (by rw [e]; exact h1) ht (kk H locs ls hP hD hS hl)
/-- a field of a class, as the method's words have it -/
def fdk (Ts : List Cond) (own : String) (idx : Nat) (ref C : String) (T : u_T) (N k : Nat) : Prop := (∀ w ∈ u_ws C T N, w ∈ Ts) ∧ Cond.fieldLink own idx ref (T k).2.1 (T k).2.2.1 ∈ Ts ∧ k < N ∧ (T k).1 = ref
theorem g_get (C : Cx p s m args meth c E A nL cc Ts own) {idx : Nat} {ref cn : String} {T : u_T} {N f a ci : Nat} {fs : List Value} {v : Value} (q0 : Nat) (hf : fdk Ts own idx ref cn T N f) (hc : vwCl[ci]? = some (cn, T, N)) (he : ws[q0]? = some (a, .inr (ci, fs))) (hv : fs[f]? = some v) (d : decode cc pc = .ok (.getfield idx, 3)) (hn : pc + 3 = pc') (kk : G p l e R s m args below meth c Q E A nL k n ws lv pc' (v :: st)) : G p l e R s m args below meth c Q E A nL k n ws lv pc (.ref a :: st) := by
  subst hn; intro H locs ls hP hD hS hl
  exact va_get C.1.1 C.1.2.1 C.1.2.2.2.2 hf.1 C.1.2.2.2.1 C.2.1.1 hP q0 he hc f hf.2.2.1 (C.1.2.2.2.2 _ hf.2.1) (fun x h => by rw [← hf.2.2.2]; exact h) hv d (kk H locs ls hP hD hS hl)
theorem g_put (C : Cx p s m args meth c E A nL cc Ts own) {idx : Nat} {ref cn : String} {T : u_T} {N f a ci : Nat} {fs : List Value} {v : Value} {ty : FieldType} {ws' : va_W} (ty0 : Nat → FieldType) (hty : ∀ k, k < N → parseFieldDescriptor (T k).2.2.1 = some (ty0 k)) (hnm : ∀ a, a < N → ∀ b, b < N → a ≠ b → (T a).2.1 ≠ (T b).2.1) (q0 : Nat) (hf : fdk Ts own idx ref cn T N f) (hc : vwCl[ci]? = some (cn, T, N)) (he : ws[q0]? = some (a, .inr (ci, fs))) (hfin : (T f).2.2.2 = false) (hd : ty0 f = ty) (hna : narrow ty v = v) (hfit : fits ty v = true) (hl0 : f < fs.length) (hw : ws.set q0 (a, .inr (ci, fs.set f v)) = ws') (d : decode cc pc = .ok (.putfield idx, 3)) (hn : pc + 3 = pc') (kk : G p l e R s m args below meth c Q E A nL k n ws' lv pc' st) : G p l e R s m args below meth c Q E A nL k n ws lv pc (v :: .ref a :: st) := by
  subst hn; subst hw; intro H locs ls hP hD hS hl
  exact va_put C.1.1 C.1.2.1 C.1.2.2.2.2 hf.1 ty0 hty hnm C.1.2.2.2.1 C.2.1.1 hP hD hS q0 he hc f hf.2.2.1 (C.1.2.2.2.2 _ hf.2.1) (fun x h => by rw [← hf.2.2.2]; exact h) hfin (by rw [← hd]; exact hty f hf.2.2.1) hna hfit hl0 d (fun H1 locs1 hP hD hS => kk H1 locs1 ls hP hD hS hl)
theorem g_putF (C : Cx p s m args meth c E A nL cc Ts own) {idx : Nat} {ref cn : String} {T : u_T} {N f a ci : Nat} {fs : List Value} {v : Value} {ty : FieldType} {ws' : va_W} (hi : meth.name = "<init>") (ty0 : Nat → FieldType) (hty : ∀ k, k < N → parseFieldDescriptor (T k).2.2.1 = some (ty0 k)) (hnm : ∀ a, a < N → ∀ b, b < N → a ≠ b → (T a).2.1 ≠ (T b).2.1) (q0 : Nat) (hf : fdk Ts own idx ref cn T N f) (hc : vwCl[ci]? = some (cn, T, N)) (he : ws[q0]? = some (a, .inr (ci, fs))) (hfin : (T f).2.2.2 = true) (ho : (T f).1 = own) (hd : ty0 f = ty) (hna : narrow ty v = v) (hfit : fits ty v = true) (hl0 : f < fs.length) (hw : ws.set q0 (a, .inr (ci, fs.set f v)) = ws') (d : decode cc pc = .ok (.putfield idx, 3)) (hn : pc + 3 = pc') (kk : G p l e R s m args below meth c Q E A nL k n ws' lv pc' st) : G p l e R s m args below meth c Q E A nL k n ws lv pc (v :: .ref a :: st) := by
  subst hn; subst hw; intro H locs ls hP hD hS hl
  exact va_putF C.1.1 C.1.2.1 C.1.2.2.2.2 hf.1 ty0 hty hnm C.1.2.2.2.1 C.2.1.1 hP hD hS q0 he hc f hf.2.2.1 (C.1.2.2.2.2 _ hf.2.1) (fun x h => by rw [← hf.2.2.2]; exact h) hfin hi ho (by rw [← hd]; exact hty f hf.2.2.1) hna hfit hl0 d (fun H1 locs1 hP hD hS => kk H1 locs1 ls hP hD hS hl)
theorem nrI (x : Int32) : narrow .int (.int x) = .int x := rfl
theorem nrL (x : Int64) : narrow .long (.long x) = .long x := rfl
theorem nrZ (c : Prop) [Decidable c] : narrow .boolean (.int (I32 (bP c))) = .int (I32 (bP c)) := by unfold bP; split <;> decide
theorem ftZ (c : Prop) [Decidable c] : fits .boolean (.int (I32 (bP c))) = true := by unfold bP; split <;> decide
theorem nrZi {x : Int} (h : x = 0 ∨ x = 1) : narrow .boolean (.int (I32 x)) = .int (I32 x) := by rcases h with rfl | rfl <;> decide
theorem ftZi {x : Int} (h : x = 0 ∨ x = 1) : fits .boolean (.int (I32 x)) = true := by rcases h with rfl | rfl <;> decide
theorem g_iald (C : Cx p s m args meth c E A nL cc Ts own) {q N : Nat} {a : Int → Int} {i r : Int} (q0 : Nat) (he : ws[q0]? = some (q, .inl (E.2.1 0, N, .inl (AI N a)))) (h0 : 0 ≤ i) (h1 : i < N) (hN : N < 2147483648) (hr : a i = r) (d : decode cc pc = .ok (.iaload, 1)) (hn : pc + 1 = pc') (kk : G p l e R s m args below meth c Q E A nL k n ws lv pc' (.int (I32 r) :: st)) : G p l e R s m args below meth c Q E A nL k n ws lv pc (.int (I32 i) :: .ref q :: st) := by
  subst hn; subst hr; intro H locs ls hP hD hS hl
  have kk := kk H locs ls hP hD hS hl
  rw [← AI_at (a := a) h0 h1 hN] at kk
  exact va_iald C.1.1 C.1.2.1 C.2.1.1 hP q0 0 he (t_i E) (i_vp h0 h1 hN) d kk
theorem g_lald (C : Cx p s m args meth c E A nL cc Ts own) {q N : Nat} {a : Int → Int} {i r : Int} (q0 : Nat) (he : ws[q0]? = some (q, .inl (E.2.1 1, N, .inr (.inl (AL N a))))) (h0 : 0 ≤ i) (h1 : i < N) (hN : N < 2147483648) (hr : a i = r) (d : decode cc pc = .ok (.laload, 1)) (hn : pc + 1 = pc') (kk : G p l e R s m args below meth c Q E A nL k n ws lv pc' (.long (I64 r) :: st)) : G p l e R s m args below meth c Q E A nL k n ws lv pc (.int (I32 i) :: .ref q :: st) := by
  subst hn; subst hr; intro H locs ls hP hD hS hl
  have kk := kk H locs ls hP hD hS hl
  rw [← AL_at (a := a) h0 h1 hN] at kk
  exact va_lald C.1.1 C.1.2.1 C.2.1.1 hP q0 1 he (t_l E) (i_vp h0 h1 hN) d kk
theorem g_zald (C : Cx p s m args meth c E A nL cc Ts own) {q N : Nat} {a : Int → Int} {i r : Int} (q0 : Nat) (he : ws[q0]? = some (q, .inl (E.2.1 2, N, .inl (AI N a)))) (h0 : 0 ≤ i) (h1 : i < N) (hN : N < 2147483648) (hr : a i = r) (d : decode cc pc = .ok (.baload, 1)) (hn : pc + 1 = pc') (kk : G p l e R s m args below meth c Q E A nL k n ws lv pc' (.int (I32 r) :: st)) : G p l e R s m args below meth c Q E A nL k n ws lv pc (.int (I32 i) :: .ref q :: st) := by
  subst hn; subst hr; intro H locs ls hP hD hS hl
  have kk := kk H locs ls hP hD hS hl
  rw [← AI_at (a := a) h0 h1 hN] at kk
  exact va_zald C.1.1 C.1.2.1 C.2.1.1 hP q0 2 he (t_z E) (i_vp h0 h1 hN) d kk
theorem g_bald (C : Cx p s m args meth c E A nL cc Ts own) {q N : Nat} {a : Int → Int} {i r : Int} (q0 : Nat) (he : ws[q0]? = some (q, .inl (E.2.1 3, N, .inl (AI N a)))) (h0 : 0 ≤ i) (h1 : i < N) (hN : N < 2147483648) (hr : a i = r) (d : decode cc pc = .ok (.baload, 1)) (hn : pc + 1 = pc') (kk : G p l e R s m args below meth c Q E A nL k n ws lv pc' (.int (I32 r) :: st)) : G p l e R s m args below meth c Q E A nL k n ws lv pc (.int (I32 i) :: .ref q :: st) := by
  subst hn; subst hr; intro H locs ls hP hD hS hl
  have kk := kk H locs ls hP hD hS hl
  rw [← AI_at (a := a) h0 h1 hN] at kk
  exact va_bald C.1.1 C.1.2.1 C.2.1.1 hP q0 3 he (t_b E) (i_vp h0 h1 hN) d kk
theorem g_iast (C : Cx p s m args meth c E A nL cc Ts own) {q N : Nat} {a : Int → Int} {i v : Int} {ws' : va_W} (q0 : Nat) (he : ws[q0]? = some (q, .inl (E.2.1 0, N, .inl (AI N a)))) (h0 : 0 ≤ i) (h1 : i < N) (hN : N < 2147483648)  (hw : ws.set q0 (q, .inl (E.2.1 0, N, .inl (AI N (ua a i v)))) = ws') (d : decode cc pc = .ok (.iastore, 1)) (hn : pc + 1 = pc') (kk : G p l e R s m args below meth c Q E A nL k n ws' lv pc' st) : G p l e R s m args below meth c Q E A nL k n ws lv pc (.int (I32 v) :: .int (I32 i) :: .ref q :: st) := by
  subst hn; subst hw; intro H locs ls hP hD hS hl
  refine va_iast C.1.1 C.1.2.1 C.2.1.1 hP hD hS q0 0 he (t_i E) (i_vp h0 h1 hN) d (fun H1 locs1 hP hD hS => ?_)
  rw [AI_up (a := a) h0 h1 hN] at hP hD
  exact kk H1 locs1 ls hP hD hS hl
theorem g_last (C : Cx p s m args meth c E A nL cc Ts own) {q N : Nat} {a : Int → Int} {i v : Int} {ws' : va_W} (q0 : Nat) (he : ws[q0]? = some (q, .inl (E.2.1 1, N, .inr (.inl (AL N a))))) (h0 : 0 ≤ i) (h1 : i < N) (hN : N < 2147483648)  (hw : ws.set q0 (q, .inl (E.2.1 1, N, .inr (.inl (AL N (ua a i v))))) = ws') (d : decode cc pc = .ok (.lastore, 1)) (hn : pc + 1 = pc') (kk : G p l e R s m args below meth c Q E A nL k n ws' lv pc' st) : G p l e R s m args below meth c Q E A nL k n ws lv pc (.long (I64 v) :: .int (I32 i) :: .ref q :: st) := by
  subst hn; subst hw; intro H locs ls hP hD hS hl
  refine va_last C.1.1 C.1.2.1 C.2.1.1 hP hD hS q0 1 he (t_l E) (i_vp h0 h1 hN) d (fun H1 locs1 hP hD hS => ?_)
  rw [AL_up (a := a) h0 h1 hN] at hP hD
  exact kk H1 locs1 ls hP hD hS hl
theorem g_zast (C : Cx p s m args meth c E A nL cc Ts own) {q N : Nat} {a : Int → Int} {i v : Int} {ws' : va_W} (q0 : Nat) (he : ws[q0]? = some (q, .inl (E.2.1 2, N, .inl (AI N a)))) (h0 : 0 ≤ i) (h1 : i < N) (hN : N < 2147483648) (hv : vp_nar .boolean (I32 v) = I32 v) (hw : ws.set q0 (q, .inl (E.2.1 2, N, .inl (AI N (ua a i v)))) = ws') (d : decode cc pc = .ok (.bastore, 1)) (hn : pc + 1 = pc') (kk : G p l e R s m args below meth c Q E A nL k n ws' lv pc' st) : G p l e R s m args below meth c Q E A nL k n ws lv pc (.int (I32 v) :: .int (I32 i) :: .ref q :: st) := by
  subst hn; subst hw; intro H locs ls hP hD hS hl
  refine va_zast C.1.1 C.1.2.1 C.2.1.1 hP hD hS q0 2 he (t_z E) (i_vp h0 h1 hN) d (fun H1 locs1 hP hD hS => ?_)
  rw [hv] at hP hD; rw [AI_up (a := a) h0 h1 hN] at hP hD
  exact kk H1 locs1 ls hP hD hS hl
theorem g_bast (C : Cx p s m args meth c E A nL cc Ts own) {q N : Nat} {a : Int → Int} {i v : Int} {ws' : va_W} (q0 : Nat) (he : ws[q0]? = some (q, .inl (E.2.1 3, N, .inl (AI N a)))) (h0 : 0 ≤ i) (h1 : i < N) (hN : N < 2147483648) (hv : vp_nar .byte (I32 v) = I32 v) (hw : ws.set q0 (q, .inl (E.2.1 3, N, .inl (AI N (ua a i v)))) = ws') (d : decode cc pc = .ok (.bastore, 1)) (hn : pc + 1 = pc') (kk : G p l e R s m args below meth c Q E A nL k n ws' lv pc' st) : G p l e R s m args below meth c Q E A nL k n ws lv pc (.int (I32 v) :: .int (I32 i) :: .ref q :: st) := by
  subst hn; subst hw; intro H locs ls hP hD hS hl
  refine va_bast C.1.1 C.1.2.1 C.2.1.1 hP hD hS q0 3 he (t_b E) (i_vp h0 h1 hN) d (fun H1 locs1 hP hD hS => ?_)
  rw [hv] at hP hD; rw [AI_up (a := a) h0 h1 hN] at hP hD
  exact kk H1 locs1 ls hP hD hS hl
theorem g_alen (C : Cx p s m args meth c E A nL cc Ts own) {q N : Nat} {cA : ClassId} {x} {ty : FieldType} (q0 t0 : Nat) (he : ws[q0]? = some (q, .inl (cA, N, x))) (ht : (tysE E)[t0]? = some (cA, ty)) (d : decode cc pc = .ok (.arraylength, 1)) (hn : pc + 1 = pc') (kk : G p l e R s m args below meth c Q E A nL k n ws lv pc' (.int (I32 N) :: st)) : G p l e R s m args below meth c Q E A nL k n ws lv pc (.ref q :: st) := by
  subst hn; intro H locs ls hP hD hS hl
  exact va_alen C.1.1 C.1.2.1 C.2.1.1 hP q0 t0 he ht (show Int32.ofNat N = I32 N from Int32.ofInt_eq_ofNat.symm) d (kk H locs ls hP hD hS hl)
theorem g_aald (C : Cx p s m args meth c E A nL cc Ts own) {q N : Nat} {cA : ClassId} {cn : String} {f : Nat → Option Nat} {i : Int} {v : Value} (q0 t0 : Nat) (he : ws[q0]? = some (q, .inl (cA, N, .inr (.inr (.inr (.inr f)))))) (ht : (tysE E)[t0]? = some (cA, .object cn)) (h0 : 0 ≤ i) (h1 : i < N) (hN : N < 2147483648) (hr : va_rf (f i.toNat) = v) (d : decode cc pc = .ok (.aaload, 1)) (hn : pc + 1 = pc') (kk : G p l e R s m args below meth c Q E A nL k n ws lv pc' (v :: st)) : G p l e R s m args below meth c Q E A nL k n ws lv pc (.int (I32 i) :: .ref q :: st) := by
  subst hn; subst hr; intro H locs ls hP hD hS hl
  have kk := kk H locs ls hP hD hS hl
  rw [← i_cl (x := i) ⟨by omega, by omega⟩] at kk
  exact va_aldq C.1.1 C.1.2.1 C.2.1.1 hP q0 t0 he ht (i_vp h0 h1 hN) d kk
theorem g_aast (C : Cx p s m args meth c E A nL cc Ts own) {q N v ci : Nat} {cA : ClassId} {r : vw_C} {vs : List Value} {f : Nat → Option Nat} {i : Int} {ws' : va_W} (q0 t0 qk : Nat) (he : ws[q0]? = some (q, .inl (cA, N, .inr (.inr (.inr (.inr f)))))) (ht : (tysE E)[t0]? = some (cA, .object r.1)) (hv : ws[qk]? = some (v, .inr (ci, vs))) (hc : vwCl[ci]? = some r) (h0 : 0 ≤ i) (h1 : i < N) (hN : N < 2147483648) (hw : ws.set q0 (q, .inl (cA, N, .inr (.inr (.inr (.inr (va_up f i.toNat (some v))))))) = ws') (d : decode cc pc = .ok (.aastore, 1)) (hn : pc + 1 = pc') (kk : G p l e R s m args below meth c Q E A nL k n ws' lv pc' st) : G p l e R s m args below meth c Q E A nL k n ws lv pc (.ref v :: .int (I32 i) :: .ref q :: st) := by
  subst hn; subst hw; intro H locs ls hP hD hS hl
  refine va_astq C.1.1 C.1.2.1 C.2.1.1 hP hD hS q0 t0 qk ci he ht hv hc (i_vp h0 h1 hN) d (fun H1 locs1 hP hD hS => ?_)
  rw [i_cl (x := i) ⟨by omega, by omega⟩] at hP hD
  exact kk H1 locs1 ls hP hD hS hl
theorem g_newai (C : Cx p s m args meth c E A nL cc Ts own) {N : Nat} {i : Int} {k' n' : Nat} (h0 : 0 ≤ i) (hN : i = N) (hb : N < 1000000) (hcl : k + 1 = k') (hsl : n + N = n') (hR : k' ≤ R.cells ∧ n' ≤ R.slots) (ha : Cond.arrayClass .int ∈ Ts) (d : decode cc pc = .ok (.newarray .int, 2)) (hn : pc + 2 = pc') (kk : ∀ q : Nat, G p l e R s m args below meth c Q E A nL k' n' (ws ++ [(q, .inl (E.2.1 0, N, .inl (AI N (fun _ => 0))))]) lv pc' (.ref q :: st)) : G p l e R s m args below meth c Q E A nL k n ws lv pc (.int (I32 i) :: st) := by
  subst hn; subst hcl; subst hsl; intro H locs ls hP hD hS hl
  have hbi : bi i := ⟨by omega, by omega⟩
  refine va_newa (atype := .int) (ty := .int) (a0 := (N, .inl (AI N (fun _ => 0)))) (N' := N) C.1.1 C.1.2.1 (C.1.2.2.2.2 _ ha) rfl C.2.1.1 hP hD hS C.2.2.2.1 (fun cA => by unfold vp_cell; simp only; rw [AI_0]; rfl) (by rw [i_z, i_lt hbi b0]; omega) (by rw [i_cl hbi]; omega) (by simp only [componentBytes]; omega) hR.1 hR.2 d (fun q cA H1 hK hP hD hS => ?_)
  have e1 : s.vm.findClass ("[" ++ (.int : FieldType).toString) = some cA := (hK.2 7 (cA, .int) rfl).2
  have e2 : s.vm.findClass ("[" ++ (.int : FieldType).toString) = some (E.2.1 0) := (hK.2 0 (E.2.1 0, .int) rfl).2
  obtain rfl : cA = E.2.1 0 := Option.some.inj (e1.symm.trans e2)
  exact kk q H1 locs ls hP hD hS hl
theorem g_newal (C : Cx p s m args meth c E A nL cc Ts own) {N : Nat} {i : Int} {k' n' : Nat} (h0 : 0 ≤ i) (hN : i = N) (hb : N < 1000000) (hcl : k + 1 = k') (hsl : n + N = n') (hR : k' ≤ R.cells ∧ n' ≤ R.slots) (ha : Cond.arrayClass .long ∈ Ts) (d : decode cc pc = .ok (.newarray .long, 2)) (hn : pc + 2 = pc') (kk : ∀ q : Nat, G p l e R s m args below meth c Q E A nL k' n' (ws ++ [(q, .inl (E.2.1 1, N, .inr (.inl (AL N (fun _ => 0)))))]) lv pc' (.ref q :: st)) : G p l e R s m args below meth c Q E A nL k n ws lv pc (.int (I32 i) :: st) := by
  subst hn; subst hcl; subst hsl; intro H locs ls hP hD hS hl
  have hbi : bi i := ⟨by omega, by omega⟩
  refine va_newa (atype := .long) (ty := .long) (a0 := (N, .inr (.inl (AL N (fun _ => 0))))) (N' := N) C.1.1 C.1.2.1 (C.1.2.2.2.2 _ ha) rfl C.2.1.1 hP hD hS C.2.2.2.1 (fun cA => by unfold vp_cell; simp only; rw [AL_0]; rfl) (by rw [i_z, i_lt hbi b0]; omega) (by rw [i_cl hbi]; omega) (by simp only [componentBytes]; omega) hR.1 hR.2 d (fun q cA H1 hK hP hD hS => ?_)
  have e1 : s.vm.findClass ("[" ++ (.long : FieldType).toString) = some cA := (hK.2 7 (cA, .long) rfl).2
  have e2 : s.vm.findClass ("[" ++ (.long : FieldType).toString) = some (E.2.1 1) := (hK.2 1 (E.2.1 1, .long) rfl).2
  obtain rfl : cA = E.2.1 1 := Option.some.inj (e1.symm.trans e2)
  exact kk q H1 locs ls hP hD hS hl
theorem g_newaz (C : Cx p s m args meth c E A nL cc Ts own) {N : Nat} {i : Int} {k' n' : Nat} (h0 : 0 ≤ i) (hN : i = N) (hb : N < 1000000) (hcl : k + 1 = k') (hsl : n + N = n') (hR : k' ≤ R.cells ∧ n' ≤ R.slots) (ha : Cond.arrayClass .boolean ∈ Ts) (d : decode cc pc = .ok (.newarray .boolean, 2)) (hn : pc + 2 = pc') (kk : ∀ q : Nat, G p l e R s m args below meth c Q E A nL k' n' (ws ++ [(q, .inl (E.2.1 2, N, .inl (AI N (fun _ => 0))))]) lv pc' (.ref q :: st)) : G p l e R s m args below meth c Q E A nL k n ws lv pc (.int (I32 i) :: st) := by
  subst hn; subst hcl; subst hsl; intro H locs ls hP hD hS hl
  have hbi : bi i := ⟨by omega, by omega⟩
  refine va_newa (atype := .boolean) (ty := .boolean) (a0 := (N, .inl (AI N (fun _ => 0)))) (N' := N) C.1.1 C.1.2.1 (C.1.2.2.2.2 _ ha) rfl C.2.1.1 hP hD hS C.2.2.2.1 (fun cA => by unfold vp_cell; simp only; rw [AI_0]; rfl) (by rw [i_z, i_lt hbi b0]; omega) (by rw [i_cl hbi]; omega) (by simp only [componentBytes]; omega) hR.1 hR.2 d (fun q cA H1 hK hP hD hS => ?_)
  have e1 : s.vm.findClass ("[" ++ (.boolean : FieldType).toString) = some cA := (hK.2 7 (cA, .boolean) rfl).2
  have e2 : s.vm.findClass ("[" ++ (.boolean : FieldType).toString) = some (E.2.1 2) := (hK.2 2 (E.2.1 2, .boolean) rfl).2
  obtain rfl : cA = E.2.1 2 := Option.some.inj (e1.symm.trans e2)
  exact kk q H1 locs ls hP hD hS hl
theorem g_newab (C : Cx p s m args meth c E A nL cc Ts own) {N : Nat} {i : Int} {k' n' : Nat} (h0 : 0 ≤ i) (hN : i = N) (hb : N < 1000000) (hcl : k + 1 = k') (hsl : n + N = n') (hR : k' ≤ R.cells ∧ n' ≤ R.slots) (ha : Cond.arrayClass .byte ∈ Ts) (d : decode cc pc = .ok (.newarray .byte, 2)) (hn : pc + 2 = pc') (kk : ∀ q : Nat, G p l e R s m args below meth c Q E A nL k' n' (ws ++ [(q, .inl (E.2.1 3, N, .inl (AI N (fun _ => 0))))]) lv pc' (.ref q :: st)) : G p l e R s m args below meth c Q E A nL k n ws lv pc (.int (I32 i) :: st) := by
  subst hn; subst hcl; subst hsl; intro H locs ls hP hD hS hl
  have hbi : bi i := ⟨by omega, by omega⟩
  refine va_newa (atype := .byte) (ty := .byte) (a0 := (N, .inl (AI N (fun _ => 0)))) (N' := N) C.1.1 C.1.2.1 (C.1.2.2.2.2 _ ha) rfl C.2.1.1 hP hD hS C.2.2.2.1 (fun cA => by unfold vp_cell; simp only; rw [AI_0]; rfl) (by rw [i_z, i_lt hbi b0]; omega) (by rw [i_cl hbi]; omega) (by simp only [componentBytes]; omega) hR.1 hR.2 d (fun q cA H1 hK hP hD hS => ?_)
  have e1 : s.vm.findClass ("[" ++ (.byte : FieldType).toString) = some cA := (hK.2 7 (cA, .byte) rfl).2
  have e2 : s.vm.findClass ("[" ++ (.byte : FieldType).toString) = some (E.2.1 3) := (hK.2 3 (E.2.1 3, .byte) rfl).2
  obtain rfl : cA = E.2.1 3 := Option.some.inj (e1.symm.trans e2)
  exact kk q H1 locs ls hP hD hS hl
theorem g_newq (C : Cx p s m args meth c E A nL cc Ts own) {N : Nat} {i : Int} {idx t0 k' n' : Nat} {cn : String} {cA0 : ClassId} (h0 : 0 ≤ i) (hN : i = N) (hb : N < 1000000) (hcl : k + 1 = k') (hsl : n + N = n') (hR : k' ≤ R.cells ∧ n' ≤ R.slots) (hlk : Cond.classLink own idx cn ∈ Ts) (hao : va_AO cn s) (ht : (tysE E)[t0]? = some (cA0, .object cn)) (d : decode cc pc = .ok (.anewarray idx, 3)) (hn : pc + 3 = pc') (kk : ∀ q : Nat, G p l e R s m args below meth c Q E A nL k' n' (ws ++ [(q, .inl (cA0, N, .inr (.inr (.inr (.inr (fun _ => none))))))]) lv pc' (.ref q :: st)) : G p l e R s m args below meth c Q E A nL k n ws lv pc (.int (I32 i) :: st) := by
  subst hn; subst hcl; subst hsl; intro H locs ls hP hD hS hl
  have hbi : bi i := ⟨by omega, by omega⟩
  refine va_newq (N' := N) C.1.1 C.1.2.1 C.1.2.2.2.1 (C.1.2.2.2.2 _ hlk) hao C.2.1.1 hP hD hS C.2.2.2.1 (by rw [i_z, i_lt hbi b0]; omega) (by rw [i_cl hbi]; omega) (by omega) hR.1 hR.2 d (fun q cA H1 hK hP hD hS => ?_)
  obtain ⟨kA, comp, -, -, -, e1⟩ := (hK.2 7 (cA, .object cn) rfl).2
  obtain ⟨kA2, comp2, -, -, -, e2⟩ := (C.2.1.1.2 t0 (cA0, .object cn) ht).2
  obtain rfl : cA = cA0 := Option.some.inj (e1.symm.trans e2)
  exact kk q H1 locs ls hP hD hS hl
theorem g_new (C : Cx p s m args meth c E A nL cc Ts own) {cn : String} {T : u_T} {N ci idx k' n' : Nat} {fs : List Value} (ty0 : Nat → FieldType) (hty : ∀ k, k < N → parseFieldDescriptor (T k).2.2.1 = some (ty0 k)) (hin : ∀ w ∈ u_ws cn T N, w ∈ Ts) (hw : Cond.classLink own idx cn ∈ Ts ∧ Cond.instantiable cn N ∈ Ts ∧ Cond.initialized cn ∈ Ts) (hc : vwCl[ci]? = some (cn, T, N)) (hfs : ∀ j, j < N → defaultValue (ty0 j) = vp_V fs j) (hcl : k + 1 = k') (hsl : n + N = n') (hR : k' ≤ R.cells ∧ n' ≤ R.slots) (d : decode cc pc = .ok (.new idx, 3)) (hn : pc + 3 = pc') (kk : ∀ q : Nat, G p l e R s m args below meth c Q E A nL k' n' (ws ++ [(q, .inr (ci, fs))]) lv pc' (.ref q :: st)) : G p l e R s m args below meth c Q E A nL k n ws lv pc st := by
  subst hn; subst hcl; subst hsl; intro H locs ls hP hD hS hl
  exact va_new C.1.1 C.1.2.1 C.1.2.2.2.2 hin ty0 hty C.1.2.2.2.1 (C.1.2.2.2.2 _ hw.1) (C.1.2.2.2.2 _ hw.2.1) (C.1.2.2.2.2 _ hw.2.2) C.2.1.1 hP hD hS C.2.2.2.1 hc hfs hR.1 hR.2 d (fun q H1 hP hD hS => kk q H1 locs ls hP hD hS hl)
theorem g_objInit (C : Cx p s m args meth c E A nL cc Ts own) {a idx : Nat} (hw : Cond.methodLink own idx Lib.objectInit ∈ Ts ∧ Cond.instanceMethod Lib.objectInit ∈ Ts ∧ Cond.code Lib.objectInit ⟨#[0xb1]⟩ 1 none ∈ Ts) (hR : 1 ≤ R.frames ∧ (st.map fun v => v.category).sum + 12 ≤ R.locals) (d : decode cc pc = .ok (.invokespecial idx, 3)) (hn : pc + 3 = pc') (kk : G p l e R s m args below meth c Q E A nL k n ws lv pc' st) : G p l e R s m args below meth c Q E A nL k n ws lv pc (.ref a :: st) := by
  subst hn; intro H locs ls hP hD hS hl
  exact W.objInit C.1.1 C.1.2.1 C.1.2.2.2.1 (C.1.2.2.2.2 _ hw.1) (C.1.2.2.2.2 _ hw.2.1) (C.1.2.2.2.2 _ hw.2.2) rfl (by rw [C.1.2.2.1]; exact hl.1) rfl d hR.1 (by show 2 * 0 + _ + 12 ≤ _; omega) (kk H locs ls hP hD hS hl)
theorem g_gets (C : Cx p s m args meth c E A nL cc Ts own) {cn nm ds ref : String} {v : Value} {idx : Nat} (hZ : va_Z cn nm ds v A s s.heap) (hlk : Cond.fieldLink own idx ref nm ds ∈ Ts) (hsame : cn = ref) (d : decode cc pc = .ok (.getstatic idx, 3)) (hn : pc + 3 = pc') (kk : G p l e R s m args below meth c Q E A nL k n ws lv pc' (v :: st)) : G p l e R s m args below meth c Q E A nL k n ws lv pc st := by
  subst hn; subst hsame; intro H locs ls hP hD hS hl
  exact va_gets C.1.1 C.1.2.1 hZ hS C.1.2.2.2.1 (C.1.2.2.2.2 _ hlk) (fun _ h => h) d (kk H locs ls hP hD hS hl)
theorem g_getsN (C : Cx p s m args meth c E A nL cc Ts own) {cn nm ds host : String} {v : Value} {idx : Nat} (hZ : va_Z cn nm ds v A s s.heap) (hlk : va_Nw (.fieldLinkNest own idx cn nm ds host) s) (d : decode cc pc = .ok (.getstatic idx, 3)) (hn : pc + 3 = pc') (kk : G p l e R s m args below meth c Q E A nL k n ws lv pc' (v :: st)) : G p l e R s m args below meth c Q E A nL k n ws lv pc st := by
  subst hn; intro H locs ls hP hD hS hl
  exact va_getsN C.1.1 C.1.2.1 hZ hS C.1.2.2.2.1 (va_Nw.use rfl hlk) (fun _ h => h) d (kk H locs ls hP hD hS hl)
theorem g_ti (C : Cx p s m args meth c E A nL cc Ts own) {q N : Nat} {a : Int → Int} {i r : Int} (hT : va_T .int q N (fun j => .int (AI N a j)) A s s.heap) (h0 : 0 ≤ i) (h1 : i < N) (hN : N < 2147483648) (hr : a i = r) (d : decode cc pc = .ok (.iaload, 1)) (hn : pc + 1 = pc') (kk : G p l e R s m args below meth c Q E A nL k n ws lv pc' (.int (I32 r) :: st)) : G p l e R s m args below meth c Q E A nL k n ws lv pc (.int (I32 i) :: .ref q :: st) := by
  subst hn; subst hr; intro H locs ls hP hD hS hl
  exact va_ti C.1.1 C.1.2.1 hT hS (i_vp h0 h1 hN) (congrArg Value.int (AI_at (a := a) h0 h1 hN)) d (kk H locs ls hP hD hS hl)
theorem g_tb (C : Cx p s m args meth c E A nL cc Ts own) {q N : Nat} {a : Int → Int} {i r : Int} (hT : va_T .byte q N (fun j => .int (AI N a j)) A s s.heap) (h0 : 0 ≤ i) (h1 : i < N) (hN : N < 2147483648) (hr : a i = r) (d : decode cc pc = .ok (.baload, 1)) (hn : pc + 1 = pc') (kk : G p l e R s m args below meth c Q E A nL k n ws lv pc' (.int (I32 r) :: st)) : G p l e R s m args below meth c Q E A nL k n ws lv pc (.int (I32 i) :: .ref q :: st) := by
  subst hn; subst hr; intro H locs ls hP hD hS hl
  exact va_tb C.1.1 C.1.2.1 hT hS (i_vp h0 h1 hN) (congrArg Value.int (AI_at (a := a) h0 h1 hN)) d (kk H locs ls hP hD hS hl)
theorem g_mmax (C : Cx p s m args meth c E A nL cc Ts own) {a b r : Int} {idx : Nat} (ha : bi a) (hb : bi b) (hr : (if a < b then b else a) = r) (hw : Cond.methodLink own idx Lib.Math.max.name ∈ Ts ∧ Cond.static Lib.Math.max.name ∈ Ts ∧ Cond.initialized "java/lang/Math" ∈ Ts ∧ Cond.code Lib.Math.max.name Lib.Math.max.code 2 (some .int) ∈ Ts) (hR : 1 ≤ R.frames ∧ (st.map fun v => v.category).sum + 13 ≤ R.locals ∧ k ≤ R.cells ∧ n ≤ R.slots) (d : decode cc pc = .ok (.invokestatic idx, 3)) (hn : pc + 3 = pc') (kk : G p l e R s m args below meth c Q E A nL k n ws lv pc' (.int (I32 r) :: st)) : G p l e R s m args below meth c Q E A nL k n ws lv pc (.int (I32 b) :: .int (I32 a) :: st) := by
  subst hn; subst hr; intro H locs ls hP hD hS hl
  have kk := kk H locs ls hP hD hS hl
  rw [show I32 (if a < b then b else a) = (if I32 a < I32 b then I32 b else I32 a) by simp only [i_lt ha hb, i_lt hb ha]; split <;> rfl] at kk
  exact va_mmax C.1.1 C.1.2.1 (by rw [C.1.2.2.1]; exact hl.1.symm) C.1.2.2.2.1 (C.1.2.2.2.2 _ hw.1) (C.1.2.2.2.2 _ hw.2.1) (C.1.2.2.2.2 _ hw.2.2.1) (C.1.2.2.2.2 _ hw.2.2.2) hR.1 hR.2.1 hR.2.2.1 hR.2.2.2 d kk
theorem g_mmin (C : Cx p s m args meth c E A nL cc Ts own) {a b r : Int} {idx : Nat} (ha : bi a) (hb : bi b) (hr : (if b < a then b else a) = r) (hw : Cond.methodLink own idx Lib.Math.min.name ∈ Ts ∧ Cond.static Lib.Math.min.name ∈ Ts ∧ Cond.initialized "java/lang/Math" ∈ Ts ∧ Cond.code Lib.Math.min.name Lib.Math.min.code 2 (some .int) ∈ Ts) (hR : 1 ≤ R.frames ∧ (st.map fun v => v.category).sum + 13 ≤ R.locals ∧ k ≤ R.cells ∧ n ≤ R.slots) (d : decode cc pc = .ok (.invokestatic idx, 3)) (hn : pc + 3 = pc') (kk : G p l e R s m args below meth c Q E A nL k n ws lv pc' (.int (I32 r) :: st)) : G p l e R s m args below meth c Q E A nL k n ws lv pc (.int (I32 b) :: .int (I32 a) :: st) := by
  subst hn; subst hr; intro H locs ls hP hD hS hl
  have kk := kk H locs ls hP hD hS hl
  rw [show I32 (if b < a then b else a) = (if I32 b < I32 a then I32 b else I32 a) by simp only [i_lt ha hb, i_lt hb ha]; split <;> rfl] at kk
  exact va_mmin C.1.1 C.1.2.1 (by rw [C.1.2.2.1]; exact hl.1.symm) C.1.2.2.2.1 (C.1.2.2.2.2 _ hw.1) (C.1.2.2.2.2 _ hw.2.1) (C.1.2.2.2.2 _ hw.2.2.1) (C.1.2.2.2.2 _ hw.2.2.2) hR.1 hR.2.1 hR.2.2.1 hR.2.2.2 d kk
theorem g_mmaxl (C : Cx p s m args meth c E A nL cc Ts own) {a b r : Int} {idx : Nat} (ha : bl a) (hb : bl b) (hr : (if a < b then b else a) = r) (hw : Cond.methodLink own idx Lib.MathLoose.max_long.x ∈ Ts ∧ Cond.static Lib.MathLoose.max_long.x ∈ Ts ∧ Cond.initialized "java/lang/Math" ∈ Ts ∧ Cond.code Lib.MathLoose.max_long.x Lib.MathLoose.max_long.code 4 (some .long) ∈ Ts) (hR : 1 ≤ R.frames ∧ (st.map fun v => v.category).sum + 15 ≤ R.locals ∧ k ≤ R.cells ∧ n ≤ R.slots) (d : decode cc pc = .ok (.invokestatic idx, 3)) (hn : pc + 3 = pc') (kk : G p l e R s m args below meth c Q E A nL k n ws lv pc' (.long (I64 r) :: st)) : G p l e R s m args below meth c Q E A nL k n ws lv pc (.long (I64 b) :: .long (I64 a) :: st) := by
  subst hn; subst hr; intro H locs ls hP hD hS hl
  have kk := kk H locs ls hP hD hS hl
  have e9 : I64 (if a < b then b else a) = (if I64 b < I64 a then I64 a else I64 b) := by
    rcases Int.lt_trichotomy a b with q | q | q
    · rw [if_pos q, if_neg (fun z => by have := (l_lt hb ha).mp z; omega)]
    · rw [if_neg (by omega), if_neg (fun z => by have := (l_lt hb ha).mp z; omega), q]
    · rw [if_neg (by omega), if_pos ((l_lt hb ha).mpr q)]
  rw [e9] at kk
  exact va_mmax_long C.1.1 C.1.2.1 (by rw [C.1.2.2.1]; exact hl.1.symm) C.1.2.2.2.1 (C.1.2.2.2.2 _ hw.1) (C.1.2.2.2.2 _ hw.2.1) (C.1.2.2.2.2 _ hw.2.2.1) (C.1.2.2.2.2 _ hw.2.2.2) hR.1 hR.2.1 hR.2.2.1 hR.2.2.2 d kk
theorem g_mminl (C : Cx p s m args meth c E A nL cc Ts own) {a b r : Int} {idx : Nat} (ha : bl a) (hb : bl b) (hr : (if b < a then b else a) = r) (hw : Cond.methodLink own idx Lib.MathLoose.min_long.x ∈ Ts ∧ Cond.static Lib.MathLoose.min_long.x ∈ Ts ∧ Cond.initialized "java/lang/Math" ∈ Ts ∧ Cond.code Lib.MathLoose.min_long.x Lib.MathLoose.min_long.code 4 (some .long) ∈ Ts) (hR : 1 ≤ R.frames ∧ (st.map fun v => v.category).sum + 15 ≤ R.locals ∧ k ≤ R.cells ∧ n ≤ R.slots) (d : decode cc pc = .ok (.invokestatic idx, 3)) (hn : pc + 3 = pc') (kk : G p l e R s m args below meth c Q E A nL k n ws lv pc' (.long (I64 r) :: st)) : G p l e R s m args below meth c Q E A nL k n ws lv pc (.long (I64 b) :: .long (I64 a) :: st) := by
  subst hn; subst hr; intro H locs ls hP hD hS hl
  have kk := kk H locs ls hP hD hS hl
  have e9 : I64 (if b < a then b else a) = (if I64 b < I64 a then I64 b else I64 a) := by
    simp only [l_lt hb ha]; split <;> rfl
  rw [e9] at kk
  exact va_mmin_long C.1.1 C.1.2.1 (by rw [C.1.2.2.1]; exact hl.1.symm) C.1.2.2.2.1 (C.1.2.2.2.2 _ hw.1) (C.1.2.2.2.2 _ hw.2.1) (C.1.2.2.2.2 _ hw.2.2.1) (C.1.2.2.2.2 _ hw.2.2.2) hR.1 hR.2.1 hR.2.2.1 hR.2.2.2 d kk
theorem g_mabsl (C : Cx p s m args meth c E A nL cc Ts own) {a r : Int} {idx : Nat} (ha : bl a)  (hr : (if 0 < a then a else -a) = r) (hw : Cond.methodLink own idx Lib.MathLoose.abs_long.x ∈ Ts ∧ Cond.static Lib.MathLoose.abs_long.x ∈ Ts ∧ Cond.initialized "java/lang/Math" ∈ Ts ∧ Cond.code Lib.MathLoose.abs_long.x Lib.MathLoose.abs_long.code 2 (some .long) ∈ Ts) (hR : 1 ≤ R.frames ∧ (st.map fun v => v.category).sum + 13 ≤ R.locals ∧ k ≤ R.cells ∧ n ≤ R.slots) (d : decode cc pc = .ok (.invokestatic idx, 3)) (hn : pc + 3 = pc') (kk : G p l e R s m args below meth c Q E A nL k n ws lv pc' (.long (I64 r) :: st)) : G p l e R s m args below meth c Q E A nL k n ws lv pc (.long (I64 a) :: st) := by
  subst hn; subst hr; intro H locs ls hP hD hS hl
  have kk := kk H locs ls hP hD hS hl
  have e9 : I64 (if 0 < a then a else -a) = (if 0 < I64 a then I64 a else -I64 a) := by
    have e := l_lt b0l ha; rw [show I64 0 = 0 from rfl] at e; simp only [e]; split; · rfl
    · exact Int64.ofInt_neg a
  rw [e9] at kk
  exact va_mabs_long C.1.1 C.1.2.1 (by rw [C.1.2.2.1]; exact hl.1.symm) C.1.2.2.2.1 (C.1.2.2.2.2 _ hw.1) (C.1.2.2.2.2 _ hw.2.1) (C.1.2.2.2.2 _ hw.2.2.1) (C.1.2.2.2.2 _ hw.2.2.2) hR.1 hR.2.1 hR.2.2.1 hR.2.2.2 d kk
/-- what System.arraycopy lays: n places from sp on into those from dp on -/
def cpyT (a b : Int → Int) (sp dp n : Int) : Int → Int := fun j => if dp ≤ j ∧ j < dp + n then a (sp + (j - dp)) else b j
theorem cpy_I {a b : Int → Int} {N0 N1 : Nat} {sp dp n : Int} (h1 : 0 ≤ sp) (h2 : 0 ≤ dp) (h3 : 0 ≤ n) (h4 : sp + n ≤ N0) (h5 : dp + n ≤ N1) : va_cpy (AI N0 a) (AI N1 b) sp.toNat dp.toNat n.toNat = AI N1 (cpyT a b sp dp n) := by
  funext j
  unfold va_cpy AI cpyT
  by_cases q : dp.toNat ≤ j ∧ j < dp.toNat + n.toNat
  · rw [if_pos q, if_pos (by omega), if_pos (by omega), if_pos (by omega), show ((sp.toNat + (j - dp.toNat) : Nat) : Int) = sp + ((j : Int) - dp) by omega]
  · rw [if_neg q]; split
    · rw [if_neg (by omega)]
    · rfl
theorem g_copy (C : Cx p s m args meth c E A nL cc Ts own) {q0a q1a N0 N1 idx : Nat} {a b : Int → Int} {sp dp n2 : Int} {ty : FieldType} {cA : ClassId} {ws' : va_W} (q0 q1 t0 : Nat) (he0 : ws[q0]? = some (q0a, .inl (cA, N0, .inl (AI N0 a)))) (he1 : ws[q1]? = some (q1a, .inl (cA, N1, .inl (AI N1 b)))) (ht : (tysE E)[t0]? = some (cA, ty)) (hp : refKind ty = false) (h1 : 0 ≤ sp) (h2 : 0 ≤ dp) (h3 : 0 ≤ n2) (h4 : sp + n2 ≤ N0) (h5 : dp + n2 ≤ N1) (hN : N0 < 2147483648 ∧ N1 < 2147483648) (hfit : ∀ i : Nat, i < n2.toNat → fits ty (.int (AI N0 a (sp.toNat + i))) = true) (hw : Cond.methodLink own idx arraycopyName ∈ Ts ∧ Cond.native arraycopyName ∈ Ts ∧ Cond.static arraycopyName ∈ Ts ∧ Cond.initialized "java/lang/System" ∈ Ts) (hR : 1 ≤ R.frames ∧ (st.map fun v => v.category).sum + (nativeFrameWords "java/lang/System" "arraycopy" 5 + 11) ≤ R.locals) (hws : ws.set q1 (q1a, .inl (cA, N1, .inl (AI N1 (cpyT a b sp dp n2)))) = ws') (d : decode cc pc = .ok (.invokestatic idx, 3)) (hn : pc + 3 = pc') (kk : G p l e R s m args below meth c Q E A nL k n ws' lv pc' st) : G p l e R s m args below meth c Q E A nL k n ws lv pc (.int (I32 n2) :: .int (I32 dp) :: .ref q1a :: .int (I32 sp) :: .ref q0a :: st) := by
  subst hn; subst hws; intro H locs ls hP hD hS hl
  have e1 : bi sp := ⟨by omega, by omega⟩
  have e2 : bi dp := ⟨by omega, by omega⟩
  have e3 : bi n2 := ⟨by omega, by omega⟩
  refine va_copyi C.1.1 C.1.2.1 (by rw [C.1.2.2.1]; exact hl.1.symm) C.1.2.2.2.1 (C.1.2.2.2.2 _ hw.1) (C.1.2.2.2.2 _ hw.2.1) (C.1.2.2.2.2 _ hw.2.2.1) (C.1.2.2.2.2 _ hw.2.2.2) C.2.1.1 hP hD hS q0 q1 t0 t0 he0 he1 ht ht hp (by rw [i_z, i_lt e1 b0]; omega) (by rw [i_z, i_lt e2 b0]; omega) (by rw [i_z, i_lt e3 b0]; omega) (by rw [i_cl e1, i_cl e3]; omega) (by rw [i_cl e2, i_cl e3]; omega) (by rw [i_cl e1, i_cl e3]; exact hfit) hR.1 hR.2 d (fun H1 locs1 hP hD hS => ?_)
  rw [i_cl e1, i_cl e2, i_cl e3, cpy_I h1 h2 h3 h4 h5] at hP hD
  exact kk H1 locs1 ls hP hD hS hl
section RET
variable {Post : Option Value → va_W → Prop} {mc ms : Nat}
theorem g_iret (C : Cx p s m args meth c E A nL cc Ts own) {x : Int32} {ty : FieldType} (hr : meth.sig.returnType = some ty) (hna : narrow ty (.int x) = .int x) (h1 : k ≤ mc) (h2 : n ≤ ms) (d : decode cc pc = .ok (.ireturn, 1)) (hp : Post (some (.int x)) ws) : G p l e R s m args below meth c (RQ E Post A below args s mc ms) E A nL k n ws lv pc [.int x] := by
  intro H locs ls hP hD hS hl
  refine W.widen h1 h2 ?_
  have hlk := C.2.2.2.2
  exact W.zret C.1.1 C.1.2.1 hr hna (fun t ht hW => ⟨⟨_, ws, rfl, hp, by rw [ht]; exact hP, hD⟩, hS.F ht⟩) hS.2.2 d hlk
theorem g_lret (C : Cx p s m args meth c E A nL cc Ts own) {x : Int64} (hr : meth.sig.returnType = some .long) (h1 : k ≤ mc) (h2 : n ≤ ms) (d : decode cc pc = .ok (.lreturn, 1)) (hp : Post (some (.long x)) ws) : G p l e R s m args below meth c (RQ E Post A below args s mc ms) E A nL k n ws lv pc [.long x] := by
  intro H locs ls hP hD hS hl
  refine W.widen h1 h2 ?_
  have hlk := C.2.2.2.2
  exact W.lret C.1.1 C.1.2.1 hr (fun t ht hW => ⟨⟨_, ws, rfl, hp, by rw [ht]; exact hP, hD⟩, hS.F ht⟩) hS.2.2 d hlk
theorem g_vret (C : Cx p s m args meth c E A nL cc Ts own) (hr : meth.sig.returnType = none) (h1 : k ≤ mc) (h2 : n ≤ ms) (d : decode cc pc = .ok (.return_, 1)) (hp : Post none ws) : G p l e R s m args below meth c (RQ E Post A below args s mc ms) E A nL k n ws lv pc [] := by
  intro H locs ls hP hD hS hl
  refine W.widen h1 h2 ?_
  have hlk := C.2.2.2.2
  exact W.vret C.1.1 C.1.2.1 hr (fun t ht hW => ⟨⟨_, ws, rfl, hp, by rw [ht]; exact hP, hD⟩, hS.F ht⟩) hS.2.2 d hlk
theorem g_aret (C : Cx p s m args meth c E A nL cc Ts own) {a : Nat} {rt : FieldType} (hr : meth.sig.returnType = some rt) (hrt : (∃ n, rt = .object n) ∨ ∃ t, rt = .array t) (h1 : k ≤ mc) (h2 : n ≤ ms) (d : decode cc pc = .ok (.areturn, 1)) (hp : Post (some (.ref a)) ws) : G p l e R s m args below meth c (RQ E Post A below args s mc ms) E A nL k n ws lv pc [.ref a] := by
  intro H locs ls hP hD hS hl
  refine W.widen h1 h2 ?_
  have hlk := C.2.2.2.2
  exact W.aret C.1.1 C.1.2.1 hr hrt (Or.inr ⟨a, rfl⟩) (fun t ht hW => ⟨⟨_, ws, rfl, hp, by rw [ht]; exact hP, hD⟩, hS.F ht⟩) hS.2.2 d hlk
end RET
section CALLS
variable {y : MethodName} {bytes : ByteArray} {maxL mc ms idx na k' n' : Nat} {ret : Option FieldType} {wy wy' : List Cond} {rm : Room} {Post : Option Value → va_W → Prop} {wc wr : va_W} {As : List Value} {b : Nat}
theorem McP.blind {sz : Nat} : FrameBlind (McP E wc As sz) := fun a U g mk q => ⟨q.1, q.2.1, q.2.2.1, q.2.2.2.1, EVt.same (u := U) (U := U.calling g mk a) rfl q.2.2.2.2.1, EVs.moved (u := U) (U := U.calling g mk a) (Vm.Alike.refl U.vm) q.2.2.2.2.2⟩
theorem McP.at (C : Cx p s m args meth c E A nL cc Ts own) {H : Heap} {locs : List Loc} (hP : va_P E.1 vwCl wc H) (hD : va_D (fun _ => True) wc) (hS : va_S A s.heap H locs) (hF : ∀ q, va_A wc H.size q → A q) : ∀ U : State, U.heap = H → s.WarmedH U.vm → McP E wc As H.size As.toArray U := by
  intro U hU hW
  refine ⟨rfl, by rw [hU], by rw [hU]; exact hP, hD, C.2.1.warm hW, ?_⟩
  rw [hU]
  have h1 : EVs E A s H := C.2.2.1.kept (fun a h g => hS.2.1 a h g)
  exact (h1.narrow hF).moved hW.alike
/-- behind a call -/
theorem g_back (C : Cx p s m args meth c E A nL cc Ts own) {H : Heap} {locs : List Loc} {ls : Array Slot} {st0 : List Value} {a : Array Value} (hP : va_P E.1 vwCl ws H) (hD : va_D A ws) (hS : va_S A s.heap H locs) (hl : lv_has ls nL lv) (isC isR : List Nat) (hC : isC.map (fun i => ws[i]?) = wc.map some) (hR : isR.map (fun i => ws[i]?) = wr.map some) (hnd : va_nd isR = true) (hdis : ∀ i ∈ isR, i ∉ isC)
    (hrun : va_Run p l e R s m args below meth c H locs k n mc ms (F0 m pc ls st0) st (McQ E Post (va_A wc H.size) a) (va_A wc H.size)) (hk : k + mc = k') (hns : n + ms = n') (hn : pc + 3 = pc')
    (kk : ∀ (v : Option Value) (w1 : va_W), Post v w1 → G p l e R s m args below meth c Q E A nL k' n' (wr ++ w1) lv pc' (v.toList ++ st)) : W p l e R s m args below meth c H locs k n Q (F0 m pc ls st0) := by
  subst hk; subst hns; subst hn
  have hF := va_free hD hS C.2.2.2.1 isC hC
  intro T hT X
  obtain ⟨v, st₀, t, T', L, h0, X', hL, e1, e2, ⟨⟨v', w1, hv, hp, hP1, hD1⟩, hz, hk⟩, stp⟩ := hrun T hT X
  cases hv
  rw [h0] at hz hk
  have hS1 : va_S A s.heap T'.heap (locs ++ L) := ⟨Nat.le_trans hS.1 (by rw [e1]; exact hz), fun q h1 h2 => by
      rw [e1, hk q (Nat.lt_of_lt_of_le h1 hS.1) (fun z => h2 (hF q z))]; exact hS.2.1 q h1 h2, fun q hq => by
      rcases List.mem_append.mp hq with h | h
      · exact hS.2.2 q h
      · exact hF _ (hL q h)⟩
  obtain ⟨hP2, hD2⟩ := va_join (H1 := T'.heap) hP hD isC isR hC hR hnd hdis (fun q h1 h2 => by rw [e1]; exact hk q h1 h2) hF (by rw [e1]; exact hP1) hD1
  obtain ⟨t2, a1, b1⟩ := kk v w1 hp T'.heap (locs ++ L) ls hP2 hD2 hS1 hl T' rfl X'
  exact ⟨t2, stp t2 a1, b1⟩
theorem g_callV (C : Cx p s m args meth c E A nL cc Ts own) (hT : GoodIn Ts (wsV own idx y.cls y wy)) {q9 ci : Nat} {T : u_T} {N : Nat} {fs : List Value} (hrc : wc[q9]? = some (b, .inr (ci, fs))) (hci : vwCl[ci]? = some (y.cls, T, N)) (hw : wy = Cond.code y bytes maxL ret :: wy') (hM : Mc l y wy rm E (.ref b :: As) wc mc ms Post) (hyd : y.cls ≠ "java/lang/invoke/MethodHandle" ∧ y.cls ≠ "java/lang/invoke/VarHandle" ∧ (parseMethodDescriptor y.desc).map (fun d => d.parameters.length) = some na) (hna : As.length = na) (isC isR : List Nat) (hC : isC.map (fun i => ws[i]?) = wc.map some) (hCf : isC.filterMap (fun i => ws[i]?) = wc) (hndC : va_nd isC = true) (hRr : isR.map (fun i => ws[i]?) = wr.map some) (hnd : va_nd isR = true) (hdis : ∀ i ∈ isR, i ∉ isC) (hrm : rm.cells = mc ∧ rm.slots = ms) (hroom : rm.frames + 1 ≤ R.frames ∧ 8 + (maxL + 11) + rm.locals ≤ R.locals ∧ k + mc ≤ R.cells ∧ n + ms ≤ R.slots) (hst : (st.map fun v => v.category).sum ≤ 8) (d : decode cc pc = .ok (.invokevirtual idx, 3)) (hk : k + mc = k') (hns : n + ms = n') (hn : pc + 3 = pc')
    (kk : ∀ (v : Option Value) (w1 : va_W), Post v w1 → G p l e R s m args below meth c Q E A nL k' n' (wr ++ w1) lv pc' (v.toList ++ st)) : G p l e R s m args below meth c Q E A nL k n ws lv pc (As.reverse ++ .ref b :: st) := by
  intro H locs ls hP hD hS hl
  have hPc := hP.sub isC hCf
  have hDc := hD.sub isC hndC hC
  have hF := va_free hD hS C.2.2.2.1 isC hC
  have hpre := McP.at (As := .ref b :: As) C hPc (hDc.weaken (fun _ _ _ _ => trivial)) hS hF
  refine g_back (a := (.ref b :: As).toArray) C hP hD hS hl isC isR hC hRr hnd hdis ?_ hk hns hn kk
  exact va_runV (As := As) C.1 (hM H.size) (cwV na C.1.2.2.2.2 hT hw hrm.1 hrm.2 ⟨rfl, hyd⟩ ⟨hroom.1, hroom.2.1⟩) ⟨McP.blind, va_recv C.2.1.1 hPc hci hrc, hpre⟩ rfl hna hl.1 rfl (by show 2 * 0 + _ ≤ 8; omega) d ⟨hroom.2.2.1, hroom.2.2.2⟩
theorem g_callS (C : Cx p s m args meth c E A nL cc Ts own) (hT : GoodIn Ts (va_wsS own idx y wy)) (hw : wy = Cond.code y bytes maxL ret :: wy') (hM : Mc l y wy rm E (As) wc mc ms Post) (hyd : y.cls ≠ "java/lang/invoke/MethodHandle" ∧ y.cls ≠ "java/lang/invoke/VarHandle" ∧ (parseMethodDescriptor y.desc).map (fun d => d.parameters.length) = some na) (hna : As.length = na) (isC isR : List Nat) (hC : isC.map (fun i => ws[i]?) = wc.map some) (hCf : isC.filterMap (fun i => ws[i]?) = wc) (hndC : va_nd isC = true) (hRr : isR.map (fun i => ws[i]?) = wr.map some) (hnd : va_nd isR = true) (hdis : ∀ i ∈ isR, i ∉ isC) (hrm : rm.cells = mc ∧ rm.slots = ms) (hroom : rm.frames + 1 ≤ R.frames ∧ 8 + (maxL + 11) + rm.locals ≤ R.locals ∧ k + mc ≤ R.cells ∧ n + ms ≤ R.slots) (hst : (st.map fun v => v.category).sum ≤ 8) (d : decode cc pc = .ok (.invokestatic idx, 3)) (hk : k + mc = k') (hns : n + ms = n') (hn : pc + 3 = pc')
    (kk : ∀ (v : Option Value) (w1 : va_W), Post v w1 → G p l e R s m args below meth c Q E A nL k' n' (wr ++ w1) lv pc' (v.toList ++ st)) : G p l e R s m args below meth c Q E A nL k n ws lv pc (As.reverse ++ st) := by
  intro H locs ls hP hD hS hl
  have hPc := hP.sub isC hCf
  have hDc := hD.sub isC hndC hC
  have hF := va_free hD hS C.2.2.2.1 isC hC
  have hpre := McP.at (As := As) C hPc (hDc.weaken (fun _ _ _ _ => trivial)) hS hF
  refine g_back (a := (As).toArray) C hP hD hS hl isC isR hC hRr hnd hdis ?_ hk hns hn kk
  exact va_runS (As := As) C.1 (hM H.size) (va_cwS na C.1.2.2.2.2 hT hw hrm.1 hrm.2 hyd ⟨hroom.1, hroom.2.1⟩) ⟨McP.blind, hpre⟩ rfl hna hl.1 rfl (by show 2 * 0 + _ ≤ 8; omega) d ⟨hroom.2.2.1, hroom.2.2.2⟩
theorem g_callI (C : Cx p s m args meth c E A nL cc Ts own) (hT : GoodIn Ts wy) (hin : Cond.initialized y.cls ∈ Ts ∧ Cond.methodLink own idx y ∈ Ts ∧ Cond.instanceMethod y ∈ Ts) (hy1 : y.name = "<init>") (hw : wy = Cond.code y bytes maxL none :: wy') (hM : Mc l y wy rm E (.ref b :: As) wc mc ms Post) (hyd : y.cls ≠ "java/lang/invoke/MethodHandle" ∧ y.cls ≠ "java/lang/invoke/VarHandle" ∧ (parseMethodDescriptor y.desc).map (fun d => d.parameters.length) = some na) (hna : As.length = na) (isC isR : List Nat) (hC : isC.map (fun i => ws[i]?) = wc.map some) (hCf : isC.filterMap (fun i => ws[i]?) = wc) (hndC : va_nd isC = true) (hRr : isR.map (fun i => ws[i]?) = wr.map some) (hnd : va_nd isR = true) (hdis : ∀ i ∈ isR, i ∉ isC) (hrm : rm.cells = mc ∧ rm.slots = ms) (hroom : rm.frames + 1 ≤ R.frames ∧ 8 + (maxL + 11) + rm.locals ≤ R.locals ∧ k + mc ≤ R.cells ∧ n + ms ≤ R.slots) (hst : (st.map fun v => v.category).sum ≤ 8) (d : decode cc pc = .ok (.invokespecial idx, 3)) (hk : k + mc = k') (hns : n + ms = n') (hn : pc + 3 = pc')
    (kk : ∀ (v : Option Value) (w1 : va_W), Post v w1 → G p l e R s m args below meth c Q E A nL k' n' (wr ++ w1) lv pc' (v.toList ++ st)) : G p l e R s m args below meth c Q E A nL k n ws lv pc (As.reverse ++ .ref b :: st) := by
  intro H locs ls hP hD hS hl
  have hPc := hP.sub isC hCf
  have hDc := hD.sub isC hndC hC
  have hF := va_free hD hS C.2.2.2.1 isC hC
  have hpre := McP.at (As := .ref b :: As) C hPc (hDc.weaken (fun _ _ _ _ => trivial)) hS hF
  refine g_back (a := (.ref b :: As).toArray) C hP hD hS hl isC isR hC hRr hnd hdis ?_ hk hns hn kk
  exact va_runI (As := As) C.1 (hM H.size) (cwI na C.1.2.2.2.2 hT hw hrm.1 hrm.2 (C.1.2.2.2.2 _ hin.1) (C.1.2.2.2.2 _ hin.2.1) (C.1.2.2.2.2 _ hin.2.2) hy1 hyd ⟨hroom.1, hroom.2.1⟩) ⟨McP.blind, hpre⟩ rfl hna hl.1 rfl (by show 2 * 0 + _ ≤ 8; omega) d ⟨hroom.2.2.1, hroom.2.2.2⟩
theorem g_callIN (C : Cx p s m args meth c E A nL cc Ts own) {host : String} (hT : GoodIn Ts wy) (hnw : Cond.methodLinkNest own idx y host ∈ nwl) (hin : Cond.initialized y.cls ∈ Ts ∧ Cond.instanceMethod y ∈ Ts) (hy1 : y.name = "<init>") (hw : wy = Cond.code y bytes maxL none :: wy') (hM : Mc l y wy rm E (.ref b :: As) wc mc ms Post) (hyd : y.cls ≠ "java/lang/invoke/MethodHandle" ∧ y.cls ≠ "java/lang/invoke/VarHandle" ∧ (parseMethodDescriptor y.desc).map (fun d => d.parameters.length) = some na) (hna : As.length = na) (isC isR : List Nat) (hC : isC.map (fun i => ws[i]?) = wc.map some) (hCf : isC.filterMap (fun i => ws[i]?) = wc) (hndC : va_nd isC = true) (hRr : isR.map (fun i => ws[i]?) = wr.map some) (hnd : va_nd isR = true) (hdis : ∀ i ∈ isR, i ∉ isC) (hrm : rm.cells = mc ∧ rm.slots = ms) (hroom : rm.frames + 1 ≤ R.frames ∧ 8 + (maxL + 11) + rm.locals ≤ R.locals ∧ k + mc ≤ R.cells ∧ n + ms ≤ R.slots) (hst : (st.map fun v => v.category).sum ≤ 8) (d : decode cc pc = .ok (.invokespecial idx, 3)) (hk : k + mc = k') (hns : n + ms = n') (hn : pc + 3 = pc')
    (kk : ∀ (v : Option Value) (w1 : va_W), Post v w1 → G p l e R s m args below meth c Q E A nL k' n' (wr ++ w1) lv pc' (v.toList ++ st)) : G p l e R s m args below meth c Q E A nL k n ws lv pc (As.reverse ++ .ref b :: st) := by
  intro H locs ls hP hD hS hl
  have hPc := hP.sub isC hCf
  have hDc := hD.sub isC hndC hC
  have hF := va_free hD hS C.2.2.2.1 isC hC
  have hpre := McP.at (As := .ref b :: As) C hPc (hDc.weaken (fun _ _ _ _ => trivial)) hS hF
  refine g_back (a := (.ref b :: As).toArray) C hP hD hS hl isC isR hC hRr hnd hdis ?_ hk hns hn kk
  exact va_runIN (As := As) C.1 (hM H.size) ⟨va_cnB na C.1.2.2.2.2 hT hw hrm.1 hrm.2 (C.2.1.2.1 _ hnw) (C.1.2.2.2.2 _ hin.1) hyd ⟨hroom.1, hroom.2.1⟩, hy1, C.1.2.2.2.2 _ hin.2⟩ ⟨McP.blind, hpre⟩ rfl hna hl.1 rfl (by show 2 * 0 + _ ≤ 8; omega) d ⟨hroom.2.2.1, hroom.2.2.2⟩
theorem g_callSN (C : Cx p s m args meth c E A nL cc Ts own) {host : String} (hT : GoodIn Ts wy) (hnw : Cond.methodLinkNest own idx y host ∈ nwl) (hin : Cond.initialized y.cls ∈ Ts ∧ Cond.static y ∈ Ts) (hw : wy = Cond.code y bytes maxL ret :: wy') (hM : Mc l y wy rm E As wc mc ms Post) (hyd : y.cls ≠ "java/lang/invoke/MethodHandle" ∧ y.cls ≠ "java/lang/invoke/VarHandle" ∧ (parseMethodDescriptor y.desc).map (fun d => d.parameters.length) = some na) (hna : As.length = na) (isC isR : List Nat) (hC : isC.map (fun i => ws[i]?) = wc.map some) (hCf : isC.filterMap (fun i => ws[i]?) = wc) (hndC : va_nd isC = true) (hRr : isR.map (fun i => ws[i]?) = wr.map some) (hnd : va_nd isR = true) (hdis : ∀ i ∈ isR, i ∉ isC) (hrm : rm.cells = mc ∧ rm.slots = ms) (hroom : rm.frames + 1 ≤ R.frames ∧ 8 + (maxL + 11) + rm.locals ≤ R.locals ∧ k + mc ≤ R.cells ∧ n + ms ≤ R.slots) (hst : (st.map fun v => v.category).sum ≤ 8) (d : decode cc pc = .ok (.invokestatic idx, 3)) (hk : k + mc = k') (hns : n + ms = n') (hn : pc + 3 = pc')
    (kk : ∀ (v : Option Value) (w1 : va_W), Post v w1 → G p l e R s m args below meth c Q E A nL k' n' (wr ++ w1) lv pc' (v.toList ++ st)) : G p l e R s m args below meth c Q E A nL k n ws lv pc (As.reverse ++ st) := by
  intro H locs ls hP hD hS hl
  have hPc := hP.sub isC hCf
  have hDc := hD.sub isC hndC hC
  have hF := va_free hD hS C.2.2.2.1 isC hC
  have hpre := McP.at (As := As) C hPc (hDc.weaken (fun _ _ _ _ => trivial)) hS hF
  refine g_back (a := As.toArray) C hP hD hS hl isC isR hC hRr hnd hdis ?_ hk hns hn kk
  exact va_runSN (As := As) C.1 (hM H.size) ⟨va_cnB na C.1.2.2.2.2 hT hw hrm.1 hrm.2 (C.2.1.2.1 _ hnw) (C.1.2.2.2.2 _ hin.1) hyd ⟨hroom.1, hroom.2.1⟩, C.1.2.2.2.2 _ hin.2, trivial⟩ ⟨McP.blind, hpre⟩ rfl hna hl.1 rfl (by show 2 * 0 + _ ≤ 8; omega) d ⟨hroom.2.2.1, hroom.2.2.2⟩
/-- inherited methods, by a receiver of the class cn; super.m(..) -/
theorem g_callU (C : Cx p s m args meth c E A nL cc Ts own) {cn owner : String} {x : MethodName} (hT : GoodIn Ts (va_wsU own idx cn owner x y wy)) {q9 ci : Nat} {T : u_T} {N : Nat} {fs : List Value} (hrc : wc[q9]? = some (b, .inr (ci, fs))) (hci : vwCl[ci]? = some (cn, T, N)) (hyx : y = ⟨owner, x.name, x.desc⟩) (hw : wy = Cond.code y bytes maxL ret :: wy') (hM : Mc l y wy rm E (.ref b :: As) wc mc ms Post) (hyd : owner ≠ "java/lang/invoke/MethodHandle" ∧ owner ≠ "java/lang/invoke/VarHandle" ∧ (parseMethodDescriptor x.desc).map (fun d => d.parameters.length) = some na) (hna : As.length = na) (isC isR : List Nat) (hC : isC.map (fun i => ws[i]?) = wc.map some) (hCf : isC.filterMap (fun i => ws[i]?) = wc) (hndC : va_nd isC = true) (hRr : isR.map (fun i => ws[i]?) = wr.map some) (hnd : va_nd isR = true) (hdis : ∀ i ∈ isR, i ∉ isC) (hrm : rm.cells = mc ∧ rm.slots = ms) (hroom : rm.frames + 1 ≤ R.frames ∧ 8 + (maxL + 11) + rm.locals ≤ R.locals ∧ k + mc ≤ R.cells ∧ n + ms ≤ R.slots) (hst : (st.map fun v => v.category).sum ≤ 8) (d : decode cc pc = .ok (.invokevirtual idx, 3)) (hk : k + mc = k') (hns : n + ms = n') (hn : pc + 3 = pc')
    (kk : ∀ (v : Option Value) (w1 : va_W), Post v w1 → G p l e R s m args below meth c Q E A nL k' n' (wr ++ w1) lv pc' (v.toList ++ st)) : G p l e R s m args below meth c Q E A nL k n ws lv pc (As.reverse ++ .ref b :: st) := by
  intro H locs ls hP hD hS hl
  have hPc := hP.sub isC hCf
  have hDc := hD.sub isC hndC hC
  have hF := va_free hD hS C.2.2.2.1 isC hC
  have hpre := McP.at (As := .ref b :: As) C hPc (hDc.weaken (fun _ _ _ _ => trivial)) hS hF
  refine g_back (a := (.ref b :: As).toArray) C hP hD hS hl isC isR hC hRr hnd hdis ?_ hk hns hn kk
  exact va_runU (As := As) C.1 (hM H.size) (va_cwU na C.1.2.2.2.2 hT hw hrm.1 hrm.2 hyx hyd ⟨hroom.1, hroom.2.1⟩) ⟨McP.blind, va_recv C.2.1.1 hPc hci hrc, hpre⟩ rfl hna hl.1 rfl (by show 2 * 0 + _ ≤ 8; omega) d ⟨hroom.2.2.1, hroom.2.2.2⟩
theorem g_callSU (C : Cx p s m args meth c E A nL cc Ts own) {cn : String} (hT : GoodIn Ts (va_wsSU own idx y wy)) {q9 ci : Nat} {T : u_T} {N : Nat} {fs : List Value} (hrc : wc[q9]? = some (b, .inr (ci, fs))) (hci : vwCl[ci]? = some (cn, T, N)) (hw : wy = Cond.code y bytes maxL ret :: wy') (hM : Mc l y wy rm E (.ref b :: As) wc mc ms Post) (hyd : y.name ≠ "<init>" ∧ (parseMethodDescriptor y.desc).map (fun d => d.parameters.length) = some na) (hna : As.length = na) (isC isR : List Nat) (hC : isC.map (fun i => ws[i]?) = wc.map some) (hCf : isC.filterMap (fun i => ws[i]?) = wc) (hndC : va_nd isC = true) (hRr : isR.map (fun i => ws[i]?) = wr.map some) (hnd : va_nd isR = true) (hdis : ∀ i ∈ isR, i ∉ isC) (hrm : rm.cells = mc ∧ rm.slots = ms) (hroom : rm.frames + 1 ≤ R.frames ∧ 8 + (maxL + 11) + rm.locals ≤ R.locals ∧ k + mc ≤ R.cells ∧ n + ms ≤ R.slots) (hst : (st.map fun v => v.category).sum ≤ 8) (d : decode cc pc = .ok (.invokespecial idx, 3)) (hk : k + mc = k') (hns : n + ms = n') (hn : pc + 3 = pc')
    (kk : ∀ (v : Option Value) (w1 : va_W), Post v w1 → G p l e R s m args below meth c Q E A nL k' n' (wr ++ w1) lv pc' (v.toList ++ st)) : G p l e R s m args below meth c Q E A nL k n ws lv pc (As.reverse ++ .ref b :: st) := by
  intro H locs ls hP hD hS hl
  have hPc := hP.sub isC hCf
  have hDc := hD.sub isC hndC hC
  have hF := va_free hD hS C.2.2.2.1 isC hC
  have hpre := McP.at (As := .ref b :: As) C hPc (hDc.weaken (fun _ _ _ _ => trivial)) hS hF
  refine g_back (a := (.ref b :: As).toArray) C hP hD hS hl isC isR hC hRr hnd hdis ?_ hk hns hn kk
  exact va_runSU (As := As) (C := cn) (cC := E.1.1 ci) ((C.2.1.1.1 ci _ hci).2) C.1 (hM H.size) (va_cwSU na C.1.2.2.2.2 hT hw hrm.1 hrm.2 hyd ⟨hroom.1, hroom.2.1⟩) ⟨McP.blind, va_recv C.2.1.1 hPc hci hrc, hpre⟩ rfl hna hl.1 rfl (by show 2 * 0 + _ ≤ 8; omega) d ⟨hroom.2.2.1, hroom.2.2.2⟩
end CALLS
end ROWS
