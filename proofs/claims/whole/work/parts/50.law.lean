/-! THE LAW: its walk, an operation at a time -/
section LAW
variable {p : Program} {l : Launch} {e : Env} {s : State} {m : MethodId} {args : Array Value} {below : List Frame} {meth : Method} {c : Code} {Q : State → Prop} {E : Ev} {A : Nat → Prop}
abbrev lvL (b qx qm i : Nat) : List (Nat × Value) := [(3, vI (i : Int)), (2, vR qm), (1, vR qx), (0, vR b)]
/-- what the loop carries on -/
def LK (p : Program) (l : Launch) (e : Env) (s : State) (m : MethodId) (args : Array Value) (below : List Frame) (meth : Method) (c : Code) (Q : State → Prop) (E : Ev) (A : Nat → Prop) (b qx qm j pc : Nat) : Prop :=
  ∀ (a tx s3 s4 : Int → Int) (pn : Int) (wx wm : va_W), XS E a tx s3 s4 pn qx wx → MS E a tx s3 s4 pn qm wm → ST a tx s3 s4 pn (5000 * (j : Int)) → G p l e room_1 s m args below meth c Q E A 4 (100 + 40 * j) (3000 + 5000 * j) (wx ++ wm) (lvL b qx qm (6 * j)) pc []
theorem g_icmpS {R : Room} {nL k n pc tgt : Nat} {cc : ByteArray} {Ts : List Cond} {own : String} {ws : va_W} {lv : List (Nat × Value)} {st : List Value} {x : Int32} {off : Int} (C : Cx p s m args meth c E A nL cc Ts own) (d : decode cc pc = .ok (.if_icmp .eq off, 3)) (ht : (pc : Int) + off = (tgt : Int)) (kt : G p l e R s m args below meth c Q E A nL k n ws lv tgt st) : G p l e R s m args below meth c Q E A nL k n ws lv pc (.int x :: .int x :: st) := by
  intro H locs ls hP hD hS hl; exact lv_icmp_eq C.1.1 C.1.2.1 d ht (fun _ => kt H locs ls hP hD hS hl) (fun h => absurd rfl h)
theorem g_lcmpS {R : Room} {nL k n pc pc1 tgt : Nat} {cc : ByteArray} {Ts : List Cond} {own : String} {ws : va_W} {lv : List (Nat × Value)} {st : List Value} {x : Int64} {off : Int} (C : Cx p s m args meth c E A nL cc Ts own) (d1 : decode cc pc = .ok (.lcmp, 1)) (h1 : pc + 1 = pc1) (d : decode cc pc1 = .ok (.ifCond .eq off, 3)) (ht : (pc1 : Int) + off = (tgt : Int)) (kt : G p l e R s m args below meth c Q E A nL k n ws lv tgt st) : G p l e R s m args below meth c Q E A nL k n ws lv pc (.long x :: .long x :: st) := by
  subst h1; intro H locs ls hP hD hS hl
  refine W.lcmp C.1.1 C.1.2.1 d1 ?_
  have hc : lg_cmp x x = 0 := by unfold lg_cmp; rw [if_neg (Int64.lt_irrefl), if_pos rfl]
  exact lv_if_eq C.1.1 C.1.2.1 d ht (fun _ => kt H locs ls hP hD hS hl) (fun h => absurd hc h)
theorem hyL_X10_corner : yX10_corner.cls ≠ "java/lang/invoke/MethodHandle" ∧ yX10_corner.cls ≠ "java/lang/invoke/VarHandle" ∧ (parseMethodDescriptor yX10_corner.desc).map (fun d => d.parameters.length) = some 3 := ⟨by decide +kernel, by decide +kernel, by decide +kernel⟩
theorem hyL_X11_corner : yX11_corner.cls ≠ "java/lang/invoke/MethodHandle" ∧ yX11_corner.cls ≠ "java/lang/invoke/VarHandle" ∧ (parseMethodDescriptor yX11_corner.desc).map (fun d => d.parameters.length) = some 3 := ⟨by decide +kernel, by decide +kernel, by decide +kernel⟩
set_option maxHeartbeats 1000000 in
set_option maxRecDepth 20000 in
theorem lawOp_corner (C : Cx p s m args meth c E A 4 cL_law wsL_law RL) {b L : Nat} {xs : Nat → Int32} (hX : va_X b L xs s s.heap) (hbl : b < s.heap.size) (hbA : ¬ A b) (hL : L ≤ 3072) {j : Nat} (hj : 6 * j + 6 ≤ L) {qx qm : Nat} (kk : ∀ (a tx s3 s4 : Int → Int) (pn : Int) (wx wm : va_W), XS E a tx s3 s4 pn qx wx → MS E a tx s3 s4 pn qm wm → ST a tx s3 s4 pn (5000 * (j : Int) + 5000) → G p l e room_1 s m args below meth c Q E A 4 (100 + 40 * j + 40) (3000 + 5000 * j + 5000) (wx ++ wm) (lvL b qx qm (6 * j)) 1107 []) {a tx s3 s4 : Int → Int} {pn : Int} {wx wm : va_W} (hx : XS E a tx s3 s4 pn qx wx) (hm : MS E a tx s3 s4 pn qm wm) (hS : ST a tx s3 s4 pn (5000 * (j : Int))) : G p l e room_1 s m args below meth c Q E A 4 (100 + 40 * j) (3000 + 5000 * j) (wx ++ wm) (lvL b qx qm (6 * j)) 172 [] := by
  refine g_aload_n C (x := qx) 2 rfl dL_law_172 rfl ?_
  refine g_aload_n C (x := b) 3 rfl dL_law_173 rfl ?_
  refine g_iload_n C 0 rfl dL_law_174 rfl ?_
  refine g_iconst C dL_law_175 rfl ?_
  refine g_iadd C (r := ((6 * j + 1 : Nat) : Int)) (by omega) dL_law_176 rfl ?_
  refine g_sld C hX hbl hbA (i := 6 * j + 1) (by omega) hL dL_law_177 rfl ?_
  refine g_aload_n C (x := b) 3 rfl dL_law_178 rfl ?_
  refine g_iload_n C 0 rfl dL_law_179 rfl ?_
  refine g_iconst C dL_law_180 rfl ?_
  refine g_iadd C (r := ((6 * j + 2 : Nat) : Int)) (by omega) dL_law_181 rfl ?_
  refine g_sld C hX hbl hbA (i := 6 * j + 2) (by omega) hL dL_law_182 rfl ?_
  refine g_aload_n C (x := b) 3 rfl dL_law_183 rfl ?_
  refine g_iload_n C 0 rfl dL_law_184 rfl ?_
  refine g_iconst C dL_law_185 rfl ?_
  refine g_iadd C (r := ((6 * j + 3 : Nat) : Int)) (by omega) dL_law_186 rfl ?_
  refine g_sld C hX hbl hbA (i := 6 * j + 3) (by omega) hL dL_law_187 rfl ?_
  refine g_callW C (b := qx) (As := [vI (sv xs (6 * j + 1)), vI (sv xs (6 * j + 2)), vI (sv xs (6 * j + 3))]) (k' := 100 + 40 * j + 0) (n' := 3000 + 5000 * j + 0) gL_law_X10_corner (ci := 11) (let ⟨fs, h⟩ := XS_mem hx; ⟨fs, List.mem_append_left _ h⟩) rfl rfl (Mc.frame (XB_corner hx hS (by omega) (sv_b xs _) (sv_b xs _) (sv_b xs _)) List.perm_append_comm) hyL_X10_corner rfl ⟨rfl, rfl⟩ ⟨Nat.le_of_ble_eq_true rfl, Nat.le_of_ble_eq_true rfl, (by show 100 + 40 * j + 0 ≤ 600000; omega), (by show 3000 + 5000 * j + 0 ≤ 7302250; omega)⟩ (Nat.le_of_ble_eq_true rfl) dL_law_188 rfl rfl rfl ?_
  rintro v1 w1 ⟨wx1, ⟨rfl, hx1⟩, rfl⟩
  refine g_aload_n C (x := qm) 1 rfl dL_law_191 rfl ?_
  refine g_aload_n C (x := b) 3 rfl dL_law_192 rfl ?_
  refine g_iload_n C 0 rfl dL_law_193 rfl ?_
  refine g_iconst C dL_law_194 rfl ?_
  refine g_iadd C (r := ((6 * j + 1 : Nat) : Int)) (by omega) dL_law_195 rfl ?_
  refine g_sld C hX hbl hbA (i := 6 * j + 1) (by omega) hL dL_law_196 rfl ?_
  refine g_aload_n C (x := b) 3 rfl dL_law_197 rfl ?_
  refine g_iload_n C 0 rfl dL_law_198 rfl ?_
  refine g_iconst C dL_law_199 rfl ?_
  refine g_iadd C (r := ((6 * j + 2 : Nat) : Int)) (by omega) dL_law_200 rfl ?_
  refine g_sld C hX hbl hbA (i := 6 * j + 2) (by omega) hL dL_law_201 rfl ?_
  refine g_aload_n C (x := b) 3 rfl dL_law_202 rfl ?_
  refine g_iload_n C 0 rfl dL_law_203 rfl ?_
  refine g_iconst C dL_law_204 rfl ?_
  refine g_iadd C (r := ((6 * j + 3 : Nat) : Int)) (by omega) dL_law_205 rfl ?_
  refine g_sld C hX hbl hbA (i := 6 * j + 3) (by omega) hL dL_law_206 rfl ?_
  refine g_callW C (b := qm) (As := [vI (sv xs (6 * j + 1)), vI (sv xs (6 * j + 2)), vI (sv xs (6 * j + 3))]) (k' := 100 + 40 * j + 0) (n' := 3000 + 5000 * j + 0) gL_law_X11_corner (ci := 12) (let ⟨fs, h⟩ := MS_mem hm; ⟨fs, List.mem_append_left _ h⟩) rfl rfl (Mc.frame (RB_corner hm hS (by omega) (sv_b xs _) (sv_b xs _) (sv_b xs _)) List.perm_append_comm) hyL_X11_corner rfl ⟨rfl, rfl⟩ ⟨Nat.le_of_ble_eq_true rfl, Nat.le_of_ble_eq_true rfl, (by show 100 + 40 * j + 0 ≤ 600000; omega), (by show 3000 + 5000 * j + 0 ≤ 7302250; omega)⟩ (Nat.le_of_ble_eq_true rfl) dL_law_207 rfl rfl rfl ?_
  rintro v2 w2 ⟨wm1, ⟨rfl, hm1⟩, rfl⟩
  refine g_icmpS C dL_law_210 rfl ?_
  exact g_wid (by omega) (by omega) (kk _ _ _ _ _ _ _ hx1 hm1 (ST_inv hS (inv_corner hS.1)))
theorem hyL_X10_clear : yX10_clear.cls ≠ "java/lang/invoke/MethodHandle" ∧ yX10_clear.cls ≠ "java/lang/invoke/VarHandle" ∧ (parseMethodDescriptor yX10_clear.desc).map (fun d => d.parameters.length) = some 1 := ⟨by decide +kernel, by decide +kernel, by decide +kernel⟩
theorem hyL_X11_clear : yX11_clear.cls ≠ "java/lang/invoke/MethodHandle" ∧ yX11_clear.cls ≠ "java/lang/invoke/VarHandle" ∧ (parseMethodDescriptor yX11_clear.desc).map (fun d => d.parameters.length) = some 1 := ⟨by decide +kernel, by decide +kernel, by decide +kernel⟩
set_option maxHeartbeats 1000000 in
set_option maxRecDepth 20000 in
theorem lawOp_clear (C : Cx p s m args meth c E A 4 cL_law wsL_law RL) {b L : Nat} {xs : Nat → Int32} (hX : va_X b L xs s s.heap) (hbl : b < s.heap.size) (hbA : ¬ A b) (hL : L ≤ 3072) {j : Nat} (hj : 6 * j + 6 ≤ L) {qx qm : Nat} (kk : ∀ (a tx s3 s4 : Int → Int) (pn : Int) (wx wm : va_W), XS E a tx s3 s4 pn qx wx → MS E a tx s3 s4 pn qm wm → ST a tx s3 s4 pn (5000 * (j : Int) + 5000) → G p l e room_1 s m args below meth c Q E A 4 (100 + 40 * j + 40) (3000 + 5000 * j + 5000) (wx ++ wm) (lvL b qx qm (6 * j)) 1107 []) {a tx s3 s4 : Int → Int} {pn : Int} {wx wm : va_W} (hx : XS E a tx s3 s4 pn qx wx) (hm : MS E a tx s3 s4 pn qm wm) (hS : ST a tx s3 s4 pn (5000 * (j : Int))) : G p l e room_1 s m args below meth c Q E A 4 (100 + 40 * j) (3000 + 5000 * j) (wx ++ wm) (lvL b qx qm (6 * j)) 215 [] := by
  refine g_aload_n C (x := qx) 2 rfl dL_law_215 rfl ?_
  refine g_aload_n C (x := b) 3 rfl dL_law_216 rfl ?_
  refine g_iload_n C 0 rfl dL_law_217 rfl ?_
  refine g_iconst C dL_law_218 rfl ?_
  refine g_iadd C (r := ((6 * j + 1 : Nat) : Int)) (by omega) dL_law_219 rfl ?_
  refine g_sld C hX hbl hbA (i := 6 * j + 1) (by omega) hL dL_law_220 rfl ?_
  refine g_callW C (b := qx) (As := [vI (sv xs (6 * j + 1))]) (k' := 100 + 40 * j + 0) (n' := 3000 + 5000 * j + 0) gL_law_X10_clear (ci := 11) (let ⟨fs, h⟩ := XS_mem hx; ⟨fs, List.mem_append_left _ h⟩) rfl rfl (Mc.frame (XB_clear hx hS (by omega) (sv_b xs _)) List.perm_append_comm) hyL_X10_clear rfl ⟨rfl, rfl⟩ ⟨Nat.le_of_ble_eq_true rfl, Nat.le_of_ble_eq_true rfl, (by show 100 + 40 * j + 0 ≤ 600000; omega), (by show 3000 + 5000 * j + 0 ≤ 7302250; omega)⟩ (Nat.le_of_ble_eq_true rfl) dL_law_221 rfl rfl rfl ?_
  rintro v1 w1 ⟨wx1, ⟨rfl, hx1⟩, rfl⟩
  refine g_aload_n C (x := qm) 1 rfl dL_law_224 rfl ?_
  refine g_aload_n C (x := b) 3 rfl dL_law_225 rfl ?_
  refine g_iload_n C 0 rfl dL_law_226 rfl ?_
  refine g_iconst C dL_law_227 rfl ?_
  refine g_iadd C (r := ((6 * j + 1 : Nat) : Int)) (by omega) dL_law_228 rfl ?_
  refine g_sld C hX hbl hbA (i := 6 * j + 1) (by omega) hL dL_law_229 rfl ?_
  refine g_callW C (b := qm) (As := [vI (sv xs (6 * j + 1))]) (k' := 100 + 40 * j + 0) (n' := 3000 + 5000 * j + 0) gL_law_X11_clear (ci := 12) (let ⟨fs, h⟩ := MS_mem hm; ⟨fs, List.mem_append_left _ h⟩) rfl rfl (Mc.frame (RB_clear hm hS (by omega) (sv_b xs _)) List.perm_append_comm) hyL_X11_clear rfl ⟨rfl, rfl⟩ ⟨Nat.le_of_ble_eq_true rfl, Nat.le_of_ble_eq_true rfl, (by show 100 + 40 * j + 0 ≤ 600000; omega), (by show 3000 + 5000 * j + 0 ≤ 7302250; omega)⟩ (Nat.le_of_ble_eq_true rfl) dL_law_230 rfl rfl rfl ?_
  rintro v2 w2 ⟨wm1, ⟨rfl, hm1⟩, rfl⟩
  refine g_icmpS C dL_law_233 rfl ?_
  exact g_wid (by omega) (by omega) (kk _ _ _ _ _ _ _ hx1 hm1 (ST_inv hS (inv_clear hS.1)))
theorem hyL_X10_at : yX10_at.cls ≠ "java/lang/invoke/MethodHandle" ∧ yX10_at.cls ≠ "java/lang/invoke/VarHandle" ∧ (parseMethodDescriptor yX10_at.desc).map (fun d => d.parameters.length) = some 3 := ⟨by decide +kernel, by decide +kernel, by decide +kernel⟩
theorem hyL_X11_at : yX11_at.cls ≠ "java/lang/invoke/MethodHandle" ∧ yX11_at.cls ≠ "java/lang/invoke/VarHandle" ∧ (parseMethodDescriptor yX11_at.desc).map (fun d => d.parameters.length) = some 3 := ⟨by decide +kernel, by decide +kernel, by decide +kernel⟩
set_option maxHeartbeats 1000000 in
set_option maxRecDepth 20000 in
theorem lawOp_at (C : Cx p s m args meth c E A 4 cL_law wsL_law RL) {b L : Nat} {xs : Nat → Int32} (hX : va_X b L xs s s.heap) (hbl : b < s.heap.size) (hbA : ¬ A b) (hL : L ≤ 3072) {j : Nat} (hj : 6 * j + 6 ≤ L) {qx qm : Nat} (kk : ∀ (a tx s3 s4 : Int → Int) (pn : Int) (wx wm : va_W), XS E a tx s3 s4 pn qx wx → MS E a tx s3 s4 pn qm wm → ST a tx s3 s4 pn (5000 * (j : Int) + 5000) → G p l e room_1 s m args below meth c Q E A 4 (100 + 40 * j + 40) (3000 + 5000 * j + 5000) (wx ++ wm) (lvL b qx qm (6 * j)) 1107 []) {a tx s3 s4 : Int → Int} {pn : Int} {wx wm : va_W} (hx : XS E a tx s3 s4 pn qx wx) (hm : MS E a tx s3 s4 pn qm wm) (hS : ST a tx s3 s4 pn (5000 * (j : Int))) : G p l e room_1 s m args below meth c Q E A 4 (100 + 40 * j) (3000 + 5000 * j) (wx ++ wm) (lvL b qx qm (6 * j)) 238 [] := by
  refine g_aload_n C (x := qx) 2 rfl dL_law_238 rfl ?_
  refine g_aload_n C (x := b) 3 rfl dL_law_239 rfl ?_
  refine g_iload_n C 0 rfl dL_law_240 rfl ?_
  refine g_iconst C dL_law_241 rfl ?_
  refine g_iadd C (r := ((6 * j + 1 : Nat) : Int)) (by omega) dL_law_242 rfl ?_
  refine g_sld C hX hbl hbA (i := 6 * j + 1) (by omega) hL dL_law_243 rfl ?_
  refine g_aload_n C (x := b) 3 rfl dL_law_244 rfl ?_
  refine g_iload_n C 0 rfl dL_law_245 rfl ?_
  refine g_iconst C dL_law_246 rfl ?_
  refine g_iadd C (r := ((6 * j + 2 : Nat) : Int)) (by omega) dL_law_247 rfl ?_
  refine g_sld C hX hbl hbA (i := 6 * j + 2) (by omega) hL dL_law_248 rfl ?_
  refine g_aload_n C (x := b) 3 rfl dL_law_249 rfl ?_
  refine g_iload_n C 0 rfl dL_law_250 rfl ?_
  refine g_iconst C dL_law_251 rfl ?_
  refine g_iadd C (r := ((6 * j + 3 : Nat) : Int)) (by omega) dL_law_252 rfl ?_
  refine g_sld C hX hbl hbA (i := 6 * j + 3) (by omega) hL dL_law_253 rfl ?_
  refine g_callW C (b := qx) (As := [vI (sv xs (6 * j + 1)), vI (sv xs (6 * j + 2)), vI (sv xs (6 * j + 3))]) (k' := 100 + 40 * j + 0) (n' := 3000 + 5000 * j + 0) gL_law_X10_at (ci := 11) (let ⟨fs, h⟩ := XS_mem hx; ⟨fs, List.mem_append_left _ h⟩) rfl rfl (Mc.frame (XB_at hx hS (by omega) (sv_b xs _) (sv_b xs _) (sv_b xs _)) List.perm_append_comm) hyL_X10_at rfl ⟨rfl, rfl⟩ ⟨Nat.le_of_ble_eq_true rfl, Nat.le_of_ble_eq_true rfl, (by show 100 + 40 * j + 0 ≤ 600000; omega), (by show 3000 + 5000 * j + 0 ≤ 7302250; omega)⟩ (Nat.le_of_ble_eq_true rfl) dL_law_254 rfl rfl rfl ?_
  rintro v1 w1 ⟨wx1, ⟨rfl, hx1⟩, rfl⟩
  refine g_aload_n C (x := qm) 1 rfl dL_law_257 rfl ?_
  refine g_aload_n C (x := b) 3 rfl dL_law_258 rfl ?_
  refine g_iload_n C 0 rfl dL_law_259 rfl ?_
  refine g_iconst C dL_law_260 rfl ?_
  refine g_iadd C (r := ((6 * j + 1 : Nat) : Int)) (by omega) dL_law_261 rfl ?_
  refine g_sld C hX hbl hbA (i := 6 * j + 1) (by omega) hL dL_law_262 rfl ?_
  refine g_aload_n C (x := b) 3 rfl dL_law_263 rfl ?_
  refine g_iload_n C 0 rfl dL_law_264 rfl ?_
  refine g_iconst C dL_law_265 rfl ?_
  refine g_iadd C (r := ((6 * j + 2 : Nat) : Int)) (by omega) dL_law_266 rfl ?_
  refine g_sld C hX hbl hbA (i := 6 * j + 2) (by omega) hL dL_law_267 rfl ?_
  refine g_aload_n C (x := b) 3 rfl dL_law_268 rfl ?_
  refine g_iload_n C 0 rfl dL_law_269 rfl ?_
  refine g_iconst C dL_law_270 rfl ?_
  refine g_iadd C (r := ((6 * j + 3 : Nat) : Int)) (by omega) dL_law_271 rfl ?_
  refine g_sld C hX hbl hbA (i := 6 * j + 3) (by omega) hL dL_law_272 rfl ?_
  refine g_callW C (b := qm) (As := [vI (sv xs (6 * j + 1)), vI (sv xs (6 * j + 2)), vI (sv xs (6 * j + 3))]) (k' := 100 + 40 * j + 0) (n' := 3000 + 5000 * j + 0) gL_law_X11_at (ci := 12) (let ⟨fs, h⟩ := MS_mem hm; ⟨fs, List.mem_append_left _ h⟩) rfl rfl (Mc.frame (RB_at hm hS (by omega) (sv_b xs _) (sv_b xs _) (sv_b xs _)) List.perm_append_comm) hyL_X11_at rfl ⟨rfl, rfl⟩ ⟨Nat.le_of_ble_eq_true rfl, Nat.le_of_ble_eq_true rfl, (by show 100 + 40 * j + 0 ≤ 600000; omega), (by show 3000 + 5000 * j + 0 ≤ 7302250; omega)⟩ (Nat.le_of_ble_eq_true rfl) dL_law_273 rfl rfl rfl ?_
  rintro v2 w2 ⟨wm1, ⟨rfl, hm1⟩, rfl⟩
  refine g_icmpS C dL_law_276 rfl ?_
  exact g_wid (by omega) (by omega) (kk _ _ _ _ _ _ _ hx1 hm1 (ST_same hS))
theorem hyL_X10_sound : yX10_sound.cls ≠ "java/lang/invoke/MethodHandle" ∧ yX10_sound.cls ≠ "java/lang/invoke/VarHandle" ∧ (parseMethodDescriptor yX10_sound.desc).map (fun d => d.parameters.length) = some 1 := ⟨by decide +kernel, by decide +kernel, by decide +kernel⟩
theorem hyL_X11_sound : yX11_sound.cls ≠ "java/lang/invoke/MethodHandle" ∧ yX11_sound.cls ≠ "java/lang/invoke/VarHandle" ∧ (parseMethodDescriptor yX11_sound.desc).map (fun d => d.parameters.length) = some 1 := ⟨by decide +kernel, by decide +kernel, by decide +kernel⟩
set_option maxHeartbeats 1000000 in
set_option maxRecDepth 20000 in
theorem lawOp_sound (C : Cx p s m args meth c E A 4 cL_law wsL_law RL) {b L : Nat} {xs : Nat → Int32} (hX : va_X b L xs s s.heap) (hbl : b < s.heap.size) (hbA : ¬ A b) (hL : L ≤ 3072) {j : Nat} (hj : 6 * j + 6 ≤ L) {qx qm : Nat} (kk : ∀ (a tx s3 s4 : Int → Int) (pn : Int) (wx wm : va_W), XS E a tx s3 s4 pn qx wx → MS E a tx s3 s4 pn qm wm → ST a tx s3 s4 pn (5000 * (j : Int) + 5000) → G p l e room_1 s m args below meth c Q E A 4 (100 + 40 * j + 40) (3000 + 5000 * j + 5000) (wx ++ wm) (lvL b qx qm (6 * j)) 1107 []) {a tx s3 s4 : Int → Int} {pn : Int} {wx wm : va_W} (hx : XS E a tx s3 s4 pn qx wx) (hm : MS E a tx s3 s4 pn qm wm) (hS : ST a tx s3 s4 pn (5000 * (j : Int))) : G p l e room_1 s m args below meth c Q E A 4 (100 + 40 * j) (3000 + 5000 * j) (wx ++ wm) (lvL b qx qm (6 * j)) 281 [] := by
  refine g_aload_n C (x := qx) 2 rfl dL_law_281 rfl ?_
  refine g_aload_n C (x := b) 3 rfl dL_law_282 rfl ?_
  refine g_iload_n C 0 rfl dL_law_283 rfl ?_
  refine g_iconst C dL_law_284 rfl ?_
  refine g_iadd C (r := ((6 * j + 1 : Nat) : Int)) (by omega) dL_law_285 rfl ?_
  refine g_sld C hX hbl hbA (i := 6 * j + 1) (by omega) hL dL_law_286 rfl ?_
  refine g_callW C (b := qx) (As := [vI (sv xs (6 * j + 1))]) (k' := 100 + 40 * j + 0) (n' := 3000 + 5000 * j + 0) gL_law_X10_sound (ci := 11) (let ⟨fs, h⟩ := XS_mem hx; ⟨fs, List.mem_append_left _ h⟩) rfl rfl (Mc.frame (XB_sound hx hS (by omega) (sv_b xs _)) List.perm_append_comm) hyL_X10_sound rfl ⟨rfl, rfl⟩ ⟨Nat.le_of_ble_eq_true rfl, Nat.le_of_ble_eq_true rfl, (by show 100 + 40 * j + 0 ≤ 600000; omega), (by show 3000 + 5000 * j + 0 ≤ 7302250; omega)⟩ (Nat.le_of_ble_eq_true rfl) dL_law_287 rfl rfl rfl ?_
  rintro v1 w1 ⟨wx1, ⟨rfl, hx1⟩, rfl⟩
  refine g_aload_n C (x := qm) 1 rfl dL_law_290 rfl ?_
  refine g_aload_n C (x := b) 3 rfl dL_law_291 rfl ?_
  refine g_iload_n C 0 rfl dL_law_292 rfl ?_
  refine g_iconst C dL_law_293 rfl ?_
  refine g_iadd C (r := ((6 * j + 1 : Nat) : Int)) (by omega) dL_law_294 rfl ?_
  refine g_sld C hX hbl hbA (i := 6 * j + 1) (by omega) hL dL_law_295 rfl ?_
  refine g_callW C (b := qm) (As := [vI (sv xs (6 * j + 1))]) (k' := 100 + 40 * j + 0) (n' := 3000 + 5000 * j + 0) gL_law_X11_sound (ci := 12) (let ⟨fs, h⟩ := MS_mem hm; ⟨fs, List.mem_append_left _ h⟩) rfl rfl (Mc.frame (RB_sound hm hS (by omega) (sv_b xs _)) List.perm_append_comm) hyL_X11_sound rfl ⟨rfl, rfl⟩ ⟨Nat.le_of_ble_eq_true rfl, Nat.le_of_ble_eq_true rfl, (by show 100 + 40 * j + 0 ≤ 600000; omega), (by show 3000 + 5000 * j + 0 ≤ 7302250; omega)⟩ (Nat.le_of_ble_eq_true rfl) dL_law_296 rfl rfl rfl ?_
  rintro v2 w2 ⟨wm1, ⟨rfl, hm1⟩, rfl⟩
  refine g_icmpS C dL_law_299 rfl ?_
  exact g_wid (by omega) (by omega) (kk _ _ _ _ _ _ _ hx1 hm1 (ST_same hS))
theorem hyL_X10_contains : yX10_contains.cls ≠ "java/lang/invoke/MethodHandle" ∧ yX10_contains.cls ≠ "java/lang/invoke/VarHandle" ∧ (parseMethodDescriptor yX10_contains.desc).map (fun d => d.parameters.length) = some 3 := ⟨by decide +kernel, by decide +kernel, by decide +kernel⟩
theorem hyL_X11_contains : yX11_contains.cls ≠ "java/lang/invoke/MethodHandle" ∧ yX11_contains.cls ≠ "java/lang/invoke/VarHandle" ∧ (parseMethodDescriptor yX11_contains.desc).map (fun d => d.parameters.length) = some 3 := ⟨by decide +kernel, by decide +kernel, by decide +kernel⟩
set_option maxHeartbeats 1000000 in
set_option maxRecDepth 20000 in
theorem lawOp_contains (C : Cx p s m args meth c E A 4 cL_law wsL_law RL) {b L : Nat} {xs : Nat → Int32} (hX : va_X b L xs s s.heap) (hbl : b < s.heap.size) (hbA : ¬ A b) (hL : L ≤ 3072) {j : Nat} (hj : 6 * j + 6 ≤ L) {qx qm : Nat} (kk : ∀ (a tx s3 s4 : Int → Int) (pn : Int) (wx wm : va_W), XS E a tx s3 s4 pn qx wx → MS E a tx s3 s4 pn qm wm → ST a tx s3 s4 pn (5000 * (j : Int) + 5000) → G p l e room_1 s m args below meth c Q E A 4 (100 + 40 * j + 40) (3000 + 5000 * j + 5000) (wx ++ wm) (lvL b qx qm (6 * j)) 1107 []) {a tx s3 s4 : Int → Int} {pn : Int} {wx wm : va_W} (hx : XS E a tx s3 s4 pn qx wx) (hm : MS E a tx s3 s4 pn qm wm) (hS : ST a tx s3 s4 pn (5000 * (j : Int))) : G p l e room_1 s m args below meth c Q E A 4 (100 + 40 * j) (3000 + 5000 * j) (wx ++ wm) (lvL b qx qm (6 * j)) 304 [] := by
  refine g_aload_n C (x := qx) 2 rfl dL_law_304 rfl ?_
  refine g_aload_n C (x := b) 3 rfl dL_law_305 rfl ?_
  refine g_iload_n C 0 rfl dL_law_306 rfl ?_
  refine g_iconst C dL_law_307 rfl ?_
  refine g_iadd C (r := ((6 * j + 1 : Nat) : Int)) (by omega) dL_law_308 rfl ?_
  refine g_sld C hX hbl hbA (i := 6 * j + 1) (by omega) hL dL_law_309 rfl ?_
  refine g_aload_n C (x := b) 3 rfl dL_law_310 rfl ?_
  refine g_iload_n C 0 rfl dL_law_311 rfl ?_
  refine g_iconst C dL_law_312 rfl ?_
  refine g_iadd C (r := ((6 * j + 2 : Nat) : Int)) (by omega) dL_law_313 rfl ?_
  refine g_sld C hX hbl hbA (i := 6 * j + 2) (by omega) hL dL_law_314 rfl ?_
  refine g_aload_n C (x := b) 3 rfl dL_law_315 rfl ?_
  refine g_iload_n C 0 rfl dL_law_316 rfl ?_
  refine g_iconst C dL_law_317 rfl ?_
  refine g_iadd C (r := ((6 * j + 3 : Nat) : Int)) (by omega) dL_law_318 rfl ?_
  refine g_sld C hX hbl hbA (i := 6 * j + 3) (by omega) hL dL_law_319 rfl ?_
  refine g_callW C (b := qx) (As := [vI (sv xs (6 * j + 1)), vI (sv xs (6 * j + 2)), vI (sv xs (6 * j + 3))]) (k' := 100 + 40 * j + 0) (n' := 3000 + 5000 * j + 0) gL_law_X10_contains (ci := 11) (let ⟨fs, h⟩ := XS_mem hx; ⟨fs, List.mem_append_left _ h⟩) rfl rfl (Mc.frame (XB_contains hx hS (by omega) (sv_b xs _) (sv_b xs _) (sv_b xs _)) List.perm_append_comm) hyL_X10_contains rfl ⟨rfl, rfl⟩ ⟨Nat.le_of_ble_eq_true rfl, Nat.le_of_ble_eq_true rfl, (by show 100 + 40 * j + 0 ≤ 600000; omega), (by show 3000 + 5000 * j + 0 ≤ 7302250; omega)⟩ (Nat.le_of_ble_eq_true rfl) dL_law_320 rfl rfl rfl ?_
  rintro v1 w1 ⟨wx1, ⟨rfl, hx1⟩, rfl⟩
  refine g_aload_n C (x := qm) 1 rfl dL_law_323 rfl ?_
  refine g_aload_n C (x := b) 3 rfl dL_law_324 rfl ?_
  refine g_iload_n C 0 rfl dL_law_325 rfl ?_
  refine g_iconst C dL_law_326 rfl ?_
  refine g_iadd C (r := ((6 * j + 1 : Nat) : Int)) (by omega) dL_law_327 rfl ?_
  refine g_sld C hX hbl hbA (i := 6 * j + 1) (by omega) hL dL_law_328 rfl ?_
  refine g_aload_n C (x := b) 3 rfl dL_law_329 rfl ?_
  refine g_iload_n C 0 rfl dL_law_330 rfl ?_
  refine g_iconst C dL_law_331 rfl ?_
  refine g_iadd C (r := ((6 * j + 2 : Nat) : Int)) (by omega) dL_law_332 rfl ?_
  refine g_sld C hX hbl hbA (i := 6 * j + 2) (by omega) hL dL_law_333 rfl ?_
  refine g_aload_n C (x := b) 3 rfl dL_law_334 rfl ?_
  refine g_iload_n C 0 rfl dL_law_335 rfl ?_
  refine g_iconst C dL_law_336 rfl ?_
  refine g_iadd C (r := ((6 * j + 3 : Nat) : Int)) (by omega) dL_law_337 rfl ?_
  refine g_sld C hX hbl hbA (i := 6 * j + 3) (by omega) hL dL_law_338 rfl ?_
  refine g_callW C (b := qm) (As := [vI (sv xs (6 * j + 1)), vI (sv xs (6 * j + 2)), vI (sv xs (6 * j + 3))]) (k' := 100 + 40 * j + 0) (n' := 3000 + 5000 * j + 0) gL_law_X11_contains (ci := 12) (let ⟨fs, h⟩ := MS_mem hm; ⟨fs, List.mem_append_left _ h⟩) rfl rfl (Mc.frame (RB_contains hm hS (by omega) (sv_b xs _) (sv_b xs _) (sv_b xs _)) List.perm_append_comm) hyL_X11_contains rfl ⟨rfl, rfl⟩ ⟨Nat.le_of_ble_eq_true rfl, Nat.le_of_ble_eq_true rfl, (by show 100 + 40 * j + 0 ≤ 600000; omega), (by show 3000 + 5000 * j + 0 ≤ 7302250; omega)⟩ (Nat.le_of_ble_eq_true rfl) dL_law_339 rfl rfl rfl ?_
  rintro v2 w2 ⟨wm1, ⟨rfl, hm1⟩, rfl⟩
  refine g_icmpS C dL_law_342 rfl ?_
  exact g_wid (by omega) (by omega) (kk _ _ _ _ _ _ _ hx1 hm1 (ST_same hS))
theorem hyL_X10_set : yX10_set.cls ≠ "java/lang/invoke/MethodHandle" ∧ yX10_set.cls ≠ "java/lang/invoke/VarHandle" ∧ (parseMethodDescriptor yX10_set.desc).map (fun d => d.parameters.length) = some 2 := ⟨by decide +kernel, by decide +kernel, by decide +kernel⟩
theorem hyL_X11_set : yX11_set.cls ≠ "java/lang/invoke/MethodHandle" ∧ yX11_set.cls ≠ "java/lang/invoke/VarHandle" ∧ (parseMethodDescriptor yX11_set.desc).map (fun d => d.parameters.length) = some 2 := ⟨by decide +kernel, by decide +kernel, by decide +kernel⟩
set_option maxHeartbeats 1000000 in
set_option maxRecDepth 20000 in
theorem lawOp_set (C : Cx p s m args meth c E A 4 cL_law wsL_law RL) {b L : Nat} {xs : Nat → Int32} (hX : va_X b L xs s s.heap) (hbl : b < s.heap.size) (hbA : ¬ A b) (hL : L ≤ 3072) {j : Nat} (hj : 6 * j + 6 ≤ L) {qx qm : Nat} (kk : ∀ (a tx s3 s4 : Int → Int) (pn : Int) (wx wm : va_W), XS E a tx s3 s4 pn qx wx → MS E a tx s3 s4 pn qm wm → ST a tx s3 s4 pn (5000 * (j : Int) + 5000) → G p l e room_1 s m args below meth c Q E A 4 (100 + 40 * j + 40) (3000 + 5000 * j + 5000) (wx ++ wm) (lvL b qx qm (6 * j)) 1107 []) {a tx s3 s4 : Int → Int} {pn : Int} {wx wm : va_W} (hx : XS E a tx s3 s4 pn qx wx) (hm : MS E a tx s3 s4 pn qm wm) (hS : ST a tx s3 s4 pn (5000 * (j : Int))) : G p l e room_1 s m args below meth c Q E A 4 (100 + 40 * j) (3000 + 5000 * j) (wx ++ wm) (lvL b qx qm (6 * j)) 347 [] := by
  refine g_aload_n C (x := qx) 2 rfl dL_law_347 rfl ?_
  refine g_aload_n C (x := b) 3 rfl dL_law_348 rfl ?_
  refine g_iload_n C 0 rfl dL_law_349 rfl ?_
  refine g_iconst C dL_law_350 rfl ?_
  refine g_iadd C (r := ((6 * j + 1 : Nat) : Int)) (by omega) dL_law_351 rfl ?_
  refine g_sld C hX hbl hbA (i := 6 * j + 1) (by omega) hL dL_law_352 rfl ?_
  refine g_aload_n C (x := b) 3 rfl dL_law_353 rfl ?_
  refine g_iload_n C 0 rfl dL_law_354 rfl ?_
  refine g_iconst C dL_law_355 rfl ?_
  refine g_iadd C (r := ((6 * j + 2 : Nat) : Int)) (by omega) dL_law_356 rfl ?_
  refine g_sld C hX hbl hbA (i := 6 * j + 2) (by omega) hL dL_law_357 rfl ?_
  refine g_callW C (b := qx) (As := [vI (sv xs (6 * j + 1)), vI (sv xs (6 * j + 2))]) (k' := 100 + 40 * j + 0) (n' := 3000 + 5000 * j + 0) gL_law_X10_set (ci := 11) (let ⟨fs, h⟩ := XS_mem hx; ⟨fs, List.mem_append_left _ h⟩) rfl rfl (Mc.frame (XB_set hx hS (by omega) (sv_b xs _) (sv_b xs _)) List.perm_append_comm) hyL_X10_set rfl ⟨rfl, rfl⟩ ⟨Nat.le_of_ble_eq_true rfl, Nat.le_of_ble_eq_true rfl, (by show 100 + 40 * j + 0 ≤ 600000; omega), (by show 3000 + 5000 * j + 0 ≤ 7302250; omega)⟩ (Nat.le_of_ble_eq_true rfl) dL_law_358 rfl rfl rfl ?_
  rintro v1 w1 ⟨wx1, ⟨rfl, hx1⟩, rfl⟩
  refine g_aload_n C (x := qm) 1 rfl dL_law_361 rfl ?_
  refine g_aload_n C (x := b) 3 rfl dL_law_362 rfl ?_
  refine g_iload_n C 0 rfl dL_law_363 rfl ?_
  refine g_iconst C dL_law_364 rfl ?_
  refine g_iadd C (r := ((6 * j + 1 : Nat) : Int)) (by omega) dL_law_365 rfl ?_
  refine g_sld C hX hbl hbA (i := 6 * j + 1) (by omega) hL dL_law_366 rfl ?_
  refine g_aload_n C (x := b) 3 rfl dL_law_367 rfl ?_
  refine g_iload_n C 0 rfl dL_law_368 rfl ?_
  refine g_iconst C dL_law_369 rfl ?_
  refine g_iadd C (r := ((6 * j + 2 : Nat) : Int)) (by omega) dL_law_370 rfl ?_
  refine g_sld C hX hbl hbA (i := 6 * j + 2) (by omega) hL dL_law_371 rfl ?_
  refine g_callW C (b := qm) (As := [vI (sv xs (6 * j + 1)), vI (sv xs (6 * j + 2))]) (k' := 100 + 40 * j + 0) (n' := 3000 + 5000 * j + 0) gL_law_X11_set (ci := 12) (let ⟨fs, h⟩ := MS_mem hm; ⟨fs, List.mem_append_left _ h⟩) rfl rfl (Mc.frame (RB_set hm hS (by omega) (sv_b xs _) (sv_b xs _)) List.perm_append_comm) hyL_X11_set rfl ⟨rfl, rfl⟩ ⟨Nat.le_of_ble_eq_true rfl, Nat.le_of_ble_eq_true rfl, (by show 100 + 40 * j + 0 ≤ 600000; omega), (by show 3000 + 5000 * j + 0 ≤ 7302250; omega)⟩ (Nat.le_of_ble_eq_true rfl) dL_law_372 rfl rfl rfl ?_
  rintro v2 w2 ⟨wm1, ⟨rfl, hm1⟩, rfl⟩
  refine g_icmpS C dL_law_375 rfl ?_
  exact g_wid (by omega) (by omega) (kk _ _ _ _ _ _ _ hx1 hm1 (ST_inv hS (inv_set hS.1)))
theorem hyL_X10_zone : yX10_zone.cls ≠ "java/lang/invoke/MethodHandle" ∧ yX10_zone.cls ≠ "java/lang/invoke/VarHandle" ∧ (parseMethodDescriptor yX10_zone.desc).map (fun d => d.parameters.length) = some 3 := ⟨by decide +kernel, by decide +kernel, by decide +kernel⟩
theorem hyL_X11_zone : yX11_zone.cls ≠ "java/lang/invoke/MethodHandle" ∧ yX11_zone.cls ≠ "java/lang/invoke/VarHandle" ∧ (parseMethodDescriptor yX11_zone.desc).map (fun d => d.parameters.length) = some 3 := ⟨by decide +kernel, by decide +kernel, by decide +kernel⟩
set_option maxHeartbeats 1000000 in
set_option maxRecDepth 20000 in
theorem lawOp_zone (C : Cx p s m args meth c E A 4 cL_law wsL_law RL) {b L : Nat} {xs : Nat → Int32} (hX : va_X b L xs s s.heap) (hbl : b < s.heap.size) (hbA : ¬ A b) (hL : L ≤ 3072) {j : Nat} (hj : 6 * j + 6 ≤ L) {qx qm : Nat} (kk : ∀ (a tx s3 s4 : Int → Int) (pn : Int) (wx wm : va_W), XS E a tx s3 s4 pn qx wx → MS E a tx s3 s4 pn qm wm → ST a tx s3 s4 pn (5000 * (j : Int) + 5000) → G p l e room_1 s m args below meth c Q E A 4 (100 + 40 * j + 40) (3000 + 5000 * j + 5000) (wx ++ wm) (lvL b qx qm (6 * j)) 1107 []) {a tx s3 s4 : Int → Int} {pn : Int} {wx wm : va_W} (hx : XS E a tx s3 s4 pn qx wx) (hm : MS E a tx s3 s4 pn qm wm) (hS : ST a tx s3 s4 pn (5000 * (j : Int))) : G p l e room_1 s m args below meth c Q E A 4 (100 + 40 * j) (3000 + 5000 * j) (wx ++ wm) (lvL b qx qm (6 * j)) 380 [] := by
  refine g_aload_n C (x := qx) 2 rfl dL_law_380 rfl ?_
  refine g_aload_n C (x := b) 3 rfl dL_law_381 rfl ?_
  refine g_iload_n C 0 rfl dL_law_382 rfl ?_
  refine g_iconst C dL_law_383 rfl ?_
  refine g_iadd C (r := ((6 * j + 1 : Nat) : Int)) (by omega) dL_law_384 rfl ?_
  refine g_sld C hX hbl hbA (i := 6 * j + 1) (by omega) hL dL_law_385 rfl ?_
  refine g_aload_n C (x := b) 3 rfl dL_law_386 rfl ?_
  refine g_iload_n C 0 rfl dL_law_387 rfl ?_
  refine g_iconst C dL_law_388 rfl ?_
  refine g_iadd C (r := ((6 * j + 2 : Nat) : Int)) (by omega) dL_law_389 rfl ?_
  refine g_sld C hX hbl hbA (i := 6 * j + 2) (by omega) hL dL_law_390 rfl ?_
  refine g_aload_n C (x := b) 3 rfl dL_law_391 rfl ?_
  refine g_iload_n C 0 rfl dL_law_392 rfl ?_
  refine g_iconst C dL_law_393 rfl ?_
  refine g_iadd C (r := ((6 * j + 3 : Nat) : Int)) (by omega) dL_law_394 rfl ?_
  refine g_sld C hX hbl hbA (i := 6 * j + 3) (by omega) hL dL_law_395 rfl ?_
  refine g_callW C (b := qx) (As := [vI (sv xs (6 * j + 1)), vI (sv xs (6 * j + 2)), vI (sv xs (6 * j + 3))]) (k' := 100 + 40 * j + 0) (n' := 3000 + 5000 * j + 0) gL_law_X10_zone (ci := 11) (let ⟨fs, h⟩ := XS_mem hx; ⟨fs, List.mem_append_left _ h⟩) rfl rfl (Mc.frame (XB_zone hx hS (by omega) (sv_b xs _) (sv_b xs _) (sv_b xs _)) List.perm_append_comm) hyL_X10_zone rfl ⟨rfl, rfl⟩ ⟨Nat.le_of_ble_eq_true rfl, Nat.le_of_ble_eq_true rfl, (by show 100 + 40 * j + 0 ≤ 600000; omega), (by show 3000 + 5000 * j + 0 ≤ 7302250; omega)⟩ (Nat.le_of_ble_eq_true rfl) dL_law_396 rfl rfl rfl ?_
  rintro v1 w1 ⟨wx1, ⟨rfl, hx1⟩, rfl⟩
  refine g_aload_n C (x := qm) 1 rfl dL_law_399 rfl ?_
  refine g_aload_n C (x := b) 3 rfl dL_law_400 rfl ?_
  refine g_iload_n C 0 rfl dL_law_401 rfl ?_
  refine g_iconst C dL_law_402 rfl ?_
  refine g_iadd C (r := ((6 * j + 1 : Nat) : Int)) (by omega) dL_law_403 rfl ?_
  refine g_sld C hX hbl hbA (i := 6 * j + 1) (by omega) hL dL_law_404 rfl ?_
  refine g_aload_n C (x := b) 3 rfl dL_law_405 rfl ?_
  refine g_iload_n C 0 rfl dL_law_406 rfl ?_
  refine g_iconst C dL_law_407 rfl ?_
  refine g_iadd C (r := ((6 * j + 2 : Nat) : Int)) (by omega) dL_law_408 rfl ?_
  refine g_sld C hX hbl hbA (i := 6 * j + 2) (by omega) hL dL_law_409 rfl ?_
  refine g_aload_n C (x := b) 3 rfl dL_law_410 rfl ?_
  refine g_iload_n C 0 rfl dL_law_411 rfl ?_
  refine g_iconst C dL_law_412 rfl ?_
  refine g_iadd C (r := ((6 * j + 3 : Nat) : Int)) (by omega) dL_law_413 rfl ?_
  refine g_sld C hX hbl hbA (i := 6 * j + 3) (by omega) hL dL_law_414 rfl ?_
  refine g_callW C (b := qm) (As := [vI (sv xs (6 * j + 1)), vI (sv xs (6 * j + 2)), vI (sv xs (6 * j + 3))]) (k' := 100 + 40 * j + 0) (n' := 3000 + 5000 * j + 0) gL_law_X11_zone (ci := 12) (let ⟨fs, h⟩ := MS_mem hm; ⟨fs, List.mem_append_left _ h⟩) rfl rfl (Mc.frame (RB_zone hm hS (by omega) (sv_b xs _) (sv_b xs _) (sv_b xs _)) List.perm_append_comm) hyL_X11_zone rfl ⟨rfl, rfl⟩ ⟨Nat.le_of_ble_eq_true rfl, Nat.le_of_ble_eq_true rfl, (by show 100 + 40 * j + 0 ≤ 600000; omega), (by show 3000 + 5000 * j + 0 ≤ 7302250; omega)⟩ (Nat.le_of_ble_eq_true rfl) dL_law_415 rfl rfl rfl ?_
  rintro v2 w2 ⟨wm1, ⟨rfl, hm1⟩, rfl⟩
  refine g_icmpS C dL_law_418 rfl ?_
  exact g_wid (by omega) (by omega) (kk _ _ _ _ _ _ _ hx1 hm1 (ST_inv hS (inv_zone hS.1)))
theorem hyL_X10_apply : yX10_apply.cls ≠ "java/lang/invoke/MethodHandle" ∧ yX10_apply.cls ≠ "java/lang/invoke/VarHandle" ∧ (parseMethodDescriptor yX10_apply.desc).map (fun d => d.parameters.length) = some 4 := ⟨by decide +kernel, by decide +kernel, by decide +kernel⟩
theorem hyL_X11_apply : yX11_apply.cls ≠ "java/lang/invoke/MethodHandle" ∧ yX11_apply.cls ≠ "java/lang/invoke/VarHandle" ∧ (parseMethodDescriptor yX11_apply.desc).map (fun d => d.parameters.length) = some 4 := ⟨by decide +kernel, by decide +kernel, by decide +kernel⟩
set_option maxHeartbeats 1000000 in
set_option maxRecDepth 20000 in
theorem lawOp_apply (C : Cx p s m args meth c E A 4 cL_law wsL_law RL) {b L : Nat} {xs : Nat → Int32} (hX : va_X b L xs s s.heap) (hbl : b < s.heap.size) (hbA : ¬ A b) (hL : L ≤ 3072) {j : Nat} (hj : 6 * j + 6 ≤ L) {qx qm : Nat} (kk : ∀ (a tx s3 s4 : Int → Int) (pn : Int) (wx wm : va_W), XS E a tx s3 s4 pn qx wx → MS E a tx s3 s4 pn qm wm → ST a tx s3 s4 pn (5000 * (j : Int) + 5000) → G p l e room_1 s m args below meth c Q E A 4 (100 + 40 * j + 40) (3000 + 5000 * j + 5000) (wx ++ wm) (lvL b qx qm (6 * j)) 1107 []) {a tx s3 s4 : Int → Int} {pn : Int} {wx wm : va_W} (hx : XS E a tx s3 s4 pn qx wx) (hm : MS E a tx s3 s4 pn qm wm) (hS : ST a tx s3 s4 pn (5000 * (j : Int))) : G p l e room_1 s m args below meth c Q E A 4 (100 + 40 * j) (3000 + 5000 * j) (wx ++ wm) (lvL b qx qm (6 * j)) 423 [] := by
  refine g_aload_n C (x := qx) 2 rfl dL_law_423 rfl ?_
  refine g_aload_n C (x := b) 3 rfl dL_law_424 rfl ?_
  refine g_iload_n C 0 rfl dL_law_425 rfl ?_
  refine g_iconst C dL_law_426 rfl ?_
  refine g_iadd C (r := ((6 * j + 1 : Nat) : Int)) (by omega) dL_law_427 rfl ?_
  refine g_sld C hX hbl hbA (i := 6 * j + 1) (by omega) hL dL_law_428 rfl ?_
  refine g_aload_n C (x := b) 3 rfl dL_law_429 rfl ?_
  refine g_iload_n C 0 rfl dL_law_430 rfl ?_
  refine g_iconst C dL_law_431 rfl ?_
  refine g_iadd C (r := ((6 * j + 2 : Nat) : Int)) (by omega) dL_law_432 rfl ?_
  refine g_sld C hX hbl hbA (i := 6 * j + 2) (by omega) hL dL_law_433 rfl ?_
  refine g_aload_n C (x := b) 3 rfl dL_law_434 rfl ?_
  refine g_iload_n C 0 rfl dL_law_435 rfl ?_
  refine g_iconst C dL_law_436 rfl ?_
  refine g_iadd C (r := ((6 * j + 3 : Nat) : Int)) (by omega) dL_law_437 rfl ?_
  refine g_sld C hX hbl hbA (i := 6 * j + 3) (by omega) hL dL_law_438 rfl ?_
  refine g_aload_n C (x := b) 3 rfl dL_law_439 rfl ?_
  refine g_iload_n C 0 rfl dL_law_440 rfl ?_
  refine g_iconst C dL_law_441 rfl ?_
  refine g_iadd C (r := ((6 * j + 4 : Nat) : Int)) (by omega) dL_law_442 rfl ?_
  refine g_sld C hX hbl hbA (i := 6 * j + 4) (by omega) hL dL_law_443 rfl ?_
  refine g_callW C (b := qx) (As := [vI (sv xs (6 * j + 1)), vI (sv xs (6 * j + 2)), vI (sv xs (6 * j + 3)), vI (sv xs (6 * j + 4))]) (k' := 100 + 40 * j + 0) (n' := 3000 + 5000 * j + 0) gL_law_X10_apply (ci := 11) (let ⟨fs, h⟩ := XS_mem hx; ⟨fs, List.mem_append_left _ h⟩) rfl rfl (Mc.frame (XB_apply hx hS (by omega) (sv_b xs _) (sv_b xs _) (sv_b xs _) (sv_b xs _)) List.perm_append_comm) hyL_X10_apply rfl ⟨rfl, rfl⟩ ⟨Nat.le_of_ble_eq_true rfl, Nat.le_of_ble_eq_true rfl, (by show 100 + 40 * j + 0 ≤ 600000; omega), (by show 3000 + 5000 * j + 0 ≤ 7302250; omega)⟩ (Nat.le_of_ble_eq_true rfl) dL_law_444 rfl rfl rfl ?_
  rintro v1 w1 ⟨wx1, ⟨rfl, hx1⟩, rfl⟩
  refine g_aload_n C (x := qm) 1 rfl dL_law_447 rfl ?_
  refine g_aload_n C (x := b) 3 rfl dL_law_448 rfl ?_
  refine g_iload_n C 0 rfl dL_law_449 rfl ?_
  refine g_iconst C dL_law_450 rfl ?_
  refine g_iadd C (r := ((6 * j + 1 : Nat) : Int)) (by omega) dL_law_451 rfl ?_
  refine g_sld C hX hbl hbA (i := 6 * j + 1) (by omega) hL dL_law_452 rfl ?_
  refine g_aload_n C (x := b) 3 rfl dL_law_453 rfl ?_
  refine g_iload_n C 0 rfl dL_law_454 rfl ?_
  refine g_iconst C dL_law_455 rfl ?_
  refine g_iadd C (r := ((6 * j + 2 : Nat) : Int)) (by omega) dL_law_456 rfl ?_
  refine g_sld C hX hbl hbA (i := 6 * j + 2) (by omega) hL dL_law_457 rfl ?_
  refine g_aload_n C (x := b) 3 rfl dL_law_458 rfl ?_
  refine g_iload_n C 0 rfl dL_law_459 rfl ?_
  refine g_iconst C dL_law_460 rfl ?_
  refine g_iadd C (r := ((6 * j + 3 : Nat) : Int)) (by omega) dL_law_461 rfl ?_
  refine g_sld C hX hbl hbA (i := 6 * j + 3) (by omega) hL dL_law_462 rfl ?_
  refine g_aload_n C (x := b) 3 rfl dL_law_463 rfl ?_
  refine g_iload_n C 0 rfl dL_law_464 rfl ?_
  refine g_iconst C dL_law_465 rfl ?_
  refine g_iadd C (r := ((6 * j + 4 : Nat) : Int)) (by omega) dL_law_466 rfl ?_
  refine g_sld C hX hbl hbA (i := 6 * j + 4) (by omega) hL dL_law_467 rfl ?_
  refine g_callW C (b := qm) (As := [vI (sv xs (6 * j + 1)), vI (sv xs (6 * j + 2)), vI (sv xs (6 * j + 3)), vI (sv xs (6 * j + 4))]) (k' := 100 + 40 * j + 0) (n' := 3000 + 5000 * j + 0) gL_law_X11_apply (ci := 12) (let ⟨fs, h⟩ := MS_mem hm; ⟨fs, List.mem_append_left _ h⟩) rfl rfl (Mc.frame (RB_apply hm hS (by omega) (sv_b xs _) (sv_b xs _) (sv_b xs _) (sv_b xs _)) List.perm_append_comm) hyL_X11_apply rfl ⟨rfl, rfl⟩ ⟨Nat.le_of_ble_eq_true rfl, Nat.le_of_ble_eq_true rfl, (by show 100 + 40 * j + 0 ≤ 600000; omega), (by show 3000 + 5000 * j + 0 ≤ 7302250; omega)⟩ (Nat.le_of_ble_eq_true rfl) dL_law_468 rfl rfl rfl ?_
  rintro v2 w2 ⟨wm1, ⟨rfl, hm1⟩, rfl⟩
  refine g_icmpS C dL_law_471 rfl ?_
  exact g_wid (by omega) (by omega) (kk _ _ _ _ _ _ _ hx1 hm1 (ST_inv hS (inv_apply hS.1)))
theorem hyL_X10_ramp : yX10_ramp.cls ≠ "java/lang/invoke/MethodHandle" ∧ yX10_ramp.cls ≠ "java/lang/invoke/VarHandle" ∧ (parseMethodDescriptor yX10_ramp.desc).map (fun d => d.parameters.length) = some 5 := ⟨by decide +kernel, by decide +kernel, by decide +kernel⟩
theorem hyL_X11_ramp : yX11_ramp.cls ≠ "java/lang/invoke/MethodHandle" ∧ yX11_ramp.cls ≠ "java/lang/invoke/VarHandle" ∧ (parseMethodDescriptor yX11_ramp.desc).map (fun d => d.parameters.length) = some 5 := ⟨by decide +kernel, by decide +kernel, by decide +kernel⟩
set_option maxHeartbeats 1000000 in
set_option maxRecDepth 20000 in
theorem lawOp_ramp (C : Cx p s m args meth c E A 4 cL_law wsL_law RL) {b L : Nat} {xs : Nat → Int32} (hX : va_X b L xs s s.heap) (hbl : b < s.heap.size) (hbA : ¬ A b) (hL : L ≤ 3072) {j : Nat} (hj : 6 * j + 6 ≤ L) {qx qm : Nat} (kk : ∀ (a tx s3 s4 : Int → Int) (pn : Int) (wx wm : va_W), XS E a tx s3 s4 pn qx wx → MS E a tx s3 s4 pn qm wm → ST a tx s3 s4 pn (5000 * (j : Int) + 5000) → G p l e room_1 s m args below meth c Q E A 4 (100 + 40 * j + 40) (3000 + 5000 * j + 5000) (wx ++ wm) (lvL b qx qm (6 * j)) 1107 []) {a tx s3 s4 : Int → Int} {pn : Int} {wx wm : va_W} (hx : XS E a tx s3 s4 pn qx wx) (hm : MS E a tx s3 s4 pn qm wm) (hS : ST a tx s3 s4 pn (5000 * (j : Int))) : G p l e room_1 s m args below meth c Q E A 4 (100 + 40 * j) (3000 + 5000 * j) (wx ++ wm) (lvL b qx qm (6 * j)) 476 [] := by
  refine g_aload_n C (x := qx) 2 rfl dL_law_476 rfl ?_
  refine g_aload_n C (x := b) 3 rfl dL_law_477 rfl ?_
  refine g_iload_n C 0 rfl dL_law_478 rfl ?_
  refine g_iconst C dL_law_479 rfl ?_
  refine g_iadd C (r := ((6 * j + 1 : Nat) : Int)) (by omega) dL_law_480 rfl ?_
  refine g_sld C hX hbl hbA (i := 6 * j + 1) (by omega) hL dL_law_481 rfl ?_
  refine g_aload_n C (x := b) 3 rfl dL_law_482 rfl ?_
  refine g_iload_n C 0 rfl dL_law_483 rfl ?_
  refine g_iconst C dL_law_484 rfl ?_
  refine g_iadd C (r := ((6 * j + 2 : Nat) : Int)) (by omega) dL_law_485 rfl ?_
  refine g_sld C hX hbl hbA (i := 6 * j + 2) (by omega) hL dL_law_486 rfl ?_
  refine g_aload_n C (x := b) 3 rfl dL_law_487 rfl ?_
  refine g_iload_n C 0 rfl dL_law_488 rfl ?_
  refine g_iconst C dL_law_489 rfl ?_
  refine g_iadd C (r := ((6 * j + 3 : Nat) : Int)) (by omega) dL_law_490 rfl ?_
  refine g_sld C hX hbl hbA (i := 6 * j + 3) (by omega) hL dL_law_491 rfl ?_
  refine g_aload_n C (x := b) 3 rfl dL_law_492 rfl ?_
  refine g_iload_n C 0 rfl dL_law_493 rfl ?_
  refine g_iconst C dL_law_494 rfl ?_
  refine g_iadd C (r := ((6 * j + 4 : Nat) : Int)) (by omega) dL_law_495 rfl ?_
  refine g_sld C hX hbl hbA (i := 6 * j + 4) (by omega) hL dL_law_496 rfl ?_
  refine g_aload_n C (x := b) 3 rfl dL_law_497 rfl ?_
  refine g_iload_n C 0 rfl dL_law_498 rfl ?_
  refine g_iconst C dL_law_499 rfl ?_
  refine g_iadd C (r := ((6 * j + 5 : Nat) : Int)) (by omega) dL_law_500 rfl ?_
  refine g_sld C hX hbl hbA (i := 6 * j + 5) (by omega) hL dL_law_501 rfl ?_
  refine g_callW C (b := qx) (As := [vI (sv xs (6 * j + 1)), vI (sv xs (6 * j + 2)), vI (sv xs (6 * j + 3)), vI (sv xs (6 * j + 4)), vI (sv xs (6 * j + 5))]) (k' := 100 + 40 * j + 0) (n' := 3000 + 5000 * j + 0) gL_law_X10_ramp (ci := 11) (let ⟨fs, h⟩ := XS_mem hx; ⟨fs, List.mem_append_left _ h⟩) rfl rfl (Mc.frame (XB_ramp hx hS (by omega) (sv_b xs _) (sv_b xs _) (sv_b xs _) (sv_b xs _) (sv_b xs _)) List.perm_append_comm) hyL_X10_ramp rfl ⟨rfl, rfl⟩ ⟨Nat.le_of_ble_eq_true rfl, Nat.le_of_ble_eq_true rfl, (by show 100 + 40 * j + 0 ≤ 600000; omega), (by show 3000 + 5000 * j + 0 ≤ 7302250; omega)⟩ (Nat.le_of_ble_eq_true rfl) dL_law_502 rfl rfl rfl ?_
  rintro v1 w1 ⟨wx1, ⟨rfl, hx1⟩, rfl⟩
  refine g_aload_n C (x := qm) 1 rfl dL_law_505 rfl ?_
  refine g_aload_n C (x := b) 3 rfl dL_law_506 rfl ?_
  refine g_iload_n C 0 rfl dL_law_507 rfl ?_
  refine g_iconst C dL_law_508 rfl ?_
  refine g_iadd C (r := ((6 * j + 1 : Nat) : Int)) (by omega) dL_law_509 rfl ?_
  refine g_sld C hX hbl hbA (i := 6 * j + 1) (by omega) hL dL_law_510 rfl ?_
  refine g_aload_n C (x := b) 3 rfl dL_law_511 rfl ?_
  refine g_iload_n C 0 rfl dL_law_512 rfl ?_
  refine g_iconst C dL_law_513 rfl ?_
  refine g_iadd C (r := ((6 * j + 2 : Nat) : Int)) (by omega) dL_law_514 rfl ?_
  refine g_sld C hX hbl hbA (i := 6 * j + 2) (by omega) hL dL_law_515 rfl ?_
  refine g_aload_n C (x := b) 3 rfl dL_law_516 rfl ?_
  refine g_iload_n C 0 rfl dL_law_517 rfl ?_
  refine g_iconst C dL_law_518 rfl ?_
  refine g_iadd C (r := ((6 * j + 3 : Nat) : Int)) (by omega) dL_law_519 rfl ?_
  refine g_sld C hX hbl hbA (i := 6 * j + 3) (by omega) hL dL_law_520 rfl ?_
  refine g_aload_n C (x := b) 3 rfl dL_law_521 rfl ?_
  refine g_iload_n C 0 rfl dL_law_522 rfl ?_
  refine g_iconst C dL_law_523 rfl ?_
  refine g_iadd C (r := ((6 * j + 4 : Nat) : Int)) (by omega) dL_law_524 rfl ?_
  refine g_sld C hX hbl hbA (i := 6 * j + 4) (by omega) hL dL_law_525 rfl ?_
  refine g_aload_n C (x := b) 3 rfl dL_law_526 rfl ?_
  refine g_iload_n C 0 rfl dL_law_527 rfl ?_
  refine g_iconst C dL_law_528 rfl ?_
  refine g_iadd C (r := ((6 * j + 5 : Nat) : Int)) (by omega) dL_law_529 rfl ?_
  refine g_sld C hX hbl hbA (i := 6 * j + 5) (by omega) hL dL_law_530 rfl ?_
  refine g_callW C (b := qm) (As := [vI (sv xs (6 * j + 1)), vI (sv xs (6 * j + 2)), vI (sv xs (6 * j + 3)), vI (sv xs (6 * j + 4)), vI (sv xs (6 * j + 5))]) (k' := 100 + 40 * j + 0) (n' := 3000 + 5000 * j + 0) gL_law_X11_ramp (ci := 12) (let ⟨fs, h⟩ := MS_mem hm; ⟨fs, List.mem_append_left _ h⟩) rfl rfl (Mc.frame (RB_ramp hm hS (by omega) (sv_b xs _) (sv_b xs _) (sv_b xs _) (sv_b xs _) (sv_b xs _)) List.perm_append_comm) hyL_X11_ramp rfl ⟨rfl, rfl⟩ ⟨Nat.le_of_ble_eq_true rfl, Nat.le_of_ble_eq_true rfl, (by show 100 + 40 * j + 0 ≤ 600000; omega), (by show 3000 + 5000 * j + 0 ≤ 7302250; omega)⟩ (Nat.le_of_ble_eq_true rfl) dL_law_531 rfl rfl rfl ?_
  rintro v2 w2 ⟨wm1, ⟨rfl, hm1⟩, rfl⟩
  refine g_icmpS C dL_law_534 rfl ?_
  exact g_wid (by omega) (by omega) (kk _ _ _ _ _ _ _ hx1 hm1 (ST_inv hS (inv_ramp hS.1)))
theorem hyL_X10_network : yX10_network.cls ≠ "java/lang/invoke/MethodHandle" ∧ yX10_network.cls ≠ "java/lang/invoke/VarHandle" ∧ (parseMethodDescriptor yX10_network.desc).map (fun d => d.parameters.length) = some 3 := ⟨by decide +kernel, by decide +kernel, by decide +kernel⟩
theorem hyL_X11_network : yX11_network.cls ≠ "java/lang/invoke/MethodHandle" ∧ yX11_network.cls ≠ "java/lang/invoke/VarHandle" ∧ (parseMethodDescriptor yX11_network.desc).map (fun d => d.parameters.length) = some 3 := ⟨by decide +kernel, by decide +kernel, by decide +kernel⟩
set_option maxHeartbeats 1000000 in
set_option maxRecDepth 20000 in
theorem lawOp_net (C : Cx p s m args meth c E A 4 cL_law wsL_law RL) {b L : Nat} {xs : Nat → Int32} (hX : va_X b L xs s s.heap) (hbl : b < s.heap.size) (hbA : ¬ A b) (hL : L ≤ 3072) {j : Nat} (hj : 6 * j + 6 ≤ L) {qx qm : Nat} (kk : ∀ (a tx s3 s4 : Int → Int) (pn : Int) (wx wm : va_W), XS E a tx s3 s4 pn qx wx → MS E a tx s3 s4 pn qm wm → ST a tx s3 s4 pn (5000 * (j : Int) + 5000) → G p l e room_1 s m args below meth c Q E A 4 (100 + 40 * j + 40) (3000 + 5000 * j + 5000) (wx ++ wm) (lvL b qx qm (6 * j)) 1107 []) {a tx s3 s4 : Int → Int} {pn : Int} {wx wm : va_W} (hx : XS E a tx s3 s4 pn qx wx) (hm : MS E a tx s3 s4 pn qm wm) (hS : ST a tx s3 s4 pn (5000 * (j : Int))) : G p l e room_1 s m args below meth c Q E A 4 (100 + 40 * j) (3000 + 5000 * j) (wx ++ wm) (lvL b qx qm (6 * j)) 539 [] := by
  refine g_aload_n C (x := qx) 2 rfl dL_law_539 rfl ?_
  refine g_aload_n C (x := b) 3 rfl dL_law_540 rfl ?_
  refine g_iload_n C 0 rfl dL_law_541 rfl ?_
  refine g_iconst C dL_law_542 rfl ?_
  refine g_iadd C (r := ((6 * j + 1 : Nat) : Int)) (by omega) dL_law_543 rfl ?_
  refine g_sld C hX hbl hbA (i := 6 * j + 1) (by omega) hL dL_law_544 rfl ?_
  refine g_aload_n C (x := b) 3 rfl dL_law_545 rfl ?_
  refine g_iload_n C 0 rfl dL_law_546 rfl ?_
  refine g_iconst C dL_law_547 rfl ?_
  refine g_iadd C (r := ((6 * j + 2 : Nat) : Int)) (by omega) dL_law_548 rfl ?_
  refine g_sld C hX hbl hbA (i := 6 * j + 2) (by omega) hL dL_law_549 rfl ?_
  refine g_aload_n C (x := b) 3 rfl dL_law_550 rfl ?_
  refine g_iload_n C 0 rfl dL_law_551 rfl ?_
  refine g_iconst C dL_law_552 rfl ?_
  refine g_iadd C (r := ((6 * j + 3 : Nat) : Int)) (by omega) dL_law_553 rfl ?_
  refine g_sld C hX hbl hbA (i := 6 * j + 3) (by omega) hL dL_law_554 rfl ?_
  refine g_callW C (b := qx) (As := [vI (sv xs (6 * j + 1)), vI (sv xs (6 * j + 2)), vI (sv xs (6 * j + 3))]) (k' := 100 + 40 * j + 0) (n' := 3000 + 5000 * j + 0) gL_law_X10_network (ci := 11) (let ⟨fs, h⟩ := XS_mem hx; ⟨fs, List.mem_append_left _ h⟩) rfl rfl (Mc.frame (XB_net hx hS (by omega) (sv_b xs _) (sv_b xs _) (sv_b xs _)) List.perm_append_comm) hyL_X10_network rfl ⟨rfl, rfl⟩ ⟨Nat.le_of_ble_eq_true rfl, Nat.le_of_ble_eq_true rfl, (by show 100 + 40 * j + 0 ≤ 600000; omega), (by show 3000 + 5000 * j + 0 ≤ 7302250; omega)⟩ (Nat.le_of_ble_eq_true rfl) dL_law_555 rfl rfl rfl ?_
  rintro v1 w1 ⟨wx1, ⟨rfl, hx1⟩, rfl⟩
  refine g_aload_n C (x := qm) 1 rfl dL_law_558 rfl ?_
  refine g_aload_n C (x := b) 3 rfl dL_law_559 rfl ?_
  refine g_iload_n C 0 rfl dL_law_560 rfl ?_
  refine g_iconst C dL_law_561 rfl ?_
  refine g_iadd C (r := ((6 * j + 1 : Nat) : Int)) (by omega) dL_law_562 rfl ?_
  refine g_sld C hX hbl hbA (i := 6 * j + 1) (by omega) hL dL_law_563 rfl ?_
  refine g_aload_n C (x := b) 3 rfl dL_law_564 rfl ?_
  refine g_iload_n C 0 rfl dL_law_565 rfl ?_
  refine g_iconst C dL_law_566 rfl ?_
  refine g_iadd C (r := ((6 * j + 2 : Nat) : Int)) (by omega) dL_law_567 rfl ?_
  refine g_sld C hX hbl hbA (i := 6 * j + 2) (by omega) hL dL_law_568 rfl ?_
  refine g_aload_n C (x := b) 3 rfl dL_law_569 rfl ?_
  refine g_iload_n C 0 rfl dL_law_570 rfl ?_
  refine g_iconst C dL_law_571 rfl ?_
  refine g_iadd C (r := ((6 * j + 3 : Nat) : Int)) (by omega) dL_law_572 rfl ?_
  refine g_sld C hX hbl hbA (i := 6 * j + 3) (by omega) hL dL_law_573 rfl ?_
  refine g_callW C (b := qm) (As := [vI (sv xs (6 * j + 1)), vI (sv xs (6 * j + 2)), vI (sv xs (6 * j + 3))]) (k' := 100 + 40 * j + 0) (n' := 3000 + 5000 * j + 0) gL_law_X11_network (ci := 12) (let ⟨fs, h⟩ := MS_mem hm; ⟨fs, List.mem_append_left _ h⟩) rfl rfl (Mc.frame (RB_net hm hS (by omega) (sv_b xs _) (sv_b xs _) (sv_b xs _)) List.perm_append_comm) hyL_X11_network rfl ⟨rfl, rfl⟩ ⟨Nat.le_of_ble_eq_true rfl, Nat.le_of_ble_eq_true rfl, (by show 100 + 40 * j + 0 ≤ 600000; omega), (by show 3000 + 5000 * j + 0 ≤ 7302250; omega)⟩ (Nat.le_of_ble_eq_true rfl) dL_law_574 rfl rfl rfl ?_
  rintro v2 w2 ⟨wm1, ⟨rfl, hm1⟩, rfl⟩
  refine g_icmpS C dL_law_577 rfl ?_
  exact g_wid (by omega) (by omega) (kk _ _ _ _ _ _ _ hx1 hm1 (ST_inv hS (inv_net hS.1)))
theorem hyL_X10_fault : yX10_fault.cls ≠ "java/lang/invoke/MethodHandle" ∧ yX10_fault.cls ≠ "java/lang/invoke/VarHandle" ∧ (parseMethodDescriptor yX10_fault.desc).map (fun d => d.parameters.length) = some 2 := ⟨by decide +kernel, by decide +kernel, by decide +kernel⟩
theorem hyL_X11_fault : yX11_fault.cls ≠ "java/lang/invoke/MethodHandle" ∧ yX11_fault.cls ≠ "java/lang/invoke/VarHandle" ∧ (parseMethodDescriptor yX11_fault.desc).map (fun d => d.parameters.length) = some 2 := ⟨by decide +kernel, by decide +kernel, by decide +kernel⟩
set_option maxHeartbeats 1000000 in
set_option maxRecDepth 20000 in
theorem lawOp_fault (C : Cx p s m args meth c E A 4 cL_law wsL_law RL) {b L : Nat} {xs : Nat → Int32} (hX : va_X b L xs s s.heap) (hbl : b < s.heap.size) (hbA : ¬ A b) (hL : L ≤ 3072) {j : Nat} (hj : 6 * j + 6 ≤ L) {qx qm : Nat} (kk : ∀ (a tx s3 s4 : Int → Int) (pn : Int) (wx wm : va_W), XS E a tx s3 s4 pn qx wx → MS E a tx s3 s4 pn qm wm → ST a tx s3 s4 pn (5000 * (j : Int) + 5000) → G p l e room_1 s m args below meth c Q E A 4 (100 + 40 * j + 40) (3000 + 5000 * j + 5000) (wx ++ wm) (lvL b qx qm (6 * j)) 1107 []) {a tx s3 s4 : Int → Int} {pn : Int} {wx wm : va_W} (hx : XS E a tx s3 s4 pn qx wx) (hm : MS E a tx s3 s4 pn qm wm) (hS : ST a tx s3 s4 pn (5000 * (j : Int))) : G p l e room_1 s m args below meth c Q E A 4 (100 + 40 * j) (3000 + 5000 * j) (wx ++ wm) (lvL b qx qm (6 * j)) 582 [] := by
  refine g_aload_n C (x := qx) 2 rfl dL_law_582 rfl ?_
  refine g_aload_n C (x := b) 3 rfl dL_law_583 rfl ?_
  refine g_iload_n C 0 rfl dL_law_584 rfl ?_
  refine g_iconst C dL_law_585 rfl ?_
  refine g_iadd C (r := ((6 * j + 1 : Nat) : Int)) (by omega) dL_law_586 rfl ?_
  refine g_sld C hX hbl hbA (i := 6 * j + 1) (by omega) hL dL_law_587 rfl ?_
  refine g_aload_n C (x := b) 3 rfl dL_law_588 rfl ?_
  refine g_iload_n C 0 rfl dL_law_589 rfl ?_
  refine g_iconst C dL_law_590 rfl ?_
  refine g_iadd C (r := ((6 * j + 2 : Nat) : Int)) (by omega) dL_law_591 rfl ?_
  refine g_sld C hX hbl hbA (i := 6 * j + 2) (by omega) hL dL_law_592 rfl ?_
  refine g_callW C (b := qx) (As := [vI (sv xs (6 * j + 1)), vI (sv xs (6 * j + 2))]) (k' := 100 + 40 * j + 0) (n' := 3000 + 5000 * j + 0) gL_law_X10_fault (ci := 11) (let ⟨fs, h⟩ := XS_mem hx; ⟨fs, List.mem_append_left _ h⟩) rfl rfl (Mc.frame (XB_fault hx hS (by omega) (sv_b xs _) (sv_b xs _)) List.perm_append_comm) hyL_X10_fault rfl ⟨rfl, rfl⟩ ⟨Nat.le_of_ble_eq_true rfl, Nat.le_of_ble_eq_true rfl, (by show 100 + 40 * j + 0 ≤ 600000; omega), (by show 3000 + 5000 * j + 0 ≤ 7302250; omega)⟩ (Nat.le_of_ble_eq_true rfl) dL_law_593 rfl rfl rfl ?_
  rintro v1 w1 ⟨wx1, ⟨rfl, hx1⟩, rfl⟩
  refine g_aload_n C (x := qm) 1 rfl dL_law_596 rfl ?_
  refine g_aload_n C (x := b) 3 rfl dL_law_597 rfl ?_
  refine g_iload_n C 0 rfl dL_law_598 rfl ?_
  refine g_iconst C dL_law_599 rfl ?_
  refine g_iadd C (r := ((6 * j + 1 : Nat) : Int)) (by omega) dL_law_600 rfl ?_
  refine g_sld C hX hbl hbA (i := 6 * j + 1) (by omega) hL dL_law_601 rfl ?_
  refine g_aload_n C (x := b) 3 rfl dL_law_602 rfl ?_
  refine g_iload_n C 0 rfl dL_law_603 rfl ?_
  refine g_iconst C dL_law_604 rfl ?_
  refine g_iadd C (r := ((6 * j + 2 : Nat) : Int)) (by omega) dL_law_605 rfl ?_
  refine g_sld C hX hbl hbA (i := 6 * j + 2) (by omega) hL dL_law_606 rfl ?_
  refine g_callW C (b := qm) (As := [vI (sv xs (6 * j + 1)), vI (sv xs (6 * j + 2))]) (k' := 100 + 40 * j + 0) (n' := 3000 + 5000 * j + 0) gL_law_X11_fault (ci := 12) (let ⟨fs, h⟩ := MS_mem hm; ⟨fs, List.mem_append_left _ h⟩) rfl rfl (Mc.frame (RB_fault hm hS (by omega) (sv_b xs _) (sv_b xs _)) List.perm_append_comm) hyL_X11_fault rfl ⟨rfl, rfl⟩ ⟨Nat.le_of_ble_eq_true rfl, Nat.le_of_ble_eq_true rfl, (by show 100 + 40 * j + 0 ≤ 600000; omega), (by show 3000 + 5000 * j + 0 ≤ 7302250; omega)⟩ (Nat.le_of_ble_eq_true rfl) dL_law_607 rfl rfl rfl ?_
  rintro v2 w2 ⟨wm1, ⟨rfl, hm1⟩, rfl⟩
  refine g_icmpS C dL_law_610 rfl ?_
  exact g_wid (by omega) (by omega) (kk _ _ _ _ _ _ _ hx1 hm1 (ST_inv hS (inv_fault hS.1)))
theorem hyL_X10_healthy : yX10_healthy.cls ≠ "java/lang/invoke/MethodHandle" ∧ yX10_healthy.cls ≠ "java/lang/invoke/VarHandle" ∧ (parseMethodDescriptor yX10_healthy.desc).map (fun d => d.parameters.length) = some 0 := ⟨by decide +kernel, by decide +kernel, by decide +kernel⟩
theorem hyL_X11_healthy : yX11_healthy.cls ≠ "java/lang/invoke/MethodHandle" ∧ yX11_healthy.cls ≠ "java/lang/invoke/VarHandle" ∧ (parseMethodDescriptor yX11_healthy.desc).map (fun d => d.parameters.length) = some 0 := ⟨by decide +kernel, by decide +kernel, by decide +kernel⟩
set_option maxHeartbeats 1000000 in
set_option maxRecDepth 20000 in
theorem lawOp_heal (C : Cx p s m args meth c E A 4 cL_law wsL_law RL) {b L : Nat} {xs : Nat → Int32} (hX : va_X b L xs s s.heap) (hbl : b < s.heap.size) (hbA : ¬ A b) (hL : L ≤ 3072) {j : Nat} (hj : 6 * j + 6 ≤ L) {qx qm : Nat} (kk : ∀ (a tx s3 s4 : Int → Int) (pn : Int) (wx wm : va_W), XS E a tx s3 s4 pn qx wx → MS E a tx s3 s4 pn qm wm → ST a tx s3 s4 pn (5000 * (j : Int) + 5000) → G p l e room_1 s m args below meth c Q E A 4 (100 + 40 * j + 40) (3000 + 5000 * j + 5000) (wx ++ wm) (lvL b qx qm (6 * j)) 1107 []) {a tx s3 s4 : Int → Int} {pn : Int} {wx wm : va_W} (hx : XS E a tx s3 s4 pn qx wx) (hm : MS E a tx s3 s4 pn qm wm) (hS : ST a tx s3 s4 pn (5000 * (j : Int))) : G p l e room_1 s m args below meth c Q E A 4 (100 + 40 * j) (3000 + 5000 * j) (wx ++ wm) (lvL b qx qm (6 * j)) 615 [] := by
  refine g_aload_n C (x := qx) 2 rfl dL_law_615 rfl ?_
  refine g_callW C (b := qx) (As := []) (k' := 100 + 40 * j + 0) (n' := 3000 + 5000 * j + 0) gL_law_X10_healthy (ci := 11) (let ⟨fs, h⟩ := XS_mem hx; ⟨fs, List.mem_append_left _ h⟩) rfl rfl (Mc.frame (XB_heal hx hS (by omega)) List.perm_append_comm) hyL_X10_healthy rfl ⟨rfl, rfl⟩ ⟨Nat.le_of_ble_eq_true rfl, Nat.le_of_ble_eq_true rfl, (by show 100 + 40 * j + 0 ≤ 600000; omega), (by show 3000 + 5000 * j + 0 ≤ 7302250; omega)⟩ (Nat.le_of_ble_eq_true rfl) dL_law_616 rfl rfl rfl ?_
  rintro v1 w1 ⟨wx1, ⟨rfl, hx1⟩, rfl⟩
  refine g_aload_n C (x := qm) 1 rfl dL_law_619 rfl ?_
  refine g_callW C (b := qm) (As := []) (k' := 100 + 40 * j + 0) (n' := 3000 + 5000 * j + 0) gL_law_X11_healthy (ci := 12) (let ⟨fs, h⟩ := MS_mem hm; ⟨fs, List.mem_append_left _ h⟩) rfl rfl (Mc.frame (RB_heal hm hS (by omega)) List.perm_append_comm) hyL_X11_healthy rfl ⟨rfl, rfl⟩ ⟨Nat.le_of_ble_eq_true rfl, Nat.le_of_ble_eq_true rfl, (by show 100 + 40 * j + 0 ≤ 600000; omega), (by show 3000 + 5000 * j + 0 ≤ 7302250; omega)⟩ (Nat.le_of_ble_eq_true rfl) dL_law_620 rfl rfl rfl ?_
  rintro v2 w2 ⟨wm1, ⟨rfl, hm1⟩, rfl⟩
  refine g_icmpS C dL_law_623 rfl ?_
  exact g_wid (by omega) (by omega) (kk _ _ _ _ _ _ _ hx1 hm1 (ST_inv hS (inv_heal hS.1)))
theorem hyL_X10_phasor : yX10_phasor.cls ≠ "java/lang/invoke/MethodHandle" ∧ yX10_phasor.cls ≠ "java/lang/invoke/VarHandle" ∧ (parseMethodDescriptor yX10_phasor.desc).map (fun d => d.parameters.length) = some 1 := ⟨by decide +kernel, by decide +kernel, by decide +kernel⟩
theorem hyL_X11_phasor : yX11_phasor.cls ≠ "java/lang/invoke/MethodHandle" ∧ yX11_phasor.cls ≠ "java/lang/invoke/VarHandle" ∧ (parseMethodDescriptor yX11_phasor.desc).map (fun d => d.parameters.length) = some 1 := ⟨by decide +kernel, by decide +kernel, by decide +kernel⟩
set_option maxHeartbeats 1000000 in
set_option maxRecDepth 20000 in
theorem lawOp_phasor (C : Cx p s m args meth c E A 4 cL_law wsL_law RL) {b L : Nat} {xs : Nat → Int32} (hX : va_X b L xs s s.heap) (hbl : b < s.heap.size) (hbA : ¬ A b) (hL : L ≤ 3072) {j : Nat} (hj : 6 * j + 6 ≤ L) {qx qm : Nat} (kk : ∀ (a tx s3 s4 : Int → Int) (pn : Int) (wx wm : va_W), XS E a tx s3 s4 pn qx wx → MS E a tx s3 s4 pn qm wm → ST a tx s3 s4 pn (5000 * (j : Int) + 5000) → G p l e room_1 s m args below meth c Q E A 4 (100 + 40 * j + 40) (3000 + 5000 * j + 5000) (wx ++ wm) (lvL b qx qm (6 * j)) 1107 []) {a tx s3 s4 : Int → Int} {pn : Int} {wx wm : va_W} (hx : XS E a tx s3 s4 pn qx wx) (hm : MS E a tx s3 s4 pn qm wm) (hS : ST a tx s3 s4 pn (5000 * (j : Int))) : G p l e room_1 s m args below meth c Q E A 4 (100 + 40 * j) (3000 + 5000 * j) (wx ++ wm) (lvL b qx qm (6 * j)) 628 [] := by
  refine g_aload_n C (x := qx) 2 rfl dL_law_628 rfl ?_
  refine g_aload_n C (x := b) 3 rfl dL_law_629 rfl ?_
  refine g_iload_n C 0 rfl dL_law_630 rfl ?_
  refine g_iconst C dL_law_631 rfl ?_
  refine g_iadd C (r := ((6 * j + 1 : Nat) : Int)) (by omega) dL_law_632 rfl ?_
  refine g_sld C hX hbl hbA (i := 6 * j + 1) (by omega) hL dL_law_633 rfl ?_
  refine g_callW C (b := qx) (As := [vI (sv xs (6 * j + 1))]) (k' := 100 + 40 * j + 0) (n' := 3000 + 5000 * j + 0) gL_law_X10_phasor (ci := 11) (let ⟨fs, h⟩ := XS_mem hx; ⟨fs, List.mem_append_left _ h⟩) rfl rfl (Mc.frame (XB_phasor hx hS (by omega) (sv_b xs _)) List.perm_append_comm) hyL_X10_phasor rfl ⟨rfl, rfl⟩ ⟨Nat.le_of_ble_eq_true rfl, Nat.le_of_ble_eq_true rfl, (by show 100 + 40 * j + 0 ≤ 600000; omega), (by show 3000 + 5000 * j + 0 ≤ 7302250; omega)⟩ (Nat.le_of_ble_eq_true rfl) dL_law_634 rfl rfl rfl ?_
  rintro v1 w1 ⟨wx1, ⟨rfl, hx1⟩, rfl⟩
  refine g_aload_n C (x := qm) 1 rfl dL_law_637 rfl ?_
  refine g_aload_n C (x := b) 3 rfl dL_law_638 rfl ?_
  refine g_iload_n C 0 rfl dL_law_639 rfl ?_
  refine g_iconst C dL_law_640 rfl ?_
  refine g_iadd C (r := ((6 * j + 1 : Nat) : Int)) (by omega) dL_law_641 rfl ?_
  refine g_sld C hX hbl hbA (i := 6 * j + 1) (by omega) hL dL_law_642 rfl ?_
  refine g_callW C (b := qm) (As := [vI (sv xs (6 * j + 1))]) (k' := 100 + 40 * j + 0) (n' := 3000 + 5000 * j + 0) gL_law_X11_phasor (ci := 12) (let ⟨fs, h⟩ := MS_mem hm; ⟨fs, List.mem_append_left _ h⟩) rfl rfl (Mc.frame (RB_phasor hm hS (by omega) (sv_b xs _)) List.perm_append_comm) hyL_X11_phasor rfl ⟨rfl, rfl⟩ ⟨Nat.le_of_ble_eq_true rfl, Nat.le_of_ble_eq_true rfl, (by show 100 + 40 * j + 0 ≤ 600000; omega), (by show 3000 + 5000 * j + 0 ≤ 7302250; omega)⟩ (Nat.le_of_ble_eq_true rfl) dL_law_643 rfl rfl rfl ?_
  rintro v2 w2 ⟨wm1, ⟨rfl, hm1⟩, rfl⟩
  refine g_lcmpS C dL_law_646 rfl dL_law_647 rfl ?_
  exact g_wid (by omega) (by omega) (kk _ _ _ _ _ _ _ hx1 hm1 (ST_same hS))
theorem hyL_X10_pass : yX10_pass.cls ≠ "java/lang/invoke/MethodHandle" ∧ yX10_pass.cls ≠ "java/lang/invoke/VarHandle" ∧ (parseMethodDescriptor yX10_pass.desc).map (fun d => d.parameters.length) = some 1 := ⟨by decide +kernel, by decide +kernel, by decide +kernel⟩
theorem hyL_X11_pass : yX11_pass.cls ≠ "java/lang/invoke/MethodHandle" ∧ yX11_pass.cls ≠ "java/lang/invoke/VarHandle" ∧ (parseMethodDescriptor yX11_pass.desc).map (fun d => d.parameters.length) = some 1 := ⟨by decide +kernel, by decide +kernel, by decide +kernel⟩
set_option maxHeartbeats 1000000 in
set_option maxRecDepth 20000 in
theorem lawOp_pass (C : Cx p s m args meth c E A 4 cL_law wsL_law RL) {b L : Nat} {xs : Nat → Int32} (hX : va_X b L xs s s.heap) (hbl : b < s.heap.size) (hbA : ¬ A b) (hL : L ≤ 3072) {j : Nat} (hj : 6 * j + 6 ≤ L) {qx qm : Nat} (kk : ∀ (a tx s3 s4 : Int → Int) (pn : Int) (wx wm : va_W), XS E a tx s3 s4 pn qx wx → MS E a tx s3 s4 pn qm wm → ST a tx s3 s4 pn (5000 * (j : Int) + 5000) → G p l e room_1 s m args below meth c Q E A 4 (100 + 40 * j + 40) (3000 + 5000 * j + 5000) (wx ++ wm) (lvL b qx qm (6 * j)) 1107 []) {a tx s3 s4 : Int → Int} {pn : Int} {wx wm : va_W} (hx : XS E a tx s3 s4 pn qx wx) (hm : MS E a tx s3 s4 pn qm wm) (hS : ST a tx s3 s4 pn (5000 * (j : Int))) : G p l e room_1 s m args below meth c Q E A 4 (100 + 40 * j) (3000 + 5000 * j) (wx ++ wm) (lvL b qx qm (6 * j)) 652 [] := by
  refine g_aload_n C (x := qx) 2 rfl dL_law_652 rfl ?_
  refine g_aload_n C (x := b) 3 rfl dL_law_653 rfl ?_
  refine g_iload_n C 0 rfl dL_law_654 rfl ?_
  refine g_iconst C dL_law_655 rfl ?_
  refine g_iadd C (r := ((6 * j + 1 : Nat) : Int)) (by omega) dL_law_656 rfl ?_
  refine g_sld C hX hbl hbA (i := 6 * j + 1) (by omega) hL dL_law_657 rfl ?_
  refine g_callW C (b := qx) (As := [vI (sv xs (6 * j + 1))]) (k' := 100 + 40 * j + 0) (n' := 3000 + 5000 * j + 0) gL_law_X10_pass (ci := 11) (let ⟨fs, h⟩ := XS_mem hx; ⟨fs, List.mem_append_left _ h⟩) rfl rfl (Mc.frame (XB_pass hx hS (by omega) (sv_b xs _)) List.perm_append_comm) hyL_X10_pass rfl ⟨rfl, rfl⟩ ⟨Nat.le_of_ble_eq_true rfl, Nat.le_of_ble_eq_true rfl, (by show 100 + 40 * j + 0 ≤ 600000; omega), (by show 3000 + 5000 * j + 0 ≤ 7302250; omega)⟩ (Nat.le_of_ble_eq_true rfl) dL_law_658 rfl rfl rfl ?_
  rintro v1 w1 ⟨wx1, ⟨rfl, hx1⟩, rfl⟩
  refine g_aload_n C (x := qm) 1 rfl dL_law_661 rfl ?_
  refine g_aload_n C (x := b) 3 rfl dL_law_662 rfl ?_
  refine g_iload_n C 0 rfl dL_law_663 rfl ?_
  refine g_iconst C dL_law_664 rfl ?_
  refine g_iadd C (r := ((6 * j + 1 : Nat) : Int)) (by omega) dL_law_665 rfl ?_
  refine g_sld C hX hbl hbA (i := 6 * j + 1) (by omega) hL dL_law_666 rfl ?_
  refine g_callW C (b := qm) (As := [vI (sv xs (6 * j + 1))]) (k' := 100 + 40 * j + 0) (n' := 3000 + 5000 * j + 0) gL_law_X11_pass (ci := 12) (let ⟨fs, h⟩ := MS_mem hm; ⟨fs, List.mem_append_left _ h⟩) rfl rfl (Mc.frame (RB_pass hm hS (by omega) (sv_b xs _)) List.perm_append_comm) hyL_X11_pass rfl ⟨rfl, rfl⟩ ⟨Nat.le_of_ble_eq_true rfl, Nat.le_of_ble_eq_true rfl, (by show 100 + 40 * j + 0 ≤ 600000; omega), (by show 3000 + 5000 * j + 0 ≤ 7302250; omega)⟩ (Nat.le_of_ble_eq_true rfl) dL_law_667 rfl rfl rfl ?_
  rintro v2 w2 ⟨wm1, ⟨rfl, hm1⟩, rfl⟩
  refine g_icmpS C dL_law_670 rfl ?_
  exact g_wid (by omega) (by omega) (kk _ _ _ _ _ _ _ hx1 hm1 (ST_pass hS))
theorem hyL_X10_measure : yX10_measure.cls ≠ "java/lang/invoke/MethodHandle" ∧ yX10_measure.cls ≠ "java/lang/invoke/VarHandle" ∧ (parseMethodDescriptor yX10_measure.desc).map (fun d => d.parameters.length) = some 1 := ⟨by decide +kernel, by decide +kernel, by decide +kernel⟩
theorem hyL_X11_measure : yX11_measure.cls ≠ "java/lang/invoke/MethodHandle" ∧ yX11_measure.cls ≠ "java/lang/invoke/VarHandle" ∧ (parseMethodDescriptor yX11_measure.desc).map (fun d => d.parameters.length) = some 1 := ⟨by decide +kernel, by decide +kernel, by decide +kernel⟩
set_option maxHeartbeats 1000000 in
set_option maxRecDepth 20000 in
theorem lawOp_measure (C : Cx p s m args meth c E A 4 cL_law wsL_law RL) {b L : Nat} {xs : Nat → Int32} (hX : va_X b L xs s s.heap) (hbl : b < s.heap.size) (hbA : ¬ A b) (hL : L ≤ 3072) {j : Nat} (hj : 6 * j + 6 ≤ L) {qx qm : Nat} (kk : ∀ (a tx s3 s4 : Int → Int) (pn : Int) (wx wm : va_W), XS E a tx s3 s4 pn qx wx → MS E a tx s3 s4 pn qm wm → ST a tx s3 s4 pn (5000 * (j : Int) + 5000) → G p l e room_1 s m args below meth c Q E A 4 (100 + 40 * j + 40) (3000 + 5000 * j + 5000) (wx ++ wm) (lvL b qx qm (6 * j)) 1107 []) {a tx s3 s4 : Int → Int} {pn : Int} {wx wm : va_W} (hx : XS E a tx s3 s4 pn qx wx) (hm : MS E a tx s3 s4 pn qm wm) (hS : ST a tx s3 s4 pn (5000 * (j : Int))) : G p l e room_1 s m args below meth c Q E A 4 (100 + 40 * j) (3000 + 5000 * j) (wx ++ wm) (lvL b qx qm (6 * j)) 675 [] := by
  refine g_aload_n C (x := qx) 2 rfl dL_law_675 rfl ?_
  refine g_aload_n C (x := b) 3 rfl dL_law_676 rfl ?_
  refine g_iload_n C 0 rfl dL_law_677 rfl ?_
  refine g_iconst C dL_law_678 rfl ?_
  refine g_iadd C (r := ((6 * j + 1 : Nat) : Int)) (by omega) dL_law_679 rfl ?_
  refine g_sld C hX hbl hbA (i := 6 * j + 1) (by omega) hL dL_law_680 rfl ?_
  refine g_callW C (b := qx) (As := [vI (sv xs (6 * j + 1))]) (k' := 100 + 40 * j + 0) (n' := 3000 + 5000 * j + 0) gL_law_X10_measure (ci := 11) (let ⟨fs, h⟩ := XS_mem hx; ⟨fs, List.mem_append_left _ h⟩) rfl rfl (Mc.frame (XB_measure hx hS (by omega) (sv_b xs _)) List.perm_append_comm) hyL_X10_measure rfl ⟨rfl, rfl⟩ ⟨Nat.le_of_ble_eq_true rfl, Nat.le_of_ble_eq_true rfl, (by show 100 + 40 * j + 0 ≤ 600000; omega), (by show 3000 + 5000 * j + 0 ≤ 7302250; omega)⟩ (Nat.le_of_ble_eq_true rfl) dL_law_681 rfl rfl rfl ?_
  rintro v1 w1 ⟨wx1, ⟨rfl, hx1⟩, rfl⟩
  refine g_aload_n C (x := qm) 1 rfl dL_law_684 rfl ?_
  refine g_aload_n C (x := b) 3 rfl dL_law_685 rfl ?_
  refine g_iload_n C 0 rfl dL_law_686 rfl ?_
  refine g_iconst C dL_law_687 rfl ?_
  refine g_iadd C (r := ((6 * j + 1 : Nat) : Int)) (by omega) dL_law_688 rfl ?_
  refine g_sld C hX hbl hbA (i := 6 * j + 1) (by omega) hL dL_law_689 rfl ?_
  refine g_callW C (b := qm) (As := [vI (sv xs (6 * j + 1))]) (k' := 100 + 40 * j + 0) (n' := 3000 + 5000 * j + 0) gL_law_X11_measure (ci := 12) (let ⟨fs, h⟩ := MS_mem hm; ⟨fs, List.mem_append_left _ h⟩) rfl rfl (Mc.frame (RB_measure hm hS (by omega) (sv_b xs _)) List.perm_append_comm) hyL_X11_measure rfl ⟨rfl, rfl⟩ ⟨Nat.le_of_ble_eq_true rfl, Nat.le_of_ble_eq_true rfl, (by show 100 + 40 * j + 0 ≤ 600000; omega), (by show 3000 + 5000 * j + 0 ≤ 7302250; omega)⟩ (Nat.le_of_ble_eq_true rfl) dL_law_690 rfl rfl rfl ?_
  rintro v2 w2 ⟨wm1, ⟨rfl, hm1⟩, rfl⟩
  refine g_lcmpS C dL_law_693 rfl dL_law_694 rfl ?_
  exact g_wid (by omega) (by omega) (kk _ _ _ _ _ _ _ hx1 hm1 (ST_same hS))
theorem hyL_X10_state : yX10_state.cls ≠ "java/lang/invoke/MethodHandle" ∧ yX10_state.cls ≠ "java/lang/invoke/VarHandle" ∧ (parseMethodDescriptor yX10_state.desc).map (fun d => d.parameters.length) = some 2 := ⟨by decide +kernel, by decide +kernel, by decide +kernel⟩
theorem hyL_X11_state : yX11_state.cls ≠ "java/lang/invoke/MethodHandle" ∧ yX11_state.cls ≠ "java/lang/invoke/VarHandle" ∧ (parseMethodDescriptor yX11_state.desc).map (fun d => d.parameters.length) = some 2 := ⟨by decide +kernel, by decide +kernel, by decide +kernel⟩
set_option maxHeartbeats 1000000 in
set_option maxRecDepth 20000 in
theorem lawOp_state (C : Cx p s m args meth c E A 4 cL_law wsL_law RL) {b L : Nat} {xs : Nat → Int32} (hX : va_X b L xs s s.heap) (hbl : b < s.heap.size) (hbA : ¬ A b) (hL : L ≤ 3072) {j : Nat} (hj : 6 * j + 6 ≤ L) {qx qm : Nat} (kk : ∀ (a tx s3 s4 : Int → Int) (pn : Int) (wx wm : va_W), XS E a tx s3 s4 pn qx wx → MS E a tx s3 s4 pn qm wm → ST a tx s3 s4 pn (5000 * (j : Int) + 5000) → G p l e room_1 s m args below meth c Q E A 4 (100 + 40 * j + 40) (3000 + 5000 * j + 5000) (wx ++ wm) (lvL b qx qm (6 * j)) 1107 []) {a tx s3 s4 : Int → Int} {pn : Int} {wx wm : va_W} (hx : XS E a tx s3 s4 pn qx wx) (hm : MS E a tx s3 s4 pn qm wm) (hS : ST a tx s3 s4 pn (5000 * (j : Int))) : G p l e room_1 s m args below meth c Q E A 4 (100 + 40 * j) (3000 + 5000 * j) (wx ++ wm) (lvL b qx qm (6 * j)) 699 [] := by
  refine g_aload_n C (x := qx) 2 rfl dL_law_699 rfl ?_
  refine g_aload_n C (x := b) 3 rfl dL_law_700 rfl ?_
  refine g_iload_n C 0 rfl dL_law_701 rfl ?_
  refine g_iconst C dL_law_702 rfl ?_
  refine g_iadd C (r := ((6 * j + 1 : Nat) : Int)) (by omega) dL_law_703 rfl ?_
  refine g_sld C hX hbl hbA (i := 6 * j + 1) (by omega) hL dL_law_704 rfl ?_
  refine g_aload_n C (x := b) 3 rfl dL_law_705 rfl ?_
  refine g_iload_n C 0 rfl dL_law_706 rfl ?_
  refine g_iconst C dL_law_707 rfl ?_
  refine g_iadd C (r := ((6 * j + 2 : Nat) : Int)) (by omega) dL_law_708 rfl ?_
  refine g_sld C hX hbl hbA (i := 6 * j + 2) (by omega) hL dL_law_709 rfl ?_
  refine g_callW C (b := qx) (As := [vI (sv xs (6 * j + 1)), vI (sv xs (6 * j + 2))]) (k' := 100 + 40 * j + 0) (n' := 3000 + 5000 * j + 0) gL_law_X10_state (ci := 11) (let ⟨fs, h⟩ := XS_mem hx; ⟨fs, List.mem_append_left _ h⟩) rfl rfl (Mc.frame (XB_state hx hS (by omega) (sv_b xs _) (sv_b xs _)) List.perm_append_comm) hyL_X10_state rfl ⟨rfl, rfl⟩ ⟨Nat.le_of_ble_eq_true rfl, Nat.le_of_ble_eq_true rfl, (by show 100 + 40 * j + 0 ≤ 600000; omega), (by show 3000 + 5000 * j + 0 ≤ 7302250; omega)⟩ (Nat.le_of_ble_eq_true rfl) dL_law_710 rfl rfl rfl ?_
  rintro v1 w1 ⟨wx1, ⟨rfl, hx1⟩, rfl⟩
  refine g_aload_n C (x := qm) 1 rfl dL_law_713 rfl ?_
  refine g_aload_n C (x := b) 3 rfl dL_law_714 rfl ?_
  refine g_iload_n C 0 rfl dL_law_715 rfl ?_
  refine g_iconst C dL_law_716 rfl ?_
  refine g_iadd C (r := ((6 * j + 1 : Nat) : Int)) (by omega) dL_law_717 rfl ?_
  refine g_sld C hX hbl hbA (i := 6 * j + 1) (by omega) hL dL_law_718 rfl ?_
  refine g_aload_n C (x := b) 3 rfl dL_law_719 rfl ?_
  refine g_iload_n C 0 rfl dL_law_720 rfl ?_
  refine g_iconst C dL_law_721 rfl ?_
  refine g_iadd C (r := ((6 * j + 2 : Nat) : Int)) (by omega) dL_law_722 rfl ?_
  refine g_sld C hX hbl hbA (i := 6 * j + 2) (by omega) hL dL_law_723 rfl ?_
  refine g_callW C (b := qm) (As := [vI (sv xs (6 * j + 1)), vI (sv xs (6 * j + 2))]) (k' := 100 + 40 * j + 0) (n' := 3000 + 5000 * j + 0) gL_law_X11_state (ci := 12) (let ⟨fs, h⟩ := MS_mem hm; ⟨fs, List.mem_append_left _ h⟩) rfl rfl (Mc.frame (RB_state hm hS (by omega) (sv_b xs _) (sv_b xs _)) List.perm_append_comm) hyL_X11_state rfl ⟨rfl, rfl⟩ ⟨Nat.le_of_ble_eq_true rfl, Nat.le_of_ble_eq_true rfl, (by show 100 + 40 * j + 0 ≤ 600000; omega), (by show 3000 + 5000 * j + 0 ≤ 7302250; omega)⟩ (Nat.le_of_ble_eq_true rfl) dL_law_724 rfl rfl rfl ?_
  rintro v2 w2 ⟨wm1, ⟨rfl, hm1⟩, rfl⟩
  refine g_icmpS C dL_law_727 rfl ?_
  exact g_wid (by omega) (by omega) (kk _ _ _ _ _ _ _ hx1 hm1 (ST_same hS))
theorem hyL_X10_tripped : yX10_tripped.cls ≠ "java/lang/invoke/MethodHandle" ∧ yX10_tripped.cls ≠ "java/lang/invoke/VarHandle" ∧ (parseMethodDescriptor yX10_tripped.desc).map (fun d => d.parameters.length) = some 0 := ⟨by decide +kernel, by decide +kernel, by decide +kernel⟩
theorem hyL_X11_tripped : yX11_tripped.cls ≠ "java/lang/invoke/MethodHandle" ∧ yX11_tripped.cls ≠ "java/lang/invoke/VarHandle" ∧ (parseMethodDescriptor yX11_tripped.desc).map (fun d => d.parameters.length) = some 0 := ⟨by decide +kernel, by decide +kernel, by decide +kernel⟩
set_option maxHeartbeats 1000000 in
set_option maxRecDepth 20000 in
theorem lawOp_tripped (C : Cx p s m args meth c E A 4 cL_law wsL_law RL) {b L : Nat} {xs : Nat → Int32} (hX : va_X b L xs s s.heap) (hbl : b < s.heap.size) (hbA : ¬ A b) (hL : L ≤ 3072) {j : Nat} (hj : 6 * j + 6 ≤ L) {qx qm : Nat} (kk : ∀ (a tx s3 s4 : Int → Int) (pn : Int) (wx wm : va_W), XS E a tx s3 s4 pn qx wx → MS E a tx s3 s4 pn qm wm → ST a tx s3 s4 pn (5000 * (j : Int) + 5000) → G p l e room_1 s m args below meth c Q E A 4 (100 + 40 * j + 40) (3000 + 5000 * j + 5000) (wx ++ wm) (lvL b qx qm (6 * j)) 1107 []) {a tx s3 s4 : Int → Int} {pn : Int} {wx wm : va_W} (hx : XS E a tx s3 s4 pn qx wx) (hm : MS E a tx s3 s4 pn qm wm) (hS : ST a tx s3 s4 pn (5000 * (j : Int))) : G p l e room_1 s m args below meth c Q E A 4 (100 + 40 * j) (3000 + 5000 * j) (wx ++ wm) (lvL b qx qm (6 * j)) 732 [] := by
  refine g_aload_n C (x := qx) 2 rfl dL_law_732 rfl ?_
  refine g_callW C (b := qx) (As := []) (k' := 100 + 40 * j + 0) (n' := 3000 + 5000 * j + 0) gL_law_X10_tripped (ci := 11) (let ⟨fs, h⟩ := XS_mem hx; ⟨fs, List.mem_append_left _ h⟩) rfl rfl (Mc.frame (XB_tripped hx hS (by omega)) List.perm_append_comm) hyL_X10_tripped rfl ⟨rfl, rfl⟩ ⟨Nat.le_of_ble_eq_true rfl, Nat.le_of_ble_eq_true rfl, (by show 100 + 40 * j + 0 ≤ 600000; omega), (by show 3000 + 5000 * j + 0 ≤ 7302250; omega)⟩ (Nat.le_of_ble_eq_true rfl) dL_law_733 rfl rfl rfl ?_
  rintro v1 w1 ⟨wx1, ⟨rfl, hx1⟩, rfl⟩
  refine g_aload_n C (x := qm) 1 rfl dL_law_736 rfl ?_
  refine g_callW C (b := qm) (As := []) (k' := 100 + 40 * j + 0) (n' := 3000 + 5000 * j + 0) gL_law_X11_tripped (ci := 12) (let ⟨fs, h⟩ := MS_mem hm; ⟨fs, List.mem_append_left _ h⟩) rfl rfl (Mc.frame (RB_tripped hm hS (by omega)) List.perm_append_comm) hyL_X11_tripped rfl ⟨rfl, rfl⟩ ⟨Nat.le_of_ble_eq_true rfl, Nat.le_of_ble_eq_true rfl, (by show 100 + 40 * j + 0 ≤ 600000; omega), (by show 3000 + 5000 * j + 0 ≤ 7302250; omega)⟩ (Nat.le_of_ble_eq_true rfl) dL_law_737 rfl rfl rfl ?_
  rintro v2 w2 ⟨wm1, ⟨rfl, hm1⟩, rfl⟩
  refine g_icmpS C dL_law_740 rfl ?_
  exact g_wid (by omega) (by omega) (kk _ _ _ _ _ _ _ hx1 hm1 (ST_same hS))
theorem hyL_X10_reset : yX10_reset.cls ≠ "java/lang/invoke/MethodHandle" ∧ yX10_reset.cls ≠ "java/lang/invoke/VarHandle" ∧ (parseMethodDescriptor yX10_reset.desc).map (fun d => d.parameters.length) = some 0 := ⟨by decide +kernel, by decide +kernel, by decide +kernel⟩
theorem hyL_X11_reset : yX11_reset.cls ≠ "java/lang/invoke/MethodHandle" ∧ yX11_reset.cls ≠ "java/lang/invoke/VarHandle" ∧ (parseMethodDescriptor yX11_reset.desc).map (fun d => d.parameters.length) = some 0 := ⟨by decide +kernel, by decide +kernel, by decide +kernel⟩
set_option maxHeartbeats 1000000 in
set_option maxRecDepth 20000 in
theorem lawOp_reset (C : Cx p s m args meth c E A 4 cL_law wsL_law RL) {b L : Nat} {xs : Nat → Int32} (hX : va_X b L xs s s.heap) (hbl : b < s.heap.size) (hbA : ¬ A b) (hL : L ≤ 3072) {j : Nat} (hj : 6 * j + 6 ≤ L) {qx qm : Nat} (kk : ∀ (a tx s3 s4 : Int → Int) (pn : Int) (wx wm : va_W), XS E a tx s3 s4 pn qx wx → MS E a tx s3 s4 pn qm wm → ST a tx s3 s4 pn (5000 * (j : Int) + 5000) → G p l e room_1 s m args below meth c Q E A 4 (100 + 40 * j + 40) (3000 + 5000 * j + 5000) (wx ++ wm) (lvL b qx qm (6 * j)) 1107 []) {a tx s3 s4 : Int → Int} {pn : Int} {wx wm : va_W} (hx : XS E a tx s3 s4 pn qx wx) (hm : MS E a tx s3 s4 pn qm wm) (hS : ST a tx s3 s4 pn (5000 * (j : Int))) : G p l e room_1 s m args below meth c Q E A 4 (100 + 40 * j) (3000 + 5000 * j) (wx ++ wm) (lvL b qx qm (6 * j)) 745 [] := by
  refine g_aload_n C (x := qx) 2 rfl dL_law_745 rfl ?_
  refine g_callW C (b := qx) (As := []) (k' := 100 + 40 * j + 0) (n' := 3000 + 5000 * j + 0) gL_law_X10_reset (ci := 11) (let ⟨fs, h⟩ := XS_mem hx; ⟨fs, List.mem_append_left _ h⟩) rfl rfl (Mc.frame (XB_reset hx hS (by omega)) List.perm_append_comm) hyL_X10_reset rfl ⟨rfl, rfl⟩ ⟨Nat.le_of_ble_eq_true rfl, Nat.le_of_ble_eq_true rfl, (by show 100 + 40 * j + 0 ≤ 600000; omega), (by show 3000 + 5000 * j + 0 ≤ 7302250; omega)⟩ (Nat.le_of_ble_eq_true rfl) dL_law_746 rfl rfl rfl ?_
  rintro v1 w1 ⟨wx1, ⟨rfl, hx1⟩, rfl⟩
  refine g_aload_n C (x := qm) 1 rfl dL_law_749 rfl ?_
  refine g_callW C (b := qm) (As := []) (k' := 100 + 40 * j + 0) (n' := 3000 + 5000 * j + 0) gL_law_X11_reset (ci := 12) (let ⟨fs, h⟩ := MS_mem hm; ⟨fs, List.mem_append_left _ h⟩) rfl rfl (Mc.frame (RB_reset hm hS (by omega)) List.perm_append_comm) hyL_X11_reset rfl ⟨rfl, rfl⟩ ⟨Nat.le_of_ble_eq_true rfl, Nat.le_of_ble_eq_true rfl, (by show 100 + 40 * j + 0 ≤ 600000; omega), (by show 3000 + 5000 * j + 0 ≤ 7302250; omega)⟩ (Nat.le_of_ble_eq_true rfl) dL_law_750 rfl rfl rfl ?_
  rintro v2 w2 ⟨wm1, ⟨rfl, hm1⟩, rfl⟩
  refine g_icmpS C dL_law_753 rfl ?_
  exact g_wid (by omega) (by omega) (kk _ _ _ _ _ _ _ hx1 hm1 (ST_inv hS (inv_rst hS.1)))
theorem hyL_X10_event : yX10_event.cls ≠ "java/lang/invoke/MethodHandle" ∧ yX10_event.cls ≠ "java/lang/invoke/VarHandle" ∧ (parseMethodDescriptor yX10_event.desc).map (fun d => d.parameters.length) = some 2 := ⟨by decide +kernel, by decide +kernel, by decide +kernel⟩
theorem hyL_X11_event : yX11_event.cls ≠ "java/lang/invoke/MethodHandle" ∧ yX11_event.cls ≠ "java/lang/invoke/VarHandle" ∧ (parseMethodDescriptor yX11_event.desc).map (fun d => d.parameters.length) = some 2 := ⟨by decide +kernel, by decide +kernel, by decide +kernel⟩
set_option maxHeartbeats 1000000 in
set_option maxRecDepth 20000 in
theorem lawOp_event (C : Cx p s m args meth c E A 4 cL_law wsL_law RL) {b L : Nat} {xs : Nat → Int32} (hX : va_X b L xs s s.heap) (hbl : b < s.heap.size) (hbA : ¬ A b) (hL : L ≤ 3072) {j : Nat} (hj : 6 * j + 6 ≤ L) {qx qm : Nat} (kk : ∀ (a tx s3 s4 : Int → Int) (pn : Int) (wx wm : va_W), XS E a tx s3 s4 pn qx wx → MS E a tx s3 s4 pn qm wm → ST a tx s3 s4 pn (5000 * (j : Int) + 5000) → G p l e room_1 s m args below meth c Q E A 4 (100 + 40 * j + 40) (3000 + 5000 * j + 5000) (wx ++ wm) (lvL b qx qm (6 * j)) 1107 []) {a tx s3 s4 : Int → Int} {pn : Int} {wx wm : va_W} (hx : XS E a tx s3 s4 pn qx wx) (hm : MS E a tx s3 s4 pn qm wm) (hS : ST a tx s3 s4 pn (5000 * (j : Int))) : G p l e room_1 s m args below meth c Q E A 4 (100 + 40 * j) (3000 + 5000 * j) (wx ++ wm) (lvL b qx qm (6 * j)) 758 [] := by
  refine g_aload_n C (x := qx) 2 rfl dL_law_758 rfl ?_
  refine g_aload_n C (x := b) 3 rfl dL_law_759 rfl ?_
  refine g_iload_n C 0 rfl dL_law_760 rfl ?_
  refine g_iconst C dL_law_761 rfl ?_
  refine g_iadd C (r := ((6 * j + 1 : Nat) : Int)) (by omega) dL_law_762 rfl ?_
  refine g_sld C hX hbl hbA (i := 6 * j + 1) (by omega) hL dL_law_763 rfl ?_
  refine g_aload_n C (x := b) 3 rfl dL_law_764 rfl ?_
  refine g_iload_n C 0 rfl dL_law_765 rfl ?_
  refine g_iconst C dL_law_766 rfl ?_
  refine g_iadd C (r := ((6 * j + 2 : Nat) : Int)) (by omega) dL_law_767 rfl ?_
  refine g_sld C hX hbl hbA (i := 6 * j + 2) (by omega) hL dL_law_768 rfl ?_
  refine g_callW C (b := qx) (As := [vI (sv xs (6 * j + 1)), vI (sv xs (6 * j + 2))]) (k' := 100 + 40 * j + 0) (n' := 3000 + 5000 * j + 0) gL_law_X10_event (ci := 11) (let ⟨fs, h⟩ := XS_mem hx; ⟨fs, List.mem_append_left _ h⟩) rfl rfl (Mc.frame (XB_event hx hS (by omega) (sv_b xs _) (sv_b xs _)) List.perm_append_comm) hyL_X10_event rfl ⟨rfl, rfl⟩ ⟨Nat.le_of_ble_eq_true rfl, Nat.le_of_ble_eq_true rfl, (by show 100 + 40 * j + 0 ≤ 600000; omega), (by show 3000 + 5000 * j + 0 ≤ 7302250; omega)⟩ (Nat.le_of_ble_eq_true rfl) dL_law_769 rfl rfl rfl ?_
  rintro v1 w1 ⟨wx1, ⟨rfl, hx1⟩, rfl⟩
  refine g_aload_n C (x := qm) 1 rfl dL_law_772 rfl ?_
  refine g_aload_n C (x := b) 3 rfl dL_law_773 rfl ?_
  refine g_iload_n C 0 rfl dL_law_774 rfl ?_
  refine g_iconst C dL_law_775 rfl ?_
  refine g_iadd C (r := ((6 * j + 1 : Nat) : Int)) (by omega) dL_law_776 rfl ?_
  refine g_sld C hX hbl hbA (i := 6 * j + 1) (by omega) hL dL_law_777 rfl ?_
  refine g_aload_n C (x := b) 3 rfl dL_law_778 rfl ?_
  refine g_iload_n C 0 rfl dL_law_779 rfl ?_
  refine g_iconst C dL_law_780 rfl ?_
  refine g_iadd C (r := ((6 * j + 2 : Nat) : Int)) (by omega) dL_law_781 rfl ?_
  refine g_sld C hX hbl hbA (i := 6 * j + 2) (by omega) hL dL_law_782 rfl ?_
  refine g_callW C (b := qm) (As := [vI (sv xs (6 * j + 1)), vI (sv xs (6 * j + 2))]) (k' := 100 + 40 * j + 0) (n' := 3000 + 5000 * j + 0) gL_law_X11_event (ci := 12) (let ⟨fs, h⟩ := MS_mem hm; ⟨fs, List.mem_append_left _ h⟩) rfl rfl (Mc.frame (RB_event hm hS (by omega) (sv_b xs _) (sv_b xs _)) List.perm_append_comm) hyL_X11_event rfl ⟨rfl, rfl⟩ ⟨Nat.le_of_ble_eq_true rfl, Nat.le_of_ble_eq_true rfl, (by show 100 + 40 * j + 0 ≤ 600000; omega), (by show 3000 + 5000 * j + 0 ≤ 7302250; omega)⟩ (Nat.le_of_ble_eq_true rfl) dL_law_783 rfl rfl rfl ?_
  rintro v2 w2 ⟨wm1, ⟨rfl, hm1⟩, rfl⟩
  refine g_icmpS C dL_law_786 rfl ?_
  exact g_wid (by omega) (by omega) (kk _ _ _ _ _ _ _ hx1 hm1 (ST_same hS))
theorem hyL_X10_covers : yX10_covers.cls ≠ "java/lang/invoke/MethodHandle" ∧ yX10_covers.cls ≠ "java/lang/invoke/VarHandle" ∧ (parseMethodDescriptor yX10_covers.desc).map (fun d => d.parameters.length) = some 2 := ⟨by decide +kernel, by decide +kernel, by decide +kernel⟩
theorem hyL_X11_covers : yX11_covers.cls ≠ "java/lang/invoke/MethodHandle" ∧ yX11_covers.cls ≠ "java/lang/invoke/VarHandle" ∧ (parseMethodDescriptor yX11_covers.desc).map (fun d => d.parameters.length) = some 2 := ⟨by decide +kernel, by decide +kernel, by decide +kernel⟩
set_option maxHeartbeats 1000000 in
set_option maxRecDepth 20000 in
theorem lawOp_covers (C : Cx p s m args meth c E A 4 cL_law wsL_law RL) {b L : Nat} {xs : Nat → Int32} (hX : va_X b L xs s s.heap) (hbl : b < s.heap.size) (hbA : ¬ A b) (hL : L ≤ 3072) {j : Nat} (hj : 6 * j + 6 ≤ L) {qx qm : Nat} (kk : ∀ (a tx s3 s4 : Int → Int) (pn : Int) (wx wm : va_W), XS E a tx s3 s4 pn qx wx → MS E a tx s3 s4 pn qm wm → ST a tx s3 s4 pn (5000 * (j : Int) + 5000) → G p l e room_1 s m args below meth c Q E A 4 (100 + 40 * j + 40) (3000 + 5000 * j + 5000) (wx ++ wm) (lvL b qx qm (6 * j)) 1107 []) {a tx s3 s4 : Int → Int} {pn : Int} {wx wm : va_W} (hx : XS E a tx s3 s4 pn qx wx) (hm : MS E a tx s3 s4 pn qm wm) (hS : ST a tx s3 s4 pn (5000 * (j : Int))) : G p l e room_1 s m args below meth c Q E A 4 (100 + 40 * j) (3000 + 5000 * j) (wx ++ wm) (lvL b qx qm (6 * j)) 791 [] := by
  refine g_aload_n C (x := qx) 2 rfl dL_law_791 rfl ?_
  refine g_aload_n C (x := b) 3 rfl dL_law_792 rfl ?_
  refine g_iload_n C 0 rfl dL_law_793 rfl ?_
  refine g_iconst C dL_law_794 rfl ?_
  refine g_iadd C (r := ((6 * j + 1 : Nat) : Int)) (by omega) dL_law_795 rfl ?_
  refine g_sld C hX hbl hbA (i := 6 * j + 1) (by omega) hL dL_law_796 rfl ?_
  refine g_aload_n C (x := b) 3 rfl dL_law_797 rfl ?_
  refine g_iload_n C 0 rfl dL_law_798 rfl ?_
  refine g_iconst C dL_law_799 rfl ?_
  refine g_iadd C (r := ((6 * j + 2 : Nat) : Int)) (by omega) dL_law_800 rfl ?_
  refine g_sld C hX hbl hbA (i := 6 * j + 2) (by omega) hL dL_law_801 rfl ?_
  refine g_callW C (b := qx) (As := [vI (sv xs (6 * j + 1)), vI (sv xs (6 * j + 2))]) (k' := 100 + 40 * j + 0) (n' := 3000 + 5000 * j + 0) gL_law_X10_covers (ci := 11) (let ⟨fs, h⟩ := XS_mem hx; ⟨fs, List.mem_append_left _ h⟩) rfl rfl (Mc.frame (XB_covers hx hS (by omega) (sv_b xs _) (sv_b xs _)) List.perm_append_comm) hyL_X10_covers rfl ⟨rfl, rfl⟩ ⟨Nat.le_of_ble_eq_true rfl, Nat.le_of_ble_eq_true rfl, (by show 100 + 40 * j + 0 ≤ 600000; omega), (by show 3000 + 5000 * j + 0 ≤ 7302250; omega)⟩ (Nat.le_of_ble_eq_true rfl) dL_law_802 rfl rfl rfl ?_
  rintro v1 w1 ⟨wx1, ⟨rfl, hx1⟩, rfl⟩
  refine g_aload_n C (x := qm) 1 rfl dL_law_805 rfl ?_
  refine g_aload_n C (x := b) 3 rfl dL_law_806 rfl ?_
  refine g_iload_n C 0 rfl dL_law_807 rfl ?_
  refine g_iconst C dL_law_808 rfl ?_
  refine g_iadd C (r := ((6 * j + 1 : Nat) : Int)) (by omega) dL_law_809 rfl ?_
  refine g_sld C hX hbl hbA (i := 6 * j + 1) (by omega) hL dL_law_810 rfl ?_
  refine g_aload_n C (x := b) 3 rfl dL_law_811 rfl ?_
  refine g_iload_n C 0 rfl dL_law_812 rfl ?_
  refine g_iconst C dL_law_813 rfl ?_
  refine g_iadd C (r := ((6 * j + 2 : Nat) : Int)) (by omega) dL_law_814 rfl ?_
  refine g_sld C hX hbl hbA (i := 6 * j + 2) (by omega) hL dL_law_815 rfl ?_
  refine g_callW C (b := qm) (As := [vI (sv xs (6 * j + 1)), vI (sv xs (6 * j + 2))]) (k' := 100 + 40 * j + 0) (n' := 3000 + 5000 * j + 0) gL_law_X11_covers (ci := 12) (let ⟨fs, h⟩ := MS_mem hm; ⟨fs, List.mem_append_left _ h⟩) rfl rfl (Mc.frame (RB_covers hm hS (by omega) (sv_b xs _) (sv_b xs _)) List.perm_append_comm) hyL_X11_covers rfl ⟨rfl, rfl⟩ ⟨Nat.le_of_ble_eq_true rfl, Nat.le_of_ble_eq_true rfl, (by show 100 + 40 * j + 0 ≤ 600000; omega), (by show 3000 + 5000 * j + 0 ≤ 7302250; omega)⟩ (Nat.le_of_ble_eq_true rfl) dL_law_816 rfl rfl rfl ?_
  rintro v2 w2 ⟨wm1, ⟨rfl, hm1⟩, rfl⟩
  refine g_icmpS C dL_law_819 rfl ?_
  exact g_wid (by omega) (by omega) (kk _ _ _ _ _ _ _ hx1 hm1 (ST_same hS))
theorem hyL_X10_reach : yX10_reach.cls ≠ "java/lang/invoke/MethodHandle" ∧ yX10_reach.cls ≠ "java/lang/invoke/VarHandle" ∧ (parseMethodDescriptor yX10_reach.desc).map (fun d => d.parameters.length) = some 2 := ⟨by decide +kernel, by decide +kernel, by decide +kernel⟩
theorem hyL_X11_reach : yX11_reach.cls ≠ "java/lang/invoke/MethodHandle" ∧ yX11_reach.cls ≠ "java/lang/invoke/VarHandle" ∧ (parseMethodDescriptor yX11_reach.desc).map (fun d => d.parameters.length) = some 2 := ⟨by decide +kernel, by decide +kernel, by decide +kernel⟩
set_option maxHeartbeats 1000000 in
set_option maxRecDepth 20000 in
theorem lawOp_reach (C : Cx p s m args meth c E A 4 cL_law wsL_law RL) {b L : Nat} {xs : Nat → Int32} (hX : va_X b L xs s s.heap) (hbl : b < s.heap.size) (hbA : ¬ A b) (hL : L ≤ 3072) {j : Nat} (hj : 6 * j + 6 ≤ L) {qx qm : Nat} (kk : ∀ (a tx s3 s4 : Int → Int) (pn : Int) (wx wm : va_W), XS E a tx s3 s4 pn qx wx → MS E a tx s3 s4 pn qm wm → ST a tx s3 s4 pn (5000 * (j : Int) + 5000) → G p l e room_1 s m args below meth c Q E A 4 (100 + 40 * j + 40) (3000 + 5000 * j + 5000) (wx ++ wm) (lvL b qx qm (6 * j)) 1107 []) {a tx s3 s4 : Int → Int} {pn : Int} {wx wm : va_W} (hx : XS E a tx s3 s4 pn qx wx) (hm : MS E a tx s3 s4 pn qm wm) (hS : ST a tx s3 s4 pn (5000 * (j : Int))) : G p l e room_1 s m args below meth c Q E A 4 (100 + 40 * j) (3000 + 5000 * j) (wx ++ wm) (lvL b qx qm (6 * j)) 824 [] := by
  refine g_aload_n C (x := qx) 2 rfl dL_law_824 rfl ?_
  refine g_aload_n C (x := b) 3 rfl dL_law_825 rfl ?_
  refine g_iload_n C 0 rfl dL_law_826 rfl ?_
  refine g_iconst C dL_law_827 rfl ?_
  refine g_iadd C (r := ((6 * j + 1 : Nat) : Int)) (by omega) dL_law_828 rfl ?_
  refine g_sld C hX hbl hbA (i := 6 * j + 1) (by omega) hL dL_law_829 rfl ?_
  refine g_aload_n C (x := b) 3 rfl dL_law_830 rfl ?_
  refine g_iload_n C 0 rfl dL_law_831 rfl ?_
  refine g_iconst C dL_law_832 rfl ?_
  refine g_iadd C (r := ((6 * j + 2 : Nat) : Int)) (by omega) dL_law_833 rfl ?_
  refine g_sld C hX hbl hbA (i := 6 * j + 2) (by omega) hL dL_law_834 rfl ?_
  refine g_callW C (b := qx) (As := [vI (sv xs (6 * j + 1)), vI (sv xs (6 * j + 2))]) (k' := 100 + 40 * j + 0) (n' := 3000 + 5000 * j + 0) gL_law_X10_reach (ci := 11) (let ⟨fs, h⟩ := XS_mem hx; ⟨fs, List.mem_append_left _ h⟩) rfl rfl (Mc.frame (XB_reach hx hS (by omega) (sv_b xs _) (sv_b xs _)) List.perm_append_comm) hyL_X10_reach rfl ⟨rfl, rfl⟩ ⟨Nat.le_of_ble_eq_true rfl, Nat.le_of_ble_eq_true rfl, (by show 100 + 40 * j + 0 ≤ 600000; omega), (by show 3000 + 5000 * j + 0 ≤ 7302250; omega)⟩ (Nat.le_of_ble_eq_true rfl) dL_law_835 rfl rfl rfl ?_
  rintro v1 w1 ⟨wx1, ⟨rfl, hx1⟩, rfl⟩
  refine g_aload_n C (x := qm) 1 rfl dL_law_838 rfl ?_
  refine g_aload_n C (x := b) 3 rfl dL_law_839 rfl ?_
  refine g_iload_n C 0 rfl dL_law_840 rfl ?_
  refine g_iconst C dL_law_841 rfl ?_
  refine g_iadd C (r := ((6 * j + 1 : Nat) : Int)) (by omega) dL_law_842 rfl ?_
  refine g_sld C hX hbl hbA (i := 6 * j + 1) (by omega) hL dL_law_843 rfl ?_
  refine g_aload_n C (x := b) 3 rfl dL_law_844 rfl ?_
  refine g_iload_n C 0 rfl dL_law_845 rfl ?_
  refine g_iconst C dL_law_846 rfl ?_
  refine g_iadd C (r := ((6 * j + 2 : Nat) : Int)) (by omega) dL_law_847 rfl ?_
  refine g_sld C hX hbl hbA (i := 6 * j + 2) (by omega) hL dL_law_848 rfl ?_
  refine g_callW C (b := qm) (As := [vI (sv xs (6 * j + 1)), vI (sv xs (6 * j + 2))]) (k' := 100 + 40 * j + 0) (n' := 3000 + 5000 * j + 0) gL_law_X11_reach (ci := 12) (let ⟨fs, h⟩ := MS_mem hm; ⟨fs, List.mem_append_left _ h⟩) rfl rfl (Mc.frame (RB_reach hm hS (by omega) (sv_b xs _) (sv_b xs _)) List.perm_append_comm) hyL_X11_reach rfl ⟨rfl, rfl⟩ ⟨Nat.le_of_ble_eq_true rfl, Nat.le_of_ble_eq_true rfl, (by show 100 + 40 * j + 0 ≤ 600000; omega), (by show 3000 + 5000 * j + 0 ≤ 7302250; omega)⟩ (Nat.le_of_ble_eq_true rfl) dL_law_849 rfl rfl rfl ?_
  rintro v2 w2 ⟨wm1, ⟨rfl, hm1⟩, rfl⟩
  refine g_icmpS C dL_law_852 rfl ?_
  exact g_wid (by omega) (by omega) (kk _ _ _ _ _ _ _ hx1 hm1 (ST_same hS))
theorem hyL_X10_test : yX10_test.cls ≠ "java/lang/invoke/MethodHandle" ∧ yX10_test.cls ≠ "java/lang/invoke/VarHandle" ∧ (parseMethodDescriptor yX10_test.desc).map (fun d => d.parameters.length) = some 4 := ⟨by decide +kernel, by decide +kernel, by decide +kernel⟩
theorem hyL_X11_test : yX11_test.cls ≠ "java/lang/invoke/MethodHandle" ∧ yX11_test.cls ≠ "java/lang/invoke/VarHandle" ∧ (parseMethodDescriptor yX11_test.desc).map (fun d => d.parameters.length) = some 4 := ⟨by decide +kernel, by decide +kernel, by decide +kernel⟩
set_option maxHeartbeats 1000000 in
set_option maxRecDepth 20000 in
theorem lawOp_test (C : Cx p s m args meth c E A 4 cL_law wsL_law RL) {b L : Nat} {xs : Nat → Int32} (hX : va_X b L xs s s.heap) (hbl : b < s.heap.size) (hbA : ¬ A b) (hL : L ≤ 3072) {j : Nat} (hj : 6 * j + 6 ≤ L) {qx qm : Nat} (kk : ∀ (a tx s3 s4 : Int → Int) (pn : Int) (wx wm : va_W), XS E a tx s3 s4 pn qx wx → MS E a tx s3 s4 pn qm wm → ST a tx s3 s4 pn (5000 * (j : Int) + 5000) → G p l e room_1 s m args below meth c Q E A 4 (100 + 40 * j + 40) (3000 + 5000 * j + 5000) (wx ++ wm) (lvL b qx qm (6 * j)) 1107 []) {a tx s3 s4 : Int → Int} {pn : Int} {wx wm : va_W} (hx : XS E a tx s3 s4 pn qx wx) (hm : MS E a tx s3 s4 pn qm wm) (hS : ST a tx s3 s4 pn (5000 * (j : Int))) : G p l e room_1 s m args below meth c Q E A 4 (100 + 40 * j) (3000 + 5000 * j) (wx ++ wm) (lvL b qx qm (6 * j)) 857 [] := by
  refine g_aload_n C (x := qx) 2 rfl dL_law_857 rfl ?_
  refine g_aload_n C (x := b) 3 rfl dL_law_858 rfl ?_
  refine g_iload_n C 0 rfl dL_law_859 rfl ?_
  refine g_iconst C dL_law_860 rfl ?_
  refine g_iadd C (r := ((6 * j + 1 : Nat) : Int)) (by omega) dL_law_861 rfl ?_
  refine g_sld C hX hbl hbA (i := 6 * j + 1) (by omega) hL dL_law_862 rfl ?_
  refine g_aload_n C (x := b) 3 rfl dL_law_863 rfl ?_
  refine g_iload_n C 0 rfl dL_law_864 rfl ?_
  refine g_iconst C dL_law_865 rfl ?_
  refine g_iadd C (r := ((6 * j + 2 : Nat) : Int)) (by omega) dL_law_866 rfl ?_
  refine g_sld C hX hbl hbA (i := 6 * j + 2) (by omega) hL dL_law_867 rfl ?_
  refine g_aload_n C (x := b) 3 rfl dL_law_868 rfl ?_
  refine g_iload_n C 0 rfl dL_law_869 rfl ?_
  refine g_iconst C dL_law_870 rfl ?_
  refine g_iadd C (r := ((6 * j + 3 : Nat) : Int)) (by omega) dL_law_871 rfl ?_
  refine g_sld C hX hbl hbA (i := 6 * j + 3) (by omega) hL dL_law_872 rfl ?_
  refine g_aload_n C (x := b) 3 rfl dL_law_873 rfl ?_
  refine g_iload_n C 0 rfl dL_law_874 rfl ?_
  refine g_iconst C dL_law_875 rfl ?_
  refine g_iadd C (r := ((6 * j + 4 : Nat) : Int)) (by omega) dL_law_876 rfl ?_
  refine g_sld C hX hbl hbA (i := 6 * j + 4) (by omega) hL dL_law_877 rfl ?_
  refine g_callW C (b := qx) (As := [vI (sv xs (6 * j + 1)), vI (sv xs (6 * j + 2)), vI (sv xs (6 * j + 3)), vI (sv xs (6 * j + 4))]) (k' := 100 + 40 * j + 0) (n' := 3000 + 5000 * j + 0) gL_law_X10_test (ci := 11) (let ⟨fs, h⟩ := XS_mem hx; ⟨fs, List.mem_append_left _ h⟩) rfl rfl (Mc.frame (XB_test hx hS (by omega) (sv_b xs _) (sv_b xs _) (sv_b xs _) (sv_b xs _)) List.perm_append_comm) hyL_X10_test rfl ⟨rfl, rfl⟩ ⟨Nat.le_of_ble_eq_true rfl, Nat.le_of_ble_eq_true rfl, (by show 100 + 40 * j + 0 ≤ 600000; omega), (by show 3000 + 5000 * j + 0 ≤ 7302250; omega)⟩ (Nat.le_of_ble_eq_true rfl) dL_law_878 rfl rfl rfl ?_
  rintro v1 w1 ⟨wx1, ⟨rfl, hx1⟩, rfl⟩
  refine g_aload_n C (x := qm) 1 rfl dL_law_881 rfl ?_
  refine g_aload_n C (x := b) 3 rfl dL_law_882 rfl ?_
  refine g_iload_n C 0 rfl dL_law_883 rfl ?_
  refine g_iconst C dL_law_884 rfl ?_
  refine g_iadd C (r := ((6 * j + 1 : Nat) : Int)) (by omega) dL_law_885 rfl ?_
  refine g_sld C hX hbl hbA (i := 6 * j + 1) (by omega) hL dL_law_886 rfl ?_
  refine g_aload_n C (x := b) 3 rfl dL_law_887 rfl ?_
  refine g_iload_n C 0 rfl dL_law_888 rfl ?_
  refine g_iconst C dL_law_889 rfl ?_
  refine g_iadd C (r := ((6 * j + 2 : Nat) : Int)) (by omega) dL_law_890 rfl ?_
  refine g_sld C hX hbl hbA (i := 6 * j + 2) (by omega) hL dL_law_891 rfl ?_
  refine g_aload_n C (x := b) 3 rfl dL_law_892 rfl ?_
  refine g_iload_n C 0 rfl dL_law_893 rfl ?_
  refine g_iconst C dL_law_894 rfl ?_
  refine g_iadd C (r := ((6 * j + 3 : Nat) : Int)) (by omega) dL_law_895 rfl ?_
  refine g_sld C hX hbl hbA (i := 6 * j + 3) (by omega) hL dL_law_896 rfl ?_
  refine g_aload_n C (x := b) 3 rfl dL_law_897 rfl ?_
  refine g_iload_n C 0 rfl dL_law_898 rfl ?_
  refine g_iconst C dL_law_899 rfl ?_
  refine g_iadd C (r := ((6 * j + 4 : Nat) : Int)) (by omega) dL_law_900 rfl ?_
  refine g_sld C hX hbl hbA (i := 6 * j + 4) (by omega) hL dL_law_901 rfl ?_
  refine g_callW C (b := qm) (As := [vI (sv xs (6 * j + 1)), vI (sv xs (6 * j + 2)), vI (sv xs (6 * j + 3)), vI (sv xs (6 * j + 4))]) (k' := 100 + 40 * j + 0) (n' := 3000 + 5000 * j + 0) gL_law_X11_test (ci := 12) (let ⟨fs, h⟩ := MS_mem hm; ⟨fs, List.mem_append_left _ h⟩) rfl rfl (Mc.frame (RB_test hm hS (by omega) (sv_b xs _) (sv_b xs _) (sv_b xs _) (sv_b xs _)) List.perm_append_comm) hyL_X11_test rfl ⟨rfl, rfl⟩ ⟨Nat.le_of_ble_eq_true rfl, Nat.le_of_ble_eq_true rfl, (by show 100 + 40 * j + 0 ≤ 600000; omega), (by show 3000 + 5000 * j + 0 ≤ 7302250; omega)⟩ (Nat.le_of_ble_eq_true rfl) dL_law_902 rfl rfl rfl ?_
  rintro v2 w2 ⟨wm1, ⟨rfl, hm1⟩, rfl⟩
  refine g_icmpS C dL_law_905 rfl ?_
  exact g_wid (by omega) (by omega) (kk _ _ _ _ _ _ _ hx1 hm1 (ST_same hS))
theorem hyL_X10_forecast : yX10_forecast.cls ≠ "java/lang/invoke/MethodHandle" ∧ yX10_forecast.cls ≠ "java/lang/invoke/VarHandle" ∧ (parseMethodDescriptor yX10_forecast.desc).map (fun d => d.parameters.length) = some 1 := ⟨by decide +kernel, by decide +kernel, by decide +kernel⟩
theorem hyL_X11_forecast : yX11_forecast.cls ≠ "java/lang/invoke/MethodHandle" ∧ yX11_forecast.cls ≠ "java/lang/invoke/VarHandle" ∧ (parseMethodDescriptor yX11_forecast.desc).map (fun d => d.parameters.length) = some 1 := ⟨by decide +kernel, by decide +kernel, by decide +kernel⟩
set_option maxHeartbeats 1000000 in
set_option maxRecDepth 20000 in
theorem lawOp_fore (C : Cx p s m args meth c E A 4 cL_law wsL_law RL) {b L : Nat} {xs : Nat → Int32} (hX : va_X b L xs s s.heap) (hbl : b < s.heap.size) (hbA : ¬ A b) (hL : L ≤ 3072) {j : Nat} (hj : 6 * j + 6 ≤ L) {qx qm : Nat} (kk : ∀ (a tx s3 s4 : Int → Int) (pn : Int) (wx wm : va_W), XS E a tx s3 s4 pn qx wx → MS E a tx s3 s4 pn qm wm → ST a tx s3 s4 pn (5000 * (j : Int) + 5000) → G p l e room_1 s m args below meth c Q E A 4 (100 + 40 * j + 40) (3000 + 5000 * j + 5000) (wx ++ wm) (lvL b qx qm (6 * j)) 1107 []) {a tx s3 s4 : Int → Int} {pn : Int} {wx wm : va_W} (hx : XS E a tx s3 s4 pn qx wx) (hm : MS E a tx s3 s4 pn qm wm) (hS : ST a tx s3 s4 pn (5000 * (j : Int))) : G p l e room_1 s m args below meth c Q E A 4 (100 + 40 * j) (3000 + 5000 * j) (wx ++ wm) (lvL b qx qm (6 * j)) 910 [] := by
  refine g_aload_n C (x := qx) 2 rfl dL_law_910 rfl ?_
  refine g_aload_n C (x := b) 3 rfl dL_law_911 rfl ?_
  refine g_iload_n C 0 rfl dL_law_912 rfl ?_
  refine g_iconst C dL_law_913 rfl ?_
  refine g_iadd C (r := ((6 * j + 1 : Nat) : Int)) (by omega) dL_law_914 rfl ?_
  refine g_sld C hX hbl hbA (i := 6 * j + 1) (by omega) hL dL_law_915 rfl ?_
  refine g_callW C (b := qx) (As := [vI (sv xs (6 * j + 1))]) (k' := 100 + 40 * j + 0) (n' := 3000 + 5000 * j + 0) gL_law_X10_forecast (ci := 11) (let ⟨fs, h⟩ := XS_mem hx; ⟨fs, List.mem_append_left _ h⟩) rfl rfl (Mc.frame (XB_fore hx hS (by omega) (sv_b xs _)) List.perm_append_comm) hyL_X10_forecast rfl ⟨rfl, rfl⟩ ⟨Nat.le_of_ble_eq_true rfl, Nat.le_of_ble_eq_true rfl, (by show 100 + 40 * j + 0 ≤ 600000; omega), (by show 3000 + 5000 * j + 0 ≤ 7302250; omega)⟩ (Nat.le_of_ble_eq_true rfl) dL_law_916 rfl rfl rfl ?_
  rintro v1 w1 ⟨wx1, ⟨rfl, hx1⟩, rfl⟩
  refine g_aload_n C (x := qm) 1 rfl dL_law_919 rfl ?_
  refine g_aload_n C (x := b) 3 rfl dL_law_920 rfl ?_
  refine g_iload_n C 0 rfl dL_law_921 rfl ?_
  refine g_iconst C dL_law_922 rfl ?_
  refine g_iadd C (r := ((6 * j + 1 : Nat) : Int)) (by omega) dL_law_923 rfl ?_
  refine g_sld C hX hbl hbA (i := 6 * j + 1) (by omega) hL dL_law_924 rfl ?_
  refine g_callW C (b := qm) (As := [vI (sv xs (6 * j + 1))]) (k' := 100 + 40 * j + 0) (n' := 3000 + 5000 * j + 0) gL_law_X11_forecast (ci := 12) (let ⟨fs, h⟩ := MS_mem hm; ⟨fs, List.mem_append_left _ h⟩) rfl rfl (Mc.frame (RB_fore hm hS (by omega) (sv_b xs _)) List.perm_append_comm) hyL_X11_forecast rfl ⟨rfl, rfl⟩ ⟨Nat.le_of_ble_eq_true rfl, Nat.le_of_ble_eq_true rfl, (by show 100 + 40 * j + 0 ≤ 600000; omega), (by show 3000 + 5000 * j + 0 ≤ 7302250; omega)⟩ (Nat.le_of_ble_eq_true rfl) dL_law_925 rfl rfl rfl ?_
  rintro v2 w2 ⟨wm1, ⟨rfl, hm1⟩, rfl⟩
  refine g_icmpS C dL_law_928 rfl ?_
  exact g_wid (by omega) (by omega) (kk _ _ _ _ _ _ _ hx1 hm1 (ST_same hS))
theorem hyL_X10_say : yX10_say.cls ≠ "java/lang/invoke/MethodHandle" ∧ yX10_say.cls ≠ "java/lang/invoke/VarHandle" ∧ (parseMethodDescriptor yX10_say.desc).map (fun d => d.parameters.length) = some 1 := ⟨by decide +kernel, by decide +kernel, by decide +kernel⟩
theorem hyL_X11_say : yX11_say.cls ≠ "java/lang/invoke/MethodHandle" ∧ yX11_say.cls ≠ "java/lang/invoke/VarHandle" ∧ (parseMethodDescriptor yX11_say.desc).map (fun d => d.parameters.length) = some 1 := ⟨by decide +kernel, by decide +kernel, by decide +kernel⟩
set_option maxHeartbeats 1000000 in
set_option maxRecDepth 20000 in
theorem lawOp_say (C : Cx p s m args meth c E A 4 cL_law wsL_law RL) {b L : Nat} {xs : Nat → Int32} (hX : va_X b L xs s s.heap) (hbl : b < s.heap.size) (hbA : ¬ A b) (hL : L ≤ 3072) {j : Nat} (hj : 6 * j + 6 ≤ L) {qx qm : Nat} (kk : ∀ (a tx s3 s4 : Int → Int) (pn : Int) (wx wm : va_W), XS E a tx s3 s4 pn qx wx → MS E a tx s3 s4 pn qm wm → ST a tx s3 s4 pn (5000 * (j : Int) + 5000) → G p l e room_1 s m args below meth c Q E A 4 (100 + 40 * j + 40) (3000 + 5000 * j + 5000) (wx ++ wm) (lvL b qx qm (6 * j)) 1107 []) {a tx s3 s4 : Int → Int} {pn : Int} {wx wm : va_W} (hx : XS E a tx s3 s4 pn qx wx) (hm : MS E a tx s3 s4 pn qm wm) (hS : ST a tx s3 s4 pn (5000 * (j : Int))) : G p l e room_1 s m args below meth c Q E A 4 (100 + 40 * j) (3000 + 5000 * j) (wx ++ wm) (lvL b qx qm (6 * j)) 933 [] := by
  refine g_aload_n C (x := qx) 2 rfl dL_law_933 rfl ?_
  refine g_aload_n C (x := b) 3 rfl dL_law_934 rfl ?_
  refine g_iload_n C 0 rfl dL_law_935 rfl ?_
  refine g_iconst C dL_law_936 rfl ?_
  refine g_iadd C (r := ((6 * j + 1 : Nat) : Int)) (by omega) dL_law_937 rfl ?_
  refine g_sld C hX hbl hbA (i := 6 * j + 1) (by omega) hL dL_law_938 rfl ?_
  refine g_callW C (b := qx) (As := [vI (sv xs (6 * j + 1))]) (k' := 100 + 40 * j + 1) (n' := 3000 + 5000 * j + 142) gL_law_X10_say (ci := 11) (let ⟨fs, h⟩ := XS_mem hx; ⟨fs, List.mem_append_left _ h⟩) rfl rfl (Mc.frame (XB_say hx hS (by omega) (sv_b xs _)) List.perm_append_comm) hyL_X10_say rfl ⟨rfl, rfl⟩ ⟨Nat.le_of_ble_eq_true rfl, Nat.le_of_ble_eq_true rfl, (by show 100 + 40 * j + 1 ≤ 600000; omega), (by show 3000 + 5000 * j + 142 ≤ 7302250; omega)⟩ (Nat.le_of_ble_eq_true rfl) dL_law_939 rfl rfl rfl ?_
  rintro v1 w1 ⟨wx1, ⟨rfl, hx1⟩, rfl⟩
  refine g_aload_n C (x := qm) 1 rfl dL_law_942 rfl ?_
  refine g_aload_n C (x := b) 3 rfl dL_law_943 rfl ?_
  refine g_iload_n C 0 rfl dL_law_944 rfl ?_
  refine g_iconst C dL_law_945 rfl ?_
  refine g_iadd C (r := ((6 * j + 1 : Nat) : Int)) (by omega) dL_law_946 rfl ?_
  refine g_sld C hX hbl hbA (i := 6 * j + 1) (by omega) hL dL_law_947 rfl ?_
  refine g_callW C (b := qm) (As := [vI (sv xs (6 * j + 1))]) (k' := 100 + 40 * j + 1 + 0) (n' := 3000 + 5000 * j + 142 + 0) gL_law_X11_say (ci := 12) (let ⟨fs, h⟩ := MS_mem hm; ⟨fs, List.mem_append_left _ h⟩) rfl rfl (Mc.frame (RB_say hm hS (by omega) (sv_b xs _)) List.perm_append_comm) hyL_X11_say rfl ⟨rfl, rfl⟩ ⟨Nat.le_of_ble_eq_true rfl, Nat.le_of_ble_eq_true rfl, (by show 100 + 40 * j + 1 + 0 ≤ 600000; omega), (by show 3000 + 5000 * j + 142 + 0 ≤ 7302250; omega)⟩ (Nat.le_of_ble_eq_true rfl) dL_law_948 rfl rfl rfl ?_
  rintro v2 w2 ⟨wm1, ⟨rfl, hm1⟩, rfl⟩
  refine g_icmpS C dL_law_951 rfl ?_
  exact g_wid (by omega) (by omega) (kk _ _ _ _ _ _ _ hx1 hm1 (ST_say hS))
theorem hyL_X10_wipe : yX10_wipe.cls ≠ "java/lang/invoke/MethodHandle" ∧ yX10_wipe.cls ≠ "java/lang/invoke/VarHandle" ∧ (parseMethodDescriptor yX10_wipe.desc).map (fun d => d.parameters.length) = some 0 := ⟨by decide +kernel, by decide +kernel, by decide +kernel⟩
theorem hyL_X11_wipe : yX11_wipe.cls ≠ "java/lang/invoke/MethodHandle" ∧ yX11_wipe.cls ≠ "java/lang/invoke/VarHandle" ∧ (parseMethodDescriptor yX11_wipe.desc).map (fun d => d.parameters.length) = some 0 := ⟨by decide +kernel, by decide +kernel, by decide +kernel⟩
set_option maxHeartbeats 1000000 in
set_option maxRecDepth 20000 in
theorem lawOp_wipe (C : Cx p s m args meth c E A 4 cL_law wsL_law RL) {b L : Nat} {xs : Nat → Int32} (hX : va_X b L xs s s.heap) (hbl : b < s.heap.size) (hbA : ¬ A b) (hL : L ≤ 3072) {j : Nat} (hj : 6 * j + 6 ≤ L) {qx qm : Nat} (kk : ∀ (a tx s3 s4 : Int → Int) (pn : Int) (wx wm : va_W), XS E a tx s3 s4 pn qx wx → MS E a tx s3 s4 pn qm wm → ST a tx s3 s4 pn (5000 * (j : Int) + 5000) → G p l e room_1 s m args below meth c Q E A 4 (100 + 40 * j + 40) (3000 + 5000 * j + 5000) (wx ++ wm) (lvL b qx qm (6 * j)) 1107 []) {a tx s3 s4 : Int → Int} {pn : Int} {wx wm : va_W} (hx : XS E a tx s3 s4 pn qx wx) (hm : MS E a tx s3 s4 pn qm wm) (hS : ST a tx s3 s4 pn (5000 * (j : Int))) : G p l e room_1 s m args below meth c Q E A 4 (100 + 40 * j) (3000 + 5000 * j) (wx ++ wm) (lvL b qx qm (6 * j)) 956 [] := by
  refine g_aload_n C (x := qx) 2 rfl dL_law_956 rfl ?_
  refine g_callW C (b := qx) (As := []) (k' := 100 + 40 * j + 0) (n' := 3000 + 5000 * j + 0) gL_law_X10_wipe (ci := 11) (let ⟨fs, h⟩ := XS_mem hx; ⟨fs, List.mem_append_left _ h⟩) rfl rfl (Mc.frame (XB_wipe hx hS (by omega)) List.perm_append_comm) hyL_X10_wipe rfl ⟨rfl, rfl⟩ ⟨Nat.le_of_ble_eq_true rfl, Nat.le_of_ble_eq_true rfl, (by show 100 + 40 * j + 0 ≤ 600000; omega), (by show 3000 + 5000 * j + 0 ≤ 7302250; omega)⟩ (Nat.le_of_ble_eq_true rfl) dL_law_957 rfl rfl rfl ?_
  rintro v1 w1 ⟨wx1, ⟨rfl, hx1⟩, rfl⟩
  refine g_aload_n C (x := qm) 1 rfl dL_law_960 rfl ?_
  refine g_callW C (b := qm) (As := []) (k' := 100 + 40 * j + 0) (n' := 3000 + 5000 * j + 0) gL_law_X11_wipe (ci := 12) (let ⟨fs, h⟩ := MS_mem hm; ⟨fs, List.mem_append_left _ h⟩) rfl rfl (Mc.frame (RB_wipe hm hS (by omega)) List.perm_append_comm) hyL_X11_wipe rfl ⟨rfl, rfl⟩ ⟨Nat.le_of_ble_eq_true rfl, Nat.le_of_ble_eq_true rfl, (by show 100 + 40 * j + 0 ≤ 600000; omega), (by show 3000 + 5000 * j + 0 ≤ 7302250; omega)⟩ (Nat.le_of_ble_eq_true rfl) dL_law_961 rfl rfl rfl ?_
  rintro v2 w2 ⟨wm1, ⟨rfl, hm1⟩, rfl⟩
  refine g_icmpS C dL_law_964 rfl ?_
  exact g_wid (by omega) (by omega) (kk _ _ _ _ _ _ _ hx1 hm1 (ST_wipe hS))
theorem hyL_X10_flaw : yX10_flaw.cls ≠ "java/lang/invoke/MethodHandle" ∧ yX10_flaw.cls ≠ "java/lang/invoke/VarHandle" ∧ (parseMethodDescriptor yX10_flaw.desc).map (fun d => d.parameters.length) = some 0 := ⟨by decide +kernel, by decide +kernel, by decide +kernel⟩
theorem hyL_X11_flaw : yX11_flaw.cls ≠ "java/lang/invoke/MethodHandle" ∧ yX11_flaw.cls ≠ "java/lang/invoke/VarHandle" ∧ (parseMethodDescriptor yX11_flaw.desc).map (fun d => d.parameters.length) = some 0 := ⟨by decide +kernel, by decide +kernel, by decide +kernel⟩
set_option maxHeartbeats 1000000 in
set_option maxRecDepth 20000 in
theorem lawOp_flaw (C : Cx p s m args meth c E A 4 cL_law wsL_law RL) {b L : Nat} {xs : Nat → Int32} (hX : va_X b L xs s s.heap) (hbl : b < s.heap.size) (hbA : ¬ A b) (hL : L ≤ 3072) {j : Nat} (hj : 6 * j + 6 ≤ L) {qx qm : Nat} (kk : ∀ (a tx s3 s4 : Int → Int) (pn : Int) (wx wm : va_W), XS E a tx s3 s4 pn qx wx → MS E a tx s3 s4 pn qm wm → ST a tx s3 s4 pn (5000 * (j : Int) + 5000) → G p l e room_1 s m args below meth c Q E A 4 (100 + 40 * j + 40) (3000 + 5000 * j + 5000) (wx ++ wm) (lvL b qx qm (6 * j)) 1107 []) {a tx s3 s4 : Int → Int} {pn : Int} {wx wm : va_W} (hx : XS E a tx s3 s4 pn qx wx) (hm : MS E a tx s3 s4 pn qm wm) (hS : ST a tx s3 s4 pn (5000 * (j : Int))) : G p l e room_1 s m args below meth c Q E A 4 (100 + 40 * j) (3000 + 5000 * j) (wx ++ wm) (lvL b qx qm (6 * j)) 969 [] := by
  refine g_aload_n C (x := qx) 2 rfl dL_law_969 rfl ?_
  refine g_callW C (b := qx) (As := []) (k' := 100 + 40 * j + 0) (n' := 3000 + 5000 * j + 0) gL_law_X10_flaw (ci := 11) (let ⟨fs, h⟩ := XS_mem hx; ⟨fs, List.mem_append_left _ h⟩) rfl rfl (Mc.frame (XB_flaw hx hS (by omega)) List.perm_append_comm) hyL_X10_flaw rfl ⟨rfl, rfl⟩ ⟨Nat.le_of_ble_eq_true rfl, Nat.le_of_ble_eq_true rfl, (by show 100 + 40 * j + 0 ≤ 600000; omega), (by show 3000 + 5000 * j + 0 ≤ 7302250; omega)⟩ (Nat.le_of_ble_eq_true rfl) dL_law_970 rfl rfl rfl ?_
  rintro v1 w1 ⟨wx1, ⟨rfl, hx1⟩, rfl⟩
  refine g_aload_n C (x := qm) 1 rfl dL_law_973 rfl ?_
  refine g_callW C (b := qm) (As := []) (k' := 100 + 40 * j + 0) (n' := 3000 + 5000 * j + 0) gL_law_X11_flaw (ci := 12) (let ⟨fs, h⟩ := MS_mem hm; ⟨fs, List.mem_append_left _ h⟩) rfl rfl (Mc.frame (RB_flaw hm hS (by omega)) List.perm_append_comm) hyL_X11_flaw rfl ⟨rfl, rfl⟩ ⟨Nat.le_of_ble_eq_true rfl, Nat.le_of_ble_eq_true rfl, (by show 100 + 40 * j + 0 ≤ 600000; omega), (by show 3000 + 5000 * j + 0 ≤ 7302250; omega)⟩ (Nat.le_of_ble_eq_true rfl) dL_law_974 rfl rfl rfl ?_
  rintro v2 w2 ⟨wm1, ⟨rfl, hm1⟩, rfl⟩
  refine g_icmpS C dL_law_977 rfl ?_
  exact g_wid (by omega) (by omega) (kk _ _ _ _ _ _ _ hx1 hm1 (ST_same hS))
theorem hyL_X10_load : yX10_load.cls ≠ "java/lang/invoke/MethodHandle" ∧ yX10_load.cls ≠ "java/lang/invoke/VarHandle" ∧ (parseMethodDescriptor yX10_load.desc).map (fun d => d.parameters.length) = some 1 := ⟨by decide +kernel, by decide +kernel, by decide +kernel⟩
theorem hyL_X11_load : yX11_load.cls ≠ "java/lang/invoke/MethodHandle" ∧ yX11_load.cls ≠ "java/lang/invoke/VarHandle" ∧ (parseMethodDescriptor yX11_load.desc).map (fun d => d.parameters.length) = some 1 := ⟨by decide +kernel, by decide +kernel, by decide +kernel⟩
set_option maxHeartbeats 1000000 in
set_option maxRecDepth 20000 in
theorem lawOp_load (C : Cx p s m args meth c E A 4 cL_law wsL_law RL) {b L : Nat} {xs : Nat → Int32} (hX : va_X b L xs s s.heap) (hbl : b < s.heap.size) (hbA : ¬ A b) (hL : L ≤ 3072) {j : Nat} (hj : 6 * j + 6 ≤ L) {qx qm : Nat} (kk : ∀ (a tx s3 s4 : Int → Int) (pn : Int) (wx wm : va_W), XS E a tx s3 s4 pn qx wx → MS E a tx s3 s4 pn qm wm → ST a tx s3 s4 pn (5000 * (j : Int) + 5000) → G p l e room_1 s m args below meth c Q E A 4 (100 + 40 * j + 40) (3000 + 5000 * j + 5000) (wx ++ wm) (lvL b qx qm (6 * j)) 1107 []) {a tx s3 s4 : Int → Int} {pn : Int} {wx wm : va_W} (hx : XS E a tx s3 s4 pn qx wx) (hm : MS E a tx s3 s4 pn qm wm) (hS : ST a tx s3 s4 pn (5000 * (j : Int))) : G p l e room_1 s m args below meth c Q E A 4 (100 + 40 * j) (3000 + 5000 * j) (wx ++ wm) (lvL b qx qm (6 * j)) 982 [] := by
  refine g_aload_n C (x := qx) 2 rfl dL_law_982 rfl ?_
  refine g_aload_n C (x := b) 3 rfl dL_law_983 rfl ?_
  refine g_iload_n C 0 rfl dL_law_984 rfl ?_
  refine g_iconst C dL_law_985 rfl ?_
  refine g_iadd C (r := ((6 * j + 1 : Nat) : Int)) (by omega) dL_law_986 rfl ?_
  refine g_sld C hX hbl hbA (i := 6 * j + 1) (by omega) hL dL_law_987 rfl ?_
  refine g_callW C (b := qx) (As := [vI (sv xs (6 * j + 1))]) (k' := 100 + 40 * j + 0) (n' := 3000 + 5000 * j + 0) gL_law_X10_load (ci := 11) (let ⟨fs, h⟩ := XS_mem hx; ⟨fs, List.mem_append_left _ h⟩) rfl rfl (Mc.frame (XB_load hx hS (by omega) (sv_b xs _)) List.perm_append_comm) hyL_X10_load rfl ⟨rfl, rfl⟩ ⟨Nat.le_of_ble_eq_true rfl, Nat.le_of_ble_eq_true rfl, (by show 100 + 40 * j + 0 ≤ 600000; omega), (by show 3000 + 5000 * j + 0 ≤ 7302250; omega)⟩ (Nat.le_of_ble_eq_true rfl) dL_law_988 rfl rfl rfl ?_
  rintro v1 w1 ⟨wx1, ⟨rfl, hx1⟩, rfl⟩
  refine g_aload_n C (x := qm) 1 rfl dL_law_991 rfl ?_
  refine g_aload_n C (x := b) 3 rfl dL_law_992 rfl ?_
  refine g_iload_n C 0 rfl dL_law_993 rfl ?_
  refine g_iconst C dL_law_994 rfl ?_
  refine g_iadd C (r := ((6 * j + 1 : Nat) : Int)) (by omega) dL_law_995 rfl ?_
  refine g_sld C hX hbl hbA (i := 6 * j + 1) (by omega) hL dL_law_996 rfl ?_
  refine g_callW C (b := qm) (As := [vI (sv xs (6 * j + 1))]) (k' := 100 + 40 * j + 0) (n' := 3000 + 5000 * j + 0) gL_law_X11_load (ci := 12) (let ⟨fs, h⟩ := MS_mem hm; ⟨fs, List.mem_append_left _ h⟩) rfl rfl (Mc.frame (RB_load hm hS (by omega) (sv_b xs _)) List.perm_append_comm) hyL_X11_load rfl ⟨rfl, rfl⟩ ⟨Nat.le_of_ble_eq_true rfl, Nat.le_of_ble_eq_true rfl, (by show 100 + 40 * j + 0 ≤ 600000; omega), (by show 3000 + 5000 * j + 0 ≤ 7302250; omega)⟩ (Nat.le_of_ble_eq_true rfl) dL_law_997 rfl rfl rfl ?_
  rintro v2 w2 ⟨wm1, ⟨rfl, hm1⟩, rfl⟩
  refine g_icmpS C dL_law_1000 rfl ?_
  exact g_wid (by omega) (by omega) (kk _ _ _ _ _ _ _ hx1 hm1 (ST_load hS))
theorem hyL_X10_spell : yX10_spell.cls ≠ "java/lang/invoke/MethodHandle" ∧ yX10_spell.cls ≠ "java/lang/invoke/VarHandle" ∧ (parseMethodDescriptor yX10_spell.desc).map (fun d => d.parameters.length) = some 2 := ⟨by decide +kernel, by decide +kernel, by decide +kernel⟩
theorem hyL_X11_spell : yX11_spell.cls ≠ "java/lang/invoke/MethodHandle" ∧ yX11_spell.cls ≠ "java/lang/invoke/VarHandle" ∧ (parseMethodDescriptor yX11_spell.desc).map (fun d => d.parameters.length) = some 2 := ⟨by decide +kernel, by decide +kernel, by decide +kernel⟩
set_option maxHeartbeats 1000000 in
set_option maxRecDepth 20000 in
theorem lawOp_spell (C : Cx p s m args meth c E A 4 cL_law wsL_law RL) {b L : Nat} {xs : Nat → Int32} (hX : va_X b L xs s s.heap) (hbl : b < s.heap.size) (hbA : ¬ A b) (hL : L ≤ 3072) {j : Nat} (hj : 6 * j + 6 ≤ L) {qx qm : Nat} (kk : ∀ (a tx s3 s4 : Int → Int) (pn : Int) (wx wm : va_W), XS E a tx s3 s4 pn qx wx → MS E a tx s3 s4 pn qm wm → ST a tx s3 s4 pn (5000 * (j : Int) + 5000) → G p l e room_1 s m args below meth c Q E A 4 (100 + 40 * j + 40) (3000 + 5000 * j + 5000) (wx ++ wm) (lvL b qx qm (6 * j)) 1107 []) {a tx s3 s4 : Int → Int} {pn : Int} {wx wm : va_W} (hx : XS E a tx s3 s4 pn qx wx) (hm : MS E a tx s3 s4 pn qm wm) (hS : ST a tx s3 s4 pn (5000 * (j : Int))) : G p l e room_1 s m args below meth c Q E A 4 (100 + 40 * j) (3000 + 5000 * j) (wx ++ wm) (lvL b qx qm (6 * j)) 1005 [] := by
  refine g_aload_n C (x := qx) 2 rfl dL_law_1005 rfl ?_
  refine g_aload_n C (x := b) 3 rfl dL_law_1006 rfl ?_
  refine g_iload_n C 0 rfl dL_law_1007 rfl ?_
  refine g_iconst C dL_law_1008 rfl ?_
  refine g_iadd C (r := ((6 * j + 1 : Nat) : Int)) (by omega) dL_law_1009 rfl ?_
  refine g_sld C hX hbl hbA (i := 6 * j + 1) (by omega) hL dL_law_1010 rfl ?_
  refine g_aload_n C (x := b) 3 rfl dL_law_1011 rfl ?_
  refine g_iload_n C 0 rfl dL_law_1012 rfl ?_
  refine g_iconst C dL_law_1013 rfl ?_
  refine g_iadd C (r := ((6 * j + 2 : Nat) : Int)) (by omega) dL_law_1014 rfl ?_
  refine g_sld C hX hbl hbA (i := 6 * j + 2) (by omega) hL dL_law_1015 rfl ?_
  refine g_callW C (b := qx) (As := [vI (sv xs (6 * j + 1)), vI (sv xs (6 * j + 2))]) (k' := 100 + 40 * j + 32) (n' := 3000 + 5000 * j + 4544) gL_law_X10_spell (ci := 11) (let ⟨fs, h⟩ := XS_mem hx; ⟨fs, List.mem_append_left _ h⟩) rfl rfl (Mc.frame (XB_spell hx hS (by omega) (sv_b xs _) (sv_b xs _)) List.perm_append_comm) hyL_X10_spell rfl ⟨rfl, rfl⟩ ⟨Nat.le_of_ble_eq_true rfl, Nat.le_of_ble_eq_true rfl, (by show 100 + 40 * j + 32 ≤ 600000; omega), (by show 3000 + 5000 * j + 4544 ≤ 7302250; omega)⟩ (Nat.le_of_ble_eq_true rfl) dL_law_1016 rfl rfl rfl ?_
  rintro v1 w1 ⟨wx1, ⟨rfl, hx1⟩, rfl⟩
  refine g_aload_n C (x := qm) 1 rfl dL_law_1019 rfl ?_
  refine g_aload_n C (x := b) 3 rfl dL_law_1020 rfl ?_
  refine g_iload_n C 0 rfl dL_law_1021 rfl ?_
  refine g_iconst C dL_law_1022 rfl ?_
  refine g_iadd C (r := ((6 * j + 1 : Nat) : Int)) (by omega) dL_law_1023 rfl ?_
  refine g_sld C hX hbl hbA (i := 6 * j + 1) (by omega) hL dL_law_1024 rfl ?_
  refine g_aload_n C (x := b) 3 rfl dL_law_1025 rfl ?_
  refine g_iload_n C 0 rfl dL_law_1026 rfl ?_
  refine g_iconst C dL_law_1027 rfl ?_
  refine g_iadd C (r := ((6 * j + 2 : Nat) : Int)) (by omega) dL_law_1028 rfl ?_
  refine g_sld C hX hbl hbA (i := 6 * j + 2) (by omega) hL dL_law_1029 rfl ?_
  refine g_callW C (b := qm) (As := [vI (sv xs (6 * j + 1)), vI (sv xs (6 * j + 2))]) (k' := 100 + 40 * j + 32 + 0) (n' := 3000 + 5000 * j + 4544 + 0) gL_law_X11_spell (ci := 12) (let ⟨fs, h⟩ := MS_mem hm; ⟨fs, List.mem_append_left _ h⟩) rfl rfl (Mc.frame (RB_spell hm hS (by omega) (sv_b xs _) (sv_b xs _)) List.perm_append_comm) hyL_X11_spell rfl ⟨rfl, rfl⟩ ⟨Nat.le_of_ble_eq_true rfl, Nat.le_of_ble_eq_true rfl, (by show 100 + 40 * j + 32 + 0 ≤ 600000; omega), (by show 3000 + 5000 * j + 4544 + 0 ≤ 7302250; omega)⟩ (Nat.le_of_ble_eq_true rfl) dL_law_1030 rfl rfl rfl ?_
  rintro v2 w2 ⟨wm1, ⟨rfl, hm1⟩, rfl⟩
  refine g_icmpS C dL_law_1033 rfl ?_
  exact g_wid (by omega) (by omega) (kk _ _ _ _ _ _ _ hx1 hm1 (ST_same hS))
theorem hyL_X10_count : yX10_count.cls ≠ "java/lang/invoke/MethodHandle" ∧ yX10_count.cls ≠ "java/lang/invoke/VarHandle" ∧ (parseMethodDescriptor yX10_count.desc).map (fun d => d.parameters.length) = some 1 := ⟨by decide +kernel, by decide +kernel, by decide +kernel⟩
theorem hyL_X11_count : yX11_count.cls ≠ "java/lang/invoke/MethodHandle" ∧ yX11_count.cls ≠ "java/lang/invoke/VarHandle" ∧ (parseMethodDescriptor yX11_count.desc).map (fun d => d.parameters.length) = some 1 := ⟨by decide +kernel, by decide +kernel, by decide +kernel⟩
set_option maxHeartbeats 1000000 in
set_option maxRecDepth 20000 in
theorem lawOp_count (C : Cx p s m args meth c E A 4 cL_law wsL_law RL) {b L : Nat} {xs : Nat → Int32} (hX : va_X b L xs s s.heap) (hbl : b < s.heap.size) (hbA : ¬ A b) (hL : L ≤ 3072) {j : Nat} (hj : 6 * j + 6 ≤ L) {qx qm : Nat} (kk : ∀ (a tx s3 s4 : Int → Int) (pn : Int) (wx wm : va_W), XS E a tx s3 s4 pn qx wx → MS E a tx s3 s4 pn qm wm → ST a tx s3 s4 pn (5000 * (j : Int) + 5000) → G p l e room_1 s m args below meth c Q E A 4 (100 + 40 * j + 40) (3000 + 5000 * j + 5000) (wx ++ wm) (lvL b qx qm (6 * j)) 1107 []) {a tx s3 s4 : Int → Int} {pn : Int} {wx wm : va_W} (hx : XS E a tx s3 s4 pn qx wx) (hm : MS E a tx s3 s4 pn qm wm) (hS : ST a tx s3 s4 pn (5000 * (j : Int))) : G p l e room_1 s m args below meth c Q E A 4 (100 + 40 * j) (3000 + 5000 * j) (wx ++ wm) (lvL b qx qm (6 * j)) 1038 [] := by
  refine g_aload_n C (x := qx) 2 rfl dL_law_1038 rfl ?_
  refine g_aload_n C (x := b) 3 rfl dL_law_1039 rfl ?_
  refine g_iload_n C 0 rfl dL_law_1040 rfl ?_
  refine g_iconst C dL_law_1041 rfl ?_
  refine g_iadd C (r := ((6 * j + 1 : Nat) : Int)) (by omega) dL_law_1042 rfl ?_
  refine g_sld C hX hbl hbA (i := 6 * j + 1) (by omega) hL dL_law_1043 rfl ?_
  refine g_callW C (b := qx) (As := [vI (sv xs (6 * j + 1))]) (k' := 100 + 40 * j + 0) (n' := 3000 + 5000 * j + 0) gL_law_X10_count (ci := 11) (let ⟨fs, h⟩ := XS_mem hx; ⟨fs, List.mem_append_left _ h⟩) rfl rfl (Mc.frame (XB_count hx hS (by omega) (sv_b xs _)) List.perm_append_comm) hyL_X10_count rfl ⟨rfl, rfl⟩ ⟨Nat.le_of_ble_eq_true rfl, Nat.le_of_ble_eq_true rfl, (by show 100 + 40 * j + 0 ≤ 600000; omega), (by show 3000 + 5000 * j + 0 ≤ 7302250; omega)⟩ (Nat.le_of_ble_eq_true rfl) dL_law_1044 rfl rfl rfl ?_
  rintro v1 w1 ⟨wx1, ⟨rfl, hx1⟩, rfl⟩
  refine g_aload_n C (x := qm) 1 rfl dL_law_1047 rfl ?_
  refine g_aload_n C (x := b) 3 rfl dL_law_1048 rfl ?_
  refine g_iload_n C 0 rfl dL_law_1049 rfl ?_
  refine g_iconst C dL_law_1050 rfl ?_
  refine g_iadd C (r := ((6 * j + 1 : Nat) : Int)) (by omega) dL_law_1051 rfl ?_
  refine g_sld C hX hbl hbA (i := 6 * j + 1) (by omega) hL dL_law_1052 rfl ?_
  refine g_callW C (b := qm) (As := [vI (sv xs (6 * j + 1))]) (k' := 100 + 40 * j + 0) (n' := 3000 + 5000 * j + 0) gL_law_X11_count (ci := 12) (let ⟨fs, h⟩ := MS_mem hm; ⟨fs, List.mem_append_left _ h⟩) rfl rfl (Mc.frame (RB_count hm hS (by omega) (sv_b xs _)) List.perm_append_comm) hyL_X11_count rfl ⟨rfl, rfl⟩ ⟨Nat.le_of_ble_eq_true rfl, Nat.le_of_ble_eq_true rfl, (by show 100 + 40 * j + 0 ≤ 600000; omega), (by show 3000 + 5000 * j + 0 ≤ 7302250; omega)⟩ (Nat.le_of_ble_eq_true rfl) dL_law_1053 rfl rfl rfl ?_
  rintro v2 w2 ⟨wm1, ⟨rfl, hm1⟩, rfl⟩
  refine g_icmpS C dL_law_1056 rfl ?_
  exact g_wid (by omega) (by omega) (kk _ _ _ _ _ _ _ hx1 hm1 (ST_same hS))
theorem hyL_X10_save : yX10_save.cls ≠ "java/lang/invoke/MethodHandle" ∧ yX10_save.cls ≠ "java/lang/invoke/VarHandle" ∧ (parseMethodDescriptor yX10_save.desc).map (fun d => d.parameters.length) = some 1 := ⟨by decide +kernel, by decide +kernel, by decide +kernel⟩
theorem hyL_X11_save : yX11_save.cls ≠ "java/lang/invoke/MethodHandle" ∧ yX11_save.cls ≠ "java/lang/invoke/VarHandle" ∧ (parseMethodDescriptor yX11_save.desc).map (fun d => d.parameters.length) = some 1 := ⟨by decide +kernel, by decide +kernel, by decide +kernel⟩
set_option maxHeartbeats 1000000 in
set_option maxRecDepth 20000 in
theorem lawOp_save (C : Cx p s m args meth c E A 4 cL_law wsL_law RL) {b L : Nat} {xs : Nat → Int32} (hX : va_X b L xs s s.heap) (hbl : b < s.heap.size) (hbA : ¬ A b) (hL : L ≤ 3072) {j : Nat} (hj : 6 * j + 6 ≤ L) {qx qm : Nat} (kk : ∀ (a tx s3 s4 : Int → Int) (pn : Int) (wx wm : va_W), XS E a tx s3 s4 pn qx wx → MS E a tx s3 s4 pn qm wm → ST a tx s3 s4 pn (5000 * (j : Int) + 5000) → G p l e room_1 s m args below meth c Q E A 4 (100 + 40 * j + 40) (3000 + 5000 * j + 5000) (wx ++ wm) (lvL b qx qm (6 * j)) 1107 []) {a tx s3 s4 : Int → Int} {pn : Int} {wx wm : va_W} (hx : XS E a tx s3 s4 pn qx wx) (hm : MS E a tx s3 s4 pn qm wm) (hS : ST a tx s3 s4 pn (5000 * (j : Int))) : G p l e room_1 s m args below meth c Q E A 4 (100 + 40 * j) (3000 + 5000 * j) (wx ++ wm) (lvL b qx qm (6 * j)) 1061 [] := by
  refine g_aload_n C (x := qx) 2 rfl dL_law_1061 rfl ?_
  refine g_aload_n C (x := b) 3 rfl dL_law_1062 rfl ?_
  refine g_iload_n C 0 rfl dL_law_1063 rfl ?_
  refine g_iconst C dL_law_1064 rfl ?_
  refine g_iadd C (r := ((6 * j + 1 : Nat) : Int)) (by omega) dL_law_1065 rfl ?_
  refine g_sld C hX hbl hbA (i := 6 * j + 1) (by omega) hL dL_law_1066 rfl ?_
  refine g_callW C (b := qx) (As := [vI (sv xs (6 * j + 1))]) (k' := 100 + 40 * j + 38) (n' := 3000 + 5000 * j + 398) gL_law_X10_save (ci := 11) (let ⟨fs, h⟩ := XS_mem hx; ⟨fs, List.mem_append_left _ h⟩) rfl rfl (Mc.frame (XB_save hx hS (by omega) (sv_b xs _)) List.perm_append_comm) hyL_X10_save rfl ⟨rfl, rfl⟩ ⟨Nat.le_of_ble_eq_true rfl, Nat.le_of_ble_eq_true rfl, (by show 100 + 40 * j + 38 ≤ 600000; omega), (by show 3000 + 5000 * j + 398 ≤ 7302250; omega)⟩ (Nat.le_of_ble_eq_true rfl) dL_law_1067 rfl rfl rfl ?_
  rintro v1 w1 ⟨wx1, ⟨rfl, hx1⟩, rfl⟩
  refine g_aload_n C (x := qm) 1 rfl dL_law_1070 rfl ?_
  refine g_aload_n C (x := b) 3 rfl dL_law_1071 rfl ?_
  refine g_iload_n C 0 rfl dL_law_1072 rfl ?_
  refine g_iconst C dL_law_1073 rfl ?_
  refine g_iadd C (r := ((6 * j + 1 : Nat) : Int)) (by omega) dL_law_1074 rfl ?_
  refine g_sld C hX hbl hbA (i := 6 * j + 1) (by omega) hL dL_law_1075 rfl ?_
  refine g_callW C (b := qm) (As := [vI (sv xs (6 * j + 1))]) (k' := 100 + 40 * j + 38 + 0) (n' := 3000 + 5000 * j + 398 + 0) gL_law_X11_save (ci := 12) (let ⟨fs, h⟩ := MS_mem hm; ⟨fs, List.mem_append_left _ h⟩) rfl rfl (Mc.frame (RB_save hm hS (by omega) (sv_b xs _)) List.perm_append_comm) hyL_X11_save rfl ⟨rfl, rfl⟩ ⟨Nat.le_of_ble_eq_true rfl, Nat.le_of_ble_eq_true rfl, (by show 100 + 40 * j + 38 + 0 ≤ 600000; omega), (by show 3000 + 5000 * j + 398 + 0 ≤ 7302250; omega)⟩ (Nat.le_of_ble_eq_true rfl) dL_law_1076 rfl rfl rfl ?_
  rintro v2 w2 ⟨wm1, ⟨rfl, hm1⟩, rfl⟩
  refine g_icmpS C dL_law_1079 rfl ?_
  exact g_wid (by omega) (by omega) (kk _ _ _ _ _ _ _ hx1 hm1 (ST_save hS))
theorem hyL_X10_restore : yX10_restore.cls ≠ "java/lang/invoke/MethodHandle" ∧ yX10_restore.cls ≠ "java/lang/invoke/VarHandle" ∧ (parseMethodDescriptor yX10_restore.desc).map (fun d => d.parameters.length) = some 1 := ⟨by decide +kernel, by decide +kernel, by decide +kernel⟩
theorem hyL_X11_restore : yX11_restore.cls ≠ "java/lang/invoke/MethodHandle" ∧ yX11_restore.cls ≠ "java/lang/invoke/VarHandle" ∧ (parseMethodDescriptor yX11_restore.desc).map (fun d => d.parameters.length) = some 1 := ⟨by decide +kernel, by decide +kernel, by decide +kernel⟩
set_option maxHeartbeats 1000000 in
set_option maxRecDepth 20000 in
theorem lawOp_rest (C : Cx p s m args meth c E A 4 cL_law wsL_law RL) {b L : Nat} {xs : Nat → Int32} (hX : va_X b L xs s s.heap) (hbl : b < s.heap.size) (hbA : ¬ A b) (hL : L ≤ 3072) {j : Nat} (hj : 6 * j + 6 ≤ L) {qx qm : Nat} (kk : ∀ (a tx s3 s4 : Int → Int) (pn : Int) (wx wm : va_W), XS E a tx s3 s4 pn qx wx → MS E a tx s3 s4 pn qm wm → ST a tx s3 s4 pn (5000 * (j : Int) + 5000) → G p l e room_1 s m args below meth c Q E A 4 (100 + 40 * j + 40) (3000 + 5000 * j + 5000) (wx ++ wm) (lvL b qx qm (6 * j)) 1107 []) {a tx s3 s4 : Int → Int} {pn : Int} {wx wm : va_W} (hx : XS E a tx s3 s4 pn qx wx) (hm : MS E a tx s3 s4 pn qm wm) (hS : ST a tx s3 s4 pn (5000 * (j : Int))) : G p l e room_1 s m args below meth c Q E A 4 (100 + 40 * j) (3000 + 5000 * j) (wx ++ wm) (lvL b qx qm (6 * j)) 1084 [] := by
  refine g_aload_n C (x := qx) 2 rfl dL_law_1084 rfl ?_
  refine g_aload_n C (x := b) 3 rfl dL_law_1085 rfl ?_
  refine g_iload_n C 0 rfl dL_law_1086 rfl ?_
  refine g_iconst C dL_law_1087 rfl ?_
  refine g_iadd C (r := ((6 * j + 1 : Nat) : Int)) (by omega) dL_law_1088 rfl ?_
  refine g_sld C hX hbl hbA (i := 6 * j + 1) (by omega) hL dL_law_1089 rfl ?_
  refine g_callW C (b := qx) (As := [vI (sv xs (6 * j + 1))]) (k' := 100 + 40 * j + 0) (n' := 3000 + 5000 * j + 0) gL_law_X10_restore (ci := 11) (let ⟨fs, h⟩ := XS_mem hx; ⟨fs, List.mem_append_left _ h⟩) rfl rfl (Mc.frame (XB_rest hx hS (by omega) (sv_b xs _)) List.perm_append_comm) hyL_X10_restore rfl ⟨rfl, rfl⟩ ⟨Nat.le_of_ble_eq_true rfl, Nat.le_of_ble_eq_true rfl, (by show 100 + 40 * j + 0 ≤ 600000; omega), (by show 3000 + 5000 * j + 0 ≤ 7302250; omega)⟩ (Nat.le_of_ble_eq_true rfl) dL_law_1090 rfl rfl rfl ?_
  rintro v1 w1 ⟨wx1, ⟨rfl, hx1⟩, rfl⟩
  refine g_aload_n C (x := qm) 1 rfl dL_law_1093 rfl ?_
  refine g_aload_n C (x := b) 3 rfl dL_law_1094 rfl ?_
  refine g_iload_n C 0 rfl dL_law_1095 rfl ?_
  refine g_iconst C dL_law_1096 rfl ?_
  refine g_iadd C (r := ((6 * j + 1 : Nat) : Int)) (by omega) dL_law_1097 rfl ?_
  refine g_sld C hX hbl hbA (i := 6 * j + 1) (by omega) hL dL_law_1098 rfl ?_
  refine g_callW C (b := qm) (As := [vI (sv xs (6 * j + 1))]) (k' := 100 + 40 * j + 0) (n' := 3000 + 5000 * j + 0) gL_law_X11_restore (ci := 12) (let ⟨fs, h⟩ := MS_mem hm; ⟨fs, List.mem_append_left _ h⟩) rfl rfl (Mc.frame (RB_rest hm hS (by omega) (sv_b xs _)) List.perm_append_comm) hyL_X11_restore rfl ⟨rfl, rfl⟩ ⟨Nat.le_of_ble_eq_true rfl, Nat.le_of_ble_eq_true rfl, (by show 100 + 40 * j + 0 ≤ 600000; omega), (by show 3000 + 5000 * j + 0 ≤ 7302250; omega)⟩ (Nat.le_of_ble_eq_true rfl) dL_law_1099 rfl rfl rfl ?_
  rintro v2 w2 ⟨wm1, ⟨rfl, hm1⟩, rfl⟩
  refine g_icmpS C dL_law_1102 rfl ?_
  exact g_wid (by omega) (by omega) (kk _ _ _ _ _ _ _ hx1 hm1 (ST_rest hS))
theorem and31 (x : Int32) : ∃ z : Int, (0 ≤ z ∧ z ≤ 31) ∧ x &&& I32 31 = I32 z := by
  refine ⟨(x &&& I32 31).toInt, ?_, (Int32.ofInt_toInt _).symm⟩
  have hb : (x &&& I32 31).toBitVec = x.toBitVec &&& 31#32 := by
    rw [show I32 31 = (31 : Int32) from rfl]; exact Int32.toBitVec_and ..
  have h1 : (x.toBitVec &&& 31#32).toNat ≤ 31 := by
    rw [BitVec.toNat_and]; exact Nat.and_le_right
  have h2 : (x &&& I32 31).toInt = ((x.toBitVec &&& 31#32).toNat : Int) := by
    rw [← Int32.toInt_toBitVec, hb]
    exact BitVec.toInt_eq_toNat_of_lt (by omega)
  omega
set_option maxHeartbeats 1000000 in
theorem lawRow (C : Cx p s m args meth c E A 4 cL_law wsL_law RL) {b L : Nat} {xs : Nat → Int32} (hX : va_X b L xs s s.heap) (hbl : b < s.heap.size) (hbA : ¬ A b) (hL : L ≤ 3072) {j : Nat} (hj : 6 * j + 6 ≤ L) {qx qm : Nat} (kk : ∀ (a tx s3 s4 : Int → Int) (pn : Int) (wx wm : va_W), XS E a tx s3 s4 pn qx wx → MS E a tx s3 s4 pn qm wm → ST a tx s3 s4 pn (5000 * (j : Int) + 5000) → G p l e room_1 s m args below meth c Q E A 4 (100 + 40 * j + 40) (3000 + 5000 * j + 5000) (wx ++ wm) (lvL b qx qm (6 * j)) 1107 []) {a tx s3 s4 : Int → Int} {pn : Int} {wx wm : va_W} (hx : XS E a tx s3 s4 pn qx wx) (hm : MS E a tx s3 s4 pn qm wm) (hS : ST a tx s3 s4 pn (5000 * (j : Int))) : G p l e room_1 s m args below meth c Q E A 4 (100 + 40 * j) (3000 + 5000 * j) (wx ++ wm) (lvL b qx qm (6 * j)) 27 [] := by
  refine g_aload_n C (x := b) 3 rfl dL_law_27 rfl ?_
  refine g_iload_n C 0 rfl dL_law_28 rfl ?_
  refine g_sld C hX hbl hbA (i := 6 * j) (by omega) hL dL_law_29 rfl ?_
  refine g_bipush C (by decide) dL_law_30 rfl ?_
  obtain ⟨z, hz, ez⟩ := and31 (I32 (sv xs (6 * j)))
  refine g_iand C ez dL_law_32 rfl ?_
  clear ez
  by_cases h31 : z = 31
  · subst h31
    exact g_tsOut C (a := 31) ⟨by decide, by decide⟩ (Or.inr (by decide)) dL_law_33 (pc' := 1107) rfl (g_wid (by omega) (by omega) (kk _ _ _ _ _ _ _ hx hm (ST_same hS)))
  · rcases (show z = 0 ∨ z = 1 ∨ z = 2 ∨ z = 3 ∨ z = 4 ∨ z = 5 ∨ z = 6 ∨ z = 7 ∨ z = 8 ∨ z = 9 ∨ z = 10 ∨ z = 11 ∨ z = 12 ∨ z = 13 ∨ z = 14 ∨ z = 15 ∨ z = 16 ∨ z = 17 ∨ z = 18 ∨ z = 19 ∨ z = 20 ∨ z = 21 ∨ z = 22 ∨ z = 23 ∨ z = 24 ∨ z = 25 ∨ z = 26 ∨ z = 27 ∨ z = 28 ∨ z = 29 ∨ z = 30 by omega) with rfl | rfl | rfl | rfl | rfl | rfl | rfl | rfl | rfl | rfl | rfl | rfl | rfl | rfl | rfl | rfl | rfl | rfl | rfl | rfl | rfl | rfl | rfl | rfl | rfl | rfl | rfl | rfl | rfl | rfl | rfl
    · exact g_tsIn C (a := 0) ⟨by decide, by decide⟩ (by decide) (by decide) rfl dL_law_33 (pc' := 172) rfl (lawOp_corner C hX hbl hbA hL hj kk hx hm hS)
    · exact g_tsIn C (a := 1) ⟨by decide, by decide⟩ (by decide) (by decide) rfl dL_law_33 (pc' := 215) rfl (lawOp_clear C hX hbl hbA hL hj kk hx hm hS)
    · exact g_tsIn C (a := 2) ⟨by decide, by decide⟩ (by decide) (by decide) rfl dL_law_33 (pc' := 238) rfl (lawOp_at C hX hbl hbA hL hj kk hx hm hS)
    · exact g_tsIn C (a := 3) ⟨by decide, by decide⟩ (by decide) (by decide) rfl dL_law_33 (pc' := 281) rfl (lawOp_sound C hX hbl hbA hL hj kk hx hm hS)
    · exact g_tsIn C (a := 4) ⟨by decide, by decide⟩ (by decide) (by decide) rfl dL_law_33 (pc' := 304) rfl (lawOp_contains C hX hbl hbA hL hj kk hx hm hS)
    · exact g_tsIn C (a := 5) ⟨by decide, by decide⟩ (by decide) (by decide) rfl dL_law_33 (pc' := 347) rfl (lawOp_set C hX hbl hbA hL hj kk hx hm hS)
    · exact g_tsIn C (a := 6) ⟨by decide, by decide⟩ (by decide) (by decide) rfl dL_law_33 (pc' := 380) rfl (lawOp_zone C hX hbl hbA hL hj kk hx hm hS)
    · exact g_tsIn C (a := 7) ⟨by decide, by decide⟩ (by decide) (by decide) rfl dL_law_33 (pc' := 423) rfl (lawOp_apply C hX hbl hbA hL hj kk hx hm hS)
    · exact g_tsIn C (a := 8) ⟨by decide, by decide⟩ (by decide) (by decide) rfl dL_law_33 (pc' := 476) rfl (lawOp_ramp C hX hbl hbA hL hj kk hx hm hS)
    · exact g_tsIn C (a := 9) ⟨by decide, by decide⟩ (by decide) (by decide) rfl dL_law_33 (pc' := 539) rfl (lawOp_net C hX hbl hbA hL hj kk hx hm hS)
    · exact g_tsIn C (a := 10) ⟨by decide, by decide⟩ (by decide) (by decide) rfl dL_law_33 (pc' := 582) rfl (lawOp_fault C hX hbl hbA hL hj kk hx hm hS)
    · exact g_tsIn C (a := 11) ⟨by decide, by decide⟩ (by decide) (by decide) rfl dL_law_33 (pc' := 615) rfl (lawOp_heal C hX hbl hbA hL hj kk hx hm hS)
    · exact g_tsIn C (a := 12) ⟨by decide, by decide⟩ (by decide) (by decide) rfl dL_law_33 (pc' := 628) rfl (lawOp_phasor C hX hbl hbA hL hj kk hx hm hS)
    · exact g_tsIn C (a := 13) ⟨by decide, by decide⟩ (by decide) (by decide) rfl dL_law_33 (pc' := 652) rfl (lawOp_pass C hX hbl hbA hL hj kk hx hm hS)
    · exact g_tsIn C (a := 14) ⟨by decide, by decide⟩ (by decide) (by decide) rfl dL_law_33 (pc' := 675) rfl (lawOp_measure C hX hbl hbA hL hj kk hx hm hS)
    · exact g_tsIn C (a := 15) ⟨by decide, by decide⟩ (by decide) (by decide) rfl dL_law_33 (pc' := 699) rfl (lawOp_state C hX hbl hbA hL hj kk hx hm hS)
    · exact g_tsIn C (a := 16) ⟨by decide, by decide⟩ (by decide) (by decide) rfl dL_law_33 (pc' := 732) rfl (lawOp_tripped C hX hbl hbA hL hj kk hx hm hS)
    · exact g_tsIn C (a := 17) ⟨by decide, by decide⟩ (by decide) (by decide) rfl dL_law_33 (pc' := 745) rfl (lawOp_reset C hX hbl hbA hL hj kk hx hm hS)
    · exact g_tsIn C (a := 18) ⟨by decide, by decide⟩ (by decide) (by decide) rfl dL_law_33 (pc' := 758) rfl (lawOp_event C hX hbl hbA hL hj kk hx hm hS)
    · exact g_tsIn C (a := 19) ⟨by decide, by decide⟩ (by decide) (by decide) rfl dL_law_33 (pc' := 791) rfl (lawOp_covers C hX hbl hbA hL hj kk hx hm hS)
    · exact g_tsIn C (a := 20) ⟨by decide, by decide⟩ (by decide) (by decide) rfl dL_law_33 (pc' := 824) rfl (lawOp_reach C hX hbl hbA hL hj kk hx hm hS)
    · exact g_tsIn C (a := 21) ⟨by decide, by decide⟩ (by decide) (by decide) rfl dL_law_33 (pc' := 857) rfl (lawOp_test C hX hbl hbA hL hj kk hx hm hS)
    · exact g_tsIn C (a := 22) ⟨by decide, by decide⟩ (by decide) (by decide) rfl dL_law_33 (pc' := 910) rfl (lawOp_fore C hX hbl hbA hL hj kk hx hm hS)
    · exact g_tsIn C (a := 23) ⟨by decide, by decide⟩ (by decide) (by decide) rfl dL_law_33 (pc' := 933) rfl (lawOp_say C hX hbl hbA hL hj kk hx hm hS)
    · exact g_tsIn C (a := 24) ⟨by decide, by decide⟩ (by decide) (by decide) rfl dL_law_33 (pc' := 956) rfl (lawOp_wipe C hX hbl hbA hL hj kk hx hm hS)
    · exact g_tsIn C (a := 25) ⟨by decide, by decide⟩ (by decide) (by decide) rfl dL_law_33 (pc' := 969) rfl (lawOp_flaw C hX hbl hbA hL hj kk hx hm hS)
    · exact g_tsIn C (a := 26) ⟨by decide, by decide⟩ (by decide) (by decide) rfl dL_law_33 (pc' := 982) rfl (lawOp_load C hX hbl hbA hL hj kk hx hm hS)
    · exact g_tsIn C (a := 27) ⟨by decide, by decide⟩ (by decide) (by decide) rfl dL_law_33 (pc' := 1005) rfl (lawOp_spell C hX hbl hbA hL hj kk hx hm hS)
    · exact g_tsIn C (a := 28) ⟨by decide, by decide⟩ (by decide) (by decide) rfl dL_law_33 (pc' := 1038) rfl (lawOp_count C hX hbl hbA hL hj kk hx hm hS)
    · exact g_tsIn C (a := 29) ⟨by decide, by decide⟩ (by decide) (by decide) rfl dL_law_33 (pc' := 1061) rfl (lawOp_save C hX hbl hbA hL hj kk hx hm hS)
    · exact g_tsIn C (a := 30) ⟨by decide, by decide⟩ (by decide) (by decide) rfl dL_law_33 (pc' := 1084) rfl (lawOp_rest C hX hbl hbA hL hj kk hx hm hS)
/-- the loop, from its head: at the script's end with 1 on the stack -/
theorem lawLoop (C : Cx p s m args meth c E A 4 cL_law wsL_law RL) {b L : Nat} {xs : Nat → Int32} (hX : va_X b L xs s s.heap) (hbl : b < s.heap.size) (hbA : ¬ A b) (hL : L ≤ 3072) {qx qm : Nat} (kf : ∀ (k n : Nat) (ws : va_W) (lv : List (Nat × Value)), k ≤ 600000 → n ≤ 7302250 → G p l e room_1 s m args below meth c Q E A 4 k n ws lv 1114 [vI 1]) :
    ∀ (d j : Nat), j + d = 512 → LK p l e s m args below meth c Q E A b qx qm j 18
  | d, j, hd => by
    intro a tx s3 s4 pn wx wm hx hm hS
    refine g_iload_n C 0 rfl dL_law_18 rfl ?_
    refine g_aload_n C (x := b) 3 rfl dL_law_19 rfl ?_
    refine g_slen C hX hbl hbA dL_law_20 rfl ?_
    refine g_bipush C (by decide) dL_law_21 rfl ?_
    refine g_isub C (r := (L : Int) - 6) rfl dL_law_23 rfl ?_
    refine g_icmp_gt C (tgt := 1113) ⟨by omega, by omega⟩ ⟨by omega, by omega⟩ dL_law_24 rfl rfl (fun c_1 => ?_) (fun c_1 => ?_)
    · refine g_iconst C dL_law_1113 rfl ?_
      exact kf _ _ _ _ (by omega) (by omega)
    · match d, hd with
      | 0, hd => exact absurd c_1 (by omega)
      | d + 1, hd =>
        have hj : 6 * j + 6 ≤ L := by omega
        refine lawRow C hX hbl hbA hL hj (fun a' tx' s3' s4' pn' wx' wm' hx' hm' hS' => ?_) hx hm hS
        refine g_iinc C (r := ((6 * (j + 1) : Nat) : Int)) 0 [0, 1, 2, 3] rfl (by omega) (by decide) rfl rfl dL_law_1107 rfl ?_
        refine g_goto C dL_law_1110 (pc' := 18) rfl ?_
        exact g_wid (by omega) (by omega) (lawLoop C hX hbl hbA hL kf d (j + 1) (by omega) a' tx' s3' s4' pn' wx' wm' hx' hm' (by rw [show (5000 * ((j + 1 : Nat) : Int)) = 5000 * (j : Int) + 5000 by omega]; exact hS'))
end LAW
