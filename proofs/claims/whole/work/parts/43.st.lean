/-! the ranges of both sides behind a call -/
theorem ST_up {a tx s3 s4 : Int → Int} {pn B C : Int} (h : ST a tx s3 s4 pn B) (hBC : B ≤ C) : ST a tx s3 s4 pn C :=
  ⟨Inv_up h.1 hBC, h.2.1, h.2.2.1, h.2.2.2.1, h.2.2.2.2.1, fun z => Inv_up (h.2.2.2.2.2.1 z) hBC, fun z => Inv_up (h.2.2.2.2.2.2 z) hBC⟩
theorem ST_row {a b tx s3 s4 : Int → Int} {pn B C : Int} (h : ST a tx s3 s4 pn B) (hI : Inv b C) (hBC : B ≤ C) : ST b tx s3 s4 pn C :=
  ⟨hI, (ST_up h hBC).2⟩
theorem ST_inv {a b tx s3 s4 : Int → Int} {pn B : Int} (h : ST a tx s3 s4 pn B) (hI : Inv b B) : ST b tx s3 s4 pn (B + 5000) :=
  ST_row h (Inv_up hI (by omega)) (by omega)
theorem ST_same {a tx s3 s4 : Int → Int} {pn B : Int} (h : ST a tx s3 s4 pn B) : ST a tx s3 s4 pn (B + 5000) := ST_up h (by omega)
theorem ST_pass {a tx s3 s4 : Int → Int} {pn B m : Int} (h : ST a tx s3 s4 pn B) : ST (n_pass a m) tx s3 s4 pn (B + 5000) := ST_row h (inv_pass h.1) (by omega)
theorem ST_say {a tx s3 s4 : Int → Int} {pn B c : Int} (h : ST a tx s3 s4 pn B) : ST a (n_sayT tx pn c) s3 s4 (n_sayN pn c) (B + 5000) := by
  have g := ST_same h
  refine ⟨g.1, ?_, ?_, g.2.2.2⟩
  · unfold n_sayT n_sayN
    split
    · rename_i hk
      intro k h0 h1
      by_cases e : k = pn
      · rw [ua_eq' e]; exact ⟨by omega, by omega⟩
      · rw [ua_ne e]; exact h.2.1 k h0 (by omega)
    · exact h.2.1
  · unfold n_sayN
    have := h.2.2.1
    split <;> omega
theorem ST_wipe {a tx s3 s4 : Int → Int} {pn B : Int} (h : ST a tx s3 s4 pn B) : ST a tx s3 s4 0 (B + 5000) := by
  have g := ST_same h
  exact ⟨g.1, fun k h0 h1 => absurd h1 (by omega), ⟨by omega, by omega⟩, g.2.2.2⟩
theorem ST_load {a tx s3 s4 : Int → Int} {pn B p : Int} (h : ST a tx s3 s4 pn B) : ST (n_load a tx pn p) tx s3 s4 (n_lodN tx pn p) (B + 5000) := by
  unfold n_load n_lodN
  by_cases hk : (0 ≤ p ∧ p ≤ 4) ∧ q_flaw tx pn = -6
  · rw [if_pos hk, if_pos hk]
    have rF := (rdP_RF tx h.2.2.1.1).1
    have h1 := rF.1
    exact ST_wipe (ST_row h (lod_inv h.1 hk.1 _ (by omega) (fun k h0 h2 => rF.2 hk.2 k h0 (by omega))) (Int.le_refl _))
  · rw [if_neg hk, if_neg hk]; exact ST_same h
theorem ST_save {a tx s3 s4 : Int → Int} {pn B s : Int} (h : ST a tx s3 s4 pn B) : ST a tx (n_saveS a s3 s) (n_saveF s4 s) pn (B + 5000) := by
  by_cases hk : 0 ≤ s ∧ s ≤ 1
  · have e1 : n_saveS a s3 s = cpyT a s3 0 (310 * s) 310 := if_pos hk
    have e2 : n_saveF s4 s = ua s4 s 1 := if_pos hk
    rw [e1, e2]
    have g := ST_same h
    rcases (show s = 0 ∨ s = 1 by omega) with rfl | rfl
    · refine ⟨g.1, g.2.1, g.2.2.1, Or.inr ua_eq, ?_, fun _ => Inv_c (fun j h0 h1 => (sv_a (by omega)).trans (by congr 1; omega)) g.1, fun z => ?_⟩
      · rw [ua_ne (by decide)]; exact g.2.2.2.2.1
      · rw [ua_ne (by decide)] at z
        exact Inv_c (fun j h0 h1 => sv_o (by omega)) (g.2.2.2.2.2.2 z)
    · refine ⟨g.1, g.2.1, g.2.2.1, ?_, Or.inr ua_eq, fun z => ?_, fun _ => Inv_c (fun j h0 h1 => (sv_a (by omega)).trans (by congr 1; omega)) g.1⟩
      · rw [ua_ne (by decide)]; exact g.2.2.2.1
      · rw [ua_ne (by decide)] at z
        exact Inv_c (fun j h0 h1 => sv_o (by omega)) (g.2.2.2.2.2.1 z)
  · rw [show n_saveS a s3 s = s3 from if_neg hk, show n_saveF s4 s = s4 from if_neg hk]; exact ST_same h
theorem ST_rest {a tx s3 s4 : Int → Int} {pn B s : Int} (h : ST a tx s3 s4 pn B) : ST (n_rest a s3 s4 s) tx s3 s4 pn (B + 5000) := by
  by_cases hk : (0 ≤ s ∧ s ≤ 1) ∧ ¬ s4 s = 0
  · rw [show n_rest a s3 s4 s = cpyT s3 a (310 * s) 0 310 from if_pos hk]
    refine ST_inv h ?_
    rcases (show s = 0 ∨ s = 1 by omega) with rfl | rfl
    · exact Inv_c (fun j h0 h1 => (rs_a (by omega)).trans (by congr 1; omega)) (h.2.2.2.2.2.1 (h.2.2.2.1.resolve_left hk.2))
    · exact Inv_c (fun j h0 h1 => (rs_a (by omega)).trans (by congr 1)) (h.2.2.2.2.2.2 (h.2.2.2.2.1.resolve_left hk.2))
  · rw [show n_rest a s3 s4 s = a from if_neg hk]; exact ST_same h
/-! a call with the whole world -/
theorem rg_map {α : Type} (ws : List α) : (List.range ws.length).map (fun i => ws[i]?) = ws.map some := by
  apply List.ext_getElem?
  intro i
  rw [List.getElem?_map, List.getElem?_map]
  by_cases h : i < ws.length
  · rw [List.getElem?_range h, List.getElem?_eq_getElem h]; show some (ws[i]?) = some (some ws[i]); rw [List.getElem?_eq_getElem h]
  · rw [List.getElem?_eq_none (by rw [List.length_range]; omega), List.getElem?_eq_none (by omega)]; rfl
theorem rg_fm {α : Type} (ws : List α) : (List.range ws.length).filterMap (fun i => ws[i]?) = ws := by
  have e : (List.range ws.length).filterMap (fun i => ws[i]?) = ((List.range ws.length).map (fun i => ws[i]?)).filterMap id := by
    rw [List.filterMap_map]; rfl
  rw [e, rg_map, List.filterMap_map]
  exact List.filterMap_some
theorem nd_of : ∀ {l : List Nat}, l.Nodup → va_nd l = true
  | [], _ => rfl
  | a :: l, h => by
    rw [List.nodup_cons] at h
    simp only [va_nd, Bool.and_eq_true, decide_eq_true_eq]
    exact ⟨h.1, nd_of h.2⟩
/-! what both worlds hold of their first objects -/
theorem XS_mem {E : Ev} {a tx s3 s4 : Int → Int} {pn : Int} {q : Nat} {w : va_W} (h : XS E a tx s3 s4 pn q w) : ∃ fs : List Value, (q, (Sum.inr (11, fs) : va_E)) ∈ w := by
  obtain ⟨X, R, CC, x, y, d, o0, o1, wc, w2, w3, w4, wp, wr, ws, wa, wb, rfl, -, -, -, -, -, -, -, -, -, -, hw⟩ := h
  exact ⟨_, hw.mem_iff.mpr (List.mem_flatten.mpr ⟨_, List.mem_cons_self, List.mem_cons_self⟩)⟩
theorem MS_mem {E : Ev} {a tx s3 s4 : Int → Int} {pn : Int} {q : Nat} {w : va_W} (h : MS E a tx s3 s4 pn q w) : ∃ fs : List Value, (q, (Sum.inr (12, fs) : va_E)) ∈ w := by
  obtain ⟨Q, f0, f1, f2, f3, px, py, pb, rg, wr, rn, wn, s2, rr, ww, rfl, rfl⟩ := h
  exact ⟨_, List.mem_cons_self⟩
section LW
variable {p : Program} {l : Launch} {e : Env} {R : Room} {s : State} {m : MethodId} {args : Array Value} {below : List Frame} {meth : Method} {c : Code} {Q : State → Prop} {E : Ev} {A : Nat → Prop} {nL k n pc pc' k' n' idx : Nat} {cc : ByteArray} {Ts : List Cond} {own : String} {ws : va_W} {lv : List (Nat × Value)} {st : List Value}
theorem g_callW {y : MethodName} {wy wy' : List Cond} {bytes : ByteArray} {maxL na mc ms b : Nat} {ret : Option FieldType} {rm : Room} {As : List Value} {Post : Option Value → va_W → Prop} (C : Cx p s m args meth c E A nL cc Ts own) (hT : GoodIn Ts (wsV own idx y.cls y wy)) {ci : Nat} {T : u_T} {N : Nat} (hrc : ∃ fs : List Value, (b, (Sum.inr (ci, fs) : va_E)) ∈ ws) (hci : vwCl[ci]? = some (y.cls, T, N)) (hw : wy = Cond.code y bytes maxL ret :: wy') (hM : Mc l y wy rm E (.ref b :: As) ws mc ms Post) (hyd : y.cls ≠ "java/lang/invoke/MethodHandle" ∧ y.cls ≠ "java/lang/invoke/VarHandle" ∧ (parseMethodDescriptor y.desc).map (fun d => d.parameters.length) = some na) (hna : As.length = na) (hrm : rm.cells = mc ∧ rm.slots = ms) (hroom : rm.frames + 1 ≤ R.frames ∧ 8 + (maxL + 11) + rm.locals ≤ R.locals ∧ k + mc ≤ R.cells ∧ n + ms ≤ R.slots) (hst : (st.map fun v => v.category).sum ≤ 8) (d : decode cc pc = .ok (.invokevirtual idx, 3)) (hk : k + mc = k') (hns : n + ms = n') (hn : pc + 3 = pc')
    (kk : ∀ (v : Option Value) (w1 : va_W), Post v w1 → G p l e R s m args below meth c Q E A nL k' n' w1 lv pc' (v.toList ++ st)) : G p l e R s m args below meth c Q E A nL k n ws lv pc (As.reverse ++ .ref b :: st) := by
  obtain ⟨fs, hf⟩ := hrc
  obtain ⟨q9, hq⟩ := List.getElem?_of_mem hf
  exact g_callV (wc := ws) (wr := []) C hT hq hci hw hM hyd hna (List.range ws.length) [] (rg_map ws) (rg_fm ws) (nd_of List.nodup_range) rfl rfl (fun i hi => absurd hi List.not_mem_nil) hrm hroom hst d hk hns hn kk
/-- a script's int -/
def sv (xs : Nat → Int32) (i : Nat) : Int := (xs i).toInt
theorem sv_b (xs : Nat → Int32) (i : Nat) : bi (sv xs i) := ⟨by have := (xs i).le_toInt; unfold sv; omega, by have := (xs i).toInt_lt; unfold sv; omega⟩
theorem sv_e (xs : Nat → Int32) (i : Nat) : I32 (sv xs i) = xs i := Int32.ofInt_toInt _
theorem g_sld (C : Cx p s m args meth c E A nL cc Ts own) {b L i : Nat} {xs : Nat → Int32} (hX : va_X b L xs s s.heap) (hbl : b < s.heap.size) (hbA : ¬ A b) (h1 : i < L) (hL : L ≤ 3072) (d : decode cc pc = .ok (.iaload, 1)) (hn : pc + 1 = pc')
    (kk : G p l e R s m args below meth c Q E A nL k n ws lv pc' (vI (sv xs i) :: st)) : G p l e R s m args below meth c Q E A nL k n ws lv pc (vI (i : Int) :: .ref b :: st) := by
  subst hn; intro H locs ls hP hD hS hl
  have e1 : (I32 (i : Int)).toNatClampNeg = i := by rw [i_cl ⟨by omega, by omega⟩]; omega
  have hin : vp_in (I32 (i : Int)) L := by
    unfold vp_in
    rw [e1]
    rintro (q | q)
    · exact absurd ((i_lt ⟨by omega, by omega⟩ b0).mp (show I32 (i : Int) < I32 0 from q)) (by omega)
    · omega
  refine va_sld C.1.1 C.1.2.1 hX hbl hbA hS hin d ?_
  rw [e1, ← sv_e xs i]
  exact kk H locs ls hP hD hS hl
theorem g_slen (C : Cx p s m args meth c E A nL cc Ts own) {b L : Nat} {xs : Nat → Int32} (hX : va_X b L xs s s.heap) (hbl : b < s.heap.size) (hbA : ¬ A b) (d : decode cc pc = .ok (.arraylength, 1)) (hn : pc + 1 = pc')
    (kk : G p l e R s m args below meth c Q E A nL k n ws lv pc' (vI (L : Int) :: st)) : G p l e R s m args below meth c Q E A nL k n ws lv pc (.ref b :: st) := by
  subst hn; intro H locs ls hP hD hS hl
  exact va_slen C.1.1 C.1.2.1 hX hbl hbA hS d (kk H locs ls hP hD hS hl)
end LW
