set_option maxHeartbeats 1000000 in
theorem RB_corner {l : Launch} {E : Ev} {a tx s3 s4 : Int → Int} {pn B : Int} {q : Nat} {w : va_W} (hM : MS E a tx s3 s4 pn q w) (hS : ST a tx s3 s4 pn B) (hB : B ≤ 2900000) {p x z : Int} (b_p : bi p) (b_x : bi x) (b_z : bi z) : Mc l yX11_corner wsX11_corner (rmU 0 0) E [vR q, vI p, vI x, vI z] w 0 0 (fun v w' => v = some (vI (q_corner a p x z)) ∧ MS E (n_corner a p x z) (tx) (s3) (s4) (pn) q w') := by
  obtain ⟨Q, f0, f1, f2, f3, px, py, pb, rg, wr, rn, wn, s2, rr, ww, rfl, rfl⟩ := hM
  refine Mc.post (Mc.room (rm2 := rmU 0 0) (M_corner l E Q pn f0 f1 f2 f3 px py pb rg wr rn wn a s2 s3 s4 tx rr ww B p x z hS.1 hB b_p b_x b_z) (Nat.le_of_ble_eq_true rfl) (Nat.le_of_ble_eq_true rfl) rfl rfl) ?_
  rintro v w' ⟨rfl, rfl⟩
  exact ⟨rfl, Q, _, _, _, _, _, _, _, _, _, _, _, _, _, _, rfl, rfl⟩
set_option maxHeartbeats 1000000 in
theorem RB_clear {l : Launch} {E : Ev} {a tx s3 s4 : Int → Int} {pn B : Int} {q : Nat} {w : va_W} (hM : MS E a tx s3 s4 pn q w) (hS : ST a tx s3 s4 pn B) (hB : B ≤ 2900000) {p : Int} (b_p : bi p) : Mc l yX11_clear wsX11_clear (rmU 0 0) E [vR q, vI p] w 0 0 (fun v w' => v = some (vI (q_clear a p)) ∧ MS E (n_clear a p) (tx) (s3) (s4) (pn) q w') := by
  obtain ⟨Q, f0, f1, f2, f3, px, py, pb, rg, wr, rn, wn, s2, rr, ww, rfl, rfl⟩ := hM
  refine Mc.post (Mc.room (rm2 := rmU 0 0) (M_clear l E Q pn f0 f1 f2 f3 px py pb rg wr rn wn a s2 s3 s4 tx rr ww B p hS.1 hB b_p) (Nat.le_of_ble_eq_true rfl) (Nat.le_of_ble_eq_true rfl) rfl rfl) ?_
  rintro v w' ⟨rfl, rfl⟩
  exact ⟨rfl, Q, _, _, _, _, _, _, _, _, _, _, _, _, _, _, rfl, rfl⟩
set_option maxHeartbeats 1000000 in
theorem RB_at {l : Launch} {E : Ev} {a tx s3 s4 : Int → Int} {pn B : Int} {q : Nat} {w : va_W} (hM : MS E a tx s3 s4 pn q w) (hS : ST a tx s3 s4 pn B) (hB : B ≤ 2900000) {p i u : Int} (b_p : bi p) (b_i : bi i) (b_u : bi u) : Mc l yX11_at wsX11_at (rmU 0 0) E [vR q, vI p, vI i, vI u] w 0 0 (fun v w' => v = some (vI (q_at a p i u)) ∧ MS E (a) (tx) (s3) (s4) (pn) q w') := by
  obtain ⟨Q, f0, f1, f2, f3, px, py, pb, rg, wr, rn, wn, s2, rr, ww, rfl, rfl⟩ := hM
  refine Mc.post (Mc.room (rm2 := rmU 0 0) (M_at l E Q pn f0 f1 f2 f3 px py pb rg wr rn wn a s2 s3 s4 tx rr ww B p i u hS.1 hB b_p b_i b_u) (Nat.le_of_ble_eq_true rfl) (Nat.le_of_ble_eq_true rfl) rfl rfl) ?_
  rintro v w' ⟨rfl, rfl⟩
  exact ⟨rfl, Q, _, _, _, _, _, _, _, _, _, _, _, _, _, _, rfl, rfl⟩
set_option maxHeartbeats 1000000 in
theorem RB_sound {l : Launch} {E : Ev} {a tx s3 s4 : Int → Int} {pn B : Int} {q : Nat} {w : va_W} (hM : MS E a tx s3 s4 pn q w) (hS : ST a tx s3 s4 pn B) (hB : B ≤ 2900000) {p : Int} (b_p : bi p) : Mc l yX11_sound wsX11_sound (rmU 0 0) E [vR q, vI p] w 0 0 (fun v w' => v = some (vI (q_sound a p)) ∧ MS E (a) (tx) (s3) (s4) (pn) q w') := by
  obtain ⟨Q, f0, f1, f2, f3, px, py, pb, rg, wr, rn, wn, s2, rr, ww, rfl, rfl⟩ := hM
  refine Mc.post (Mc.room (rm2 := rmU 0 0) (M_sound l E Q pn f0 f1 f2 f3 px py pb rg wr rn wn a s2 s3 s4 tx rr ww B p hS.1 hB b_p) (Nat.le_of_ble_eq_true rfl) (Nat.le_of_ble_eq_true rfl) rfl rfl) ?_
  rintro v w' ⟨rfl, rfl⟩
  exact ⟨rfl, Q, _, _, _, _, _, _, _, _, _, _, _, _, _, _, rfl, rfl⟩
set_option maxHeartbeats 1000000 in
theorem RB_contains {l : Launch} {E : Ev} {a tx s3 s4 : Int → Int} {pn B : Int} {q : Nat} {w : va_W} (hM : MS E a tx s3 s4 pn q w) (hS : ST a tx s3 s4 pn B) (hB : B ≤ 2900000) {p x y : Int} (b_p : bi p) (b_x : bi x) (b_y : bi y) : Mc l yX11_contains wsX11_contains (rmU 0 0) E [vR q, vI p, vI x, vI y] w 0 0 (fun v w' => v = some (vI (q_contains a p x y)) ∧ MS E (a) (tx) (s3) (s4) (pn) q w') := by
  obtain ⟨Q, f0, f1, f2, f3, px, py, pb, rg, wr, rn, wn, s2, rr, ww, rfl, rfl⟩ := hM
  refine Mc.post (Mc.room (rm2 := rmU 0 0) (M_contains l E Q pn f0 f1 f2 f3 px py pb rg wr rn wn a s2 s3 s4 tx rr ww B p x y hS.1 hB b_p b_x b_y) (Nat.le_of_ble_eq_true rfl) (Nat.le_of_ble_eq_true rfl) rfl rfl) ?_
  rintro v w' ⟨rfl, rfl⟩
  exact ⟨rfl, Q, _, _, _, _, _, _, _, _, _, _, _, _, _, _, rfl, rfl⟩
set_option maxHeartbeats 1000000 in
theorem RB_set {l : Launch} {E : Ev} {a tx s3 s4 : Int → Int} {pn B : Int} {q : Nat} {w : va_W} (hM : MS E a tx s3 s4 pn q w) (hS : ST a tx s3 s4 pn B) (hB : B ≤ 2900000) {s z : Int} (b_s : bi s) (b_z : bi z) : Mc l yX11_set wsX11_set (rmU 0 0) E [vR q, vI s, vI z] w 0 0 (fun v w' => v = some (vI (q_set a s z)) ∧ MS E (n_set a s z) (tx) (s3) (s4) (pn) q w') := by
  obtain ⟨Q, f0, f1, f2, f3, px, py, pb, rg, wr, rn, wn, s2, rr, ww, rfl, rfl⟩ := hM
  refine Mc.post (Mc.room (rm2 := rmU 0 0) (M_set l E Q pn f0 f1 f2 f3 px py pb rg wr rn wn a s2 s3 s4 tx rr ww B s z hS.1 hB b_s b_z) (Nat.le_of_ble_eq_true rfl) (Nat.le_of_ble_eq_true rfl) rfl rfl) ?_
  rintro v w' ⟨rfl, rfl⟩
  exact ⟨rfl, Q, _, _, _, _, _, _, _, _, _, _, _, _, _, _, rfl, rfl⟩
set_option maxHeartbeats 1000000 in
theorem RB_zone {l : Launch} {E : Ev} {a tx s3 s4 : Int → Int} {pn B : Int} {q : Nat} {w : va_W} (hM : MS E a tx s3 s4 pn q w) (hS : ST a tx s3 s4 pn B) (hB : B ≤ 2900000) {z d u : Int} (b_z : bi z) (b_d : bi d) (b_u : bi u) : Mc l yX11_zone wsX11_zone (rmU 0 0) E [vR q, vI z, vI d, vI u] w 0 0 (fun v w' => v = some (vI (q_zone a z d u)) ∧ MS E (n_zone a z d u) (tx) (s3) (s4) (pn) q w') := by
  obtain ⟨Q, f0, f1, f2, f3, px, py, pb, rg, wr, rn, wn, s2, rr, ww, rfl, rfl⟩ := hM
  refine Mc.post (Mc.room (rm2 := rmU 0 0) (M_zone l E Q pn f0 f1 f2 f3 px py pb rg wr rn wn a s2 s3 s4 tx rr ww B z d u hS.1 hB b_z b_d b_u) (Nat.le_of_ble_eq_true rfl) (Nat.le_of_ble_eq_true rfl) rfl rfl) ?_
  rintro v w' ⟨rfl, rfl⟩
  exact ⟨rfl, Q, _, _, _, _, _, _, _, _, _, _, _, _, _, _, rfl, rfl⟩
set_option maxHeartbeats 1000000 in
theorem RB_apply {l : Launch} {E : Ev} {a tx s3 s4 : Int → Int} {pn B : Int} {q : Nat} {w : va_W} (hM : MS E a tx s3 s4 pn q w) (hS : ST a tx s3 s4 pn B) (hB : B ≤ 2900000) {va vb ia ib : Int} (b_va : bi va) (b_vb : bi vb) (b_ia : bi ia) (b_ib : bi ib) : Mc l yX11_apply wsX11_apply (rmU 0 0) E [vR q, vI va, vI vb, vI ia, vI ib] w 0 0 (fun v w' => v = some (vI (q_apply a va vb ia ib)) ∧ MS E (n_apply a va vb ia ib) (tx) (s3) (s4) (pn) q w') := by
  obtain ⟨Q, f0, f1, f2, f3, px, py, pb, rg, wr, rn, wn, s2, rr, ww, rfl, rfl⟩ := hM
  refine Mc.post (Mc.room (rm2 := rmU 0 0) (M_apply l E Q pn f0 f1 f2 f3 px py pb rg wr rn wn a s2 s3 s4 tx rr ww B va vb ia ib hS.1 hB b_va b_vb b_ia b_ib) (Nat.le_of_ble_eq_true rfl) (Nat.le_of_ble_eq_true rfl) rfl rfl) ?_
  rintro v w' ⟨rfl, rfl⟩
  exact ⟨rfl, Q, _, _, _, _, _, _, _, _, _, _, _, _, _, _, rfl, rfl⟩
set_option maxHeartbeats 1000000 in
theorem RB_ramp {l : Launch} {E : Ev} {a tx s3 s4 : Int → Int} {pn B : Int} {q : Nat} {w : va_W} (hM : MS E a tx s3 s4 pn q w) (hS : ST a tx s3 s4 pn B) (hB : B ≤ 2900000) {m va vb ia ib : Int} (b_m : bi m) (b_va : bi va) (b_vb : bi vb) (b_ia : bi ia) (b_ib : bi ib) : Mc l yX11_ramp wsX11_ramp (rmU 0 0) E [vR q, vI m, vI va, vI vb, vI ia, vI ib] w 0 0 (fun v w' => v = some (vI (q_ramp a m va vb ia ib)) ∧ MS E (n_ramp a m va vb ia ib) (tx) (s3) (s4) (pn) q w') := by
  obtain ⟨Q, f0, f1, f2, f3, px, py, pb, rg, wr, rn, wn, s2, rr, ww, rfl, rfl⟩ := hM
  refine Mc.post (Mc.room (rm2 := rmU 0 0) (M_ramp l E Q pn f0 f1 f2 f3 px py pb rg wr rn wn a s2 s3 s4 tx rr ww B m va vb ia ib hS.1 hB b_m b_va b_vb b_ia b_ib) (Nat.le_of_ble_eq_true rfl) (Nat.le_of_ble_eq_true rfl) rfl rfl) ?_
  rintro v w' ⟨rfl, rfl⟩
  exact ⟨rfl, Q, _, _, _, _, _, _, _, _, _, _, _, _, _, _, rfl, rfl⟩
set_option maxHeartbeats 1000000 in
theorem RB_net {l : Launch} {E : Ev} {a tx s3 s4 : Int → Int} {pn B : Int} {q : Nat} {w : va_W} (hM : MS E a tx s3 s4 pn q w) (hS : ST a tx s3 s4 pn B) (hB : B ≤ 2900000) {p r x : Int} (b_p : bi p) (b_r : bi r) (b_x : bi x) : Mc l yX11_network wsX11_network (rmU 0 0) E [vR q, vI p, vI r, vI x] w 0 0 (fun v w' => v = some (vI (q_net a p r x)) ∧ MS E (n_net a p r x) (tx) (s3) (s4) (pn) q w') := by
  obtain ⟨Q, f0, f1, f2, f3, px, py, pb, rg, wr, rn, wn, s2, rr, ww, rfl, rfl⟩ := hM
  refine Mc.post (Mc.room (rm2 := rmU 0 0) (M_net l E Q pn f0 f1 f2 f3 px py pb rg wr rn wn a s2 s3 s4 tx rr ww B p r x hS.1 hB b_p b_r b_x) (Nat.le_of_ble_eq_true rfl) (Nat.le_of_ble_eq_true rfl) rfl rfl) ?_
  rintro v w' ⟨rfl, rfl⟩
  exact ⟨rfl, Q, _, _, _, _, _, _, _, _, _, _, _, _, _, _, rfl, rfl⟩
set_option maxHeartbeats 1000000 in
theorem RB_fault {l : Launch} {E : Ev} {a tx s3 s4 : Int → Int} {pn B : Int} {q : Nat} {w : va_W} (hM : MS E a tx s3 s4 pn q w) (hS : ST a tx s3 s4 pn B) (hB : B ≤ 2900000) {p r : Int} (b_p : bi p) (b_r : bi r) : Mc l yX11_fault wsX11_fault (rmU 0 0) E [vR q, vI p, vI r] w 0 0 (fun v w' => v = some (vI (q_fault a p r)) ∧ MS E (n_fault a p r) (tx) (s3) (s4) (pn) q w') := by
  obtain ⟨Q, f0, f1, f2, f3, px, py, pb, rg, wr, rn, wn, s2, rr, ww, rfl, rfl⟩ := hM
  refine Mc.post (Mc.room (rm2 := rmU 0 0) (M_fault l E Q pn f0 f1 f2 f3 px py pb rg wr rn wn a s2 s3 s4 tx rr ww B p r hS.1 hB b_p b_r) (Nat.le_of_ble_eq_true rfl) (Nat.le_of_ble_eq_true rfl) rfl rfl) ?_
  rintro v w' ⟨g0, g1, g2, g3, rfl, rfl⟩
  exact ⟨rfl, Q, _, _, _, _, _, _, _, _, _, _, _, _, _, _, rfl, rfl⟩
set_option maxHeartbeats 1000000 in
theorem RB_heal {l : Launch} {E : Ev} {a tx s3 s4 : Int → Int} {pn B : Int} {q : Nat} {w : va_W} (hM : MS E a tx s3 s4 pn q w) (hS : ST a tx s3 s4 pn B) (hB : B ≤ 2900000)  : Mc l yX11_healthy wsX11_healthy (rmU 0 0) E [vR q] w 0 0 (fun v w' => v = some (vI (q_heal a)) ∧ MS E (n_heal a) (tx) (s3) (s4) (pn) q w') := by
  obtain ⟨Q, f0, f1, f2, f3, px, py, pb, rg, wr, rn, wn, s2, rr, ww, rfl, rfl⟩ := hM
  refine Mc.post (Mc.room (rm2 := rmU 0 0) (M_heal l E Q pn f0 f1 f2 f3 px py pb rg wr rn wn a s2 s3 s4 tx rr ww B hS.1 hB) (Nat.le_of_ble_eq_true rfl) (Nat.le_of_ble_eq_true rfl) rfl rfl) ?_
  rintro v w' ⟨g0, g1, g2, g3, rfl, rfl⟩
  exact ⟨rfl, Q, _, _, _, _, _, _, _, _, _, _, _, _, _, _, rfl, rfl⟩
set_option maxHeartbeats 1000000 in
theorem RB_phasor {l : Launch} {E : Ev} {a tx s3 s4 : Int → Int} {pn B : Int} {q : Nat} {w : va_W} (hM : MS E a tx s3 s4 pn q w) (hS : ST a tx s3 s4 pn B) (hB : B ≤ 2900000) {u : Int} (b_u : bi u) : Mc l yX11_phasor wsX11_phasor (rmU 0 0) E [vR q, vI u] w 0 0 (fun v w' => v = some (vL (q_phasor a u)) ∧ MS E (a) (tx) (s3) (s4) (pn) q w') := by
  obtain ⟨Q, f0, f1, f2, f3, px, py, pb, rg, wr, rn, wn, s2, rr, ww, rfl, rfl⟩ := hM
  refine Mc.post (Mc.room (rm2 := rmU 0 0) (M_phasor l E Q pn f0 f1 f2 f3 px py pb rg wr rn wn a s2 s3 s4 tx rr ww B u hS.1 hB b_u) (Nat.le_of_ble_eq_true rfl) (Nat.le_of_ble_eq_true rfl) rfl rfl) ?_
  rintro v w' ⟨rfl, rfl⟩
  exact ⟨rfl, Q, _, _, _, _, _, _, _, _, _, _, _, _, _, _, rfl, rfl⟩
set_option maxHeartbeats 1000000 in
theorem RB_pass {l : Launch} {E : Ev} {a tx s3 s4 : Int → Int} {pn B : Int} {q : Nat} {w : va_W} (hM : MS E a tx s3 s4 pn q w) (hS : ST a tx s3 s4 pn B) (hB : B ≤ 2900000) {m : Int} (b_m : bi m) : Mc l yX11_pass wsX11_pass (rmU 0 0) E [vR q, vI m] w 0 0 (fun v w' => v = some (vI (q_pass a m)) ∧ MS E (n_pass a m) (tx) (s3) (s4) (pn) q w') := by
  obtain ⟨Q, f0, f1, f2, f3, px, py, pb, rg, wr, rn, wn, s2, rr, ww, rfl, rfl⟩ := hM
  refine Mc.post (Mc.room (rm2 := rmU 0 0) (M_pass l E Q pn f0 f1 f2 f3 px py pb rg wr rn wn a s2 s3 s4 tx rr ww B m hS.1 hB b_m) (Nat.le_of_ble_eq_true rfl) (Nat.le_of_ble_eq_true rfl) rfl rfl) ?_
  rintro v w' ⟨g0, g1, g2, rfl, rfl⟩
  exact ⟨rfl, Q, _, _, _, _, _, _, _, _, _, _, _, _, _, _, rfl, rfl⟩
set_option maxHeartbeats 1000000 in
theorem RB_measure {l : Launch} {E : Ev} {a tx s3 s4 : Int → Int} {pn B : Int} {q : Nat} {w : va_W} (hM : MS E a tx s3 s4 pn q w) (hS : ST a tx s3 s4 pn B) (hB : B ≤ 2900000) {u : Int} (b_u : bi u) : Mc l yX11_measure wsX11_measure (rmU 0 0) E [vR q, vI u] w 0 0 (fun v w' => v = some (vL (q_measure a u)) ∧ MS E (a) (tx) (s3) (s4) (pn) q w') := by
  obtain ⟨Q, f0, f1, f2, f3, px, py, pb, rg, wr, rn, wn, s2, rr, ww, rfl, rfl⟩ := hM
  refine Mc.post (Mc.room (rm2 := rmU 0 0) (M_measure l E Q pn f0 f1 f2 f3 px py pb rg wr rn wn a s2 s3 s4 tx rr ww B u hS.1 hB b_u) (Nat.le_of_ble_eq_true rfl) (Nat.le_of_ble_eq_true rfl) rfl rfl) ?_
  rintro v w' ⟨rfl, rfl⟩
  exact ⟨rfl, Q, _, _, _, _, _, _, _, _, _, _, _, _, _, _, rfl, rfl⟩
set_option maxHeartbeats 1000000 in
theorem RB_state {l : Launch} {E : Ev} {a tx s3 s4 : Int → Int} {pn B : Int} {q : Nat} {w : va_W} (hM : MS E a tx s3 s4 pn q w) (hS : ST a tx s3 s4 pn B) (hB : B ≤ 2900000) {z u : Int} (b_z : bi z) (b_u : bi u) : Mc l yX11_state wsX11_state (rmU 0 0) E [vR q, vI z, vI u] w 0 0 (fun v w' => v = some (vI (q_state a z u)) ∧ MS E (a) (tx) (s3) (s4) (pn) q w') := by
  obtain ⟨Q, f0, f1, f2, f3, px, py, pb, rg, wr, rn, wn, s2, rr, ww, rfl, rfl⟩ := hM
  refine Mc.post (Mc.room (rm2 := rmU 0 0) (M_state l E Q pn f0 f1 f2 f3 px py pb rg wr rn wn a s2 s3 s4 tx rr ww B z u hS.1 hB b_z b_u) (Nat.le_of_ble_eq_true rfl) (Nat.le_of_ble_eq_true rfl) rfl rfl) ?_
  rintro v w' ⟨rfl, rfl⟩
  exact ⟨rfl, Q, _, _, _, _, _, _, _, _, _, _, _, _, _, _, rfl, rfl⟩
set_option maxHeartbeats 1000000 in
theorem RB_tripped {l : Launch} {E : Ev} {a tx s3 s4 : Int → Int} {pn B : Int} {q : Nat} {w : va_W} (hM : MS E a tx s3 s4 pn q w) (hS : ST a tx s3 s4 pn B) (hB : B ≤ 2900000)  : Mc l yX11_tripped wsX11_tripped (rmU 0 0) E [vR q] w 0 0 (fun v w' => v = some (vI (a 97)) ∧ MS E (a) (tx) (s3) (s4) (pn) q w') := by
  obtain ⟨Q, f0, f1, f2, f3, px, py, pb, rg, wr, rn, wn, s2, rr, ww, rfl, rfl⟩ := hM
  refine Mc.post (Mc.room (rm2 := rmU 0 0) (M_tripped l E Q pn f0 f1 f2 f3 px py pb rg wr rn wn a s2 s3 s4 tx rr ww B hS.1 hB) (Nat.le_of_ble_eq_true rfl) (Nat.le_of_ble_eq_true rfl) rfl rfl) ?_
  rintro v w' ⟨rfl, rfl⟩
  exact ⟨rfl, Q, _, _, _, _, _, _, _, _, _, _, _, _, _, _, rfl, rfl⟩
set_option maxHeartbeats 1000000 in
theorem RB_reset {l : Launch} {E : Ev} {a tx s3 s4 : Int → Int} {pn B : Int} {q : Nat} {w : va_W} (hM : MS E a tx s3 s4 pn q w) (hS : ST a tx s3 s4 pn B) (hB : B ≤ 2900000)  : Mc l yX11_reset wsX11_reset (rmU 0 0) E [vR q] w 0 0 (fun v w' => v = some (vI (a 97)) ∧ MS E (s_rst a) (tx) (s3) (s4) (pn) q w') := by
  obtain ⟨Q, f0, f1, f2, f3, px, py, pb, rg, wr, rn, wn, s2, rr, ww, rfl, rfl⟩ := hM
  refine Mc.post (Mc.room (rm2 := rmU 0 0) (M_reset l E Q pn f0 f1 f2 f3 px py pb rg wr rn wn a s2 s3 s4 tx rr ww B hS.1 hB) (Nat.le_of_ble_eq_true rfl) (Nat.le_of_ble_eq_true rfl) rfl rfl) ?_
  rintro v w' ⟨rfl, rfl⟩
  exact ⟨rfl, Q, _, _, _, _, _, _, _, _, _, _, _, _, _, _, rfl, rfl⟩
set_option maxHeartbeats 1000000 in
theorem RB_event {l : Launch} {E : Ev} {a tx s3 s4 : Int → Int} {pn B : Int} {q : Nat} {w : va_W} (hM : MS E a tx s3 s4 pn q w) (hS : ST a tx s3 s4 pn B) (hB : B ≤ 2900000) {e u : Int} (b_e : bi e) (b_u : bi u) : Mc l yX11_event wsX11_event (rmU 0 0) E [vR q, vI e, vI u] w 0 0 (fun v w' => v = some (vI (q_event a e u)) ∧ MS E (a) (tx) (s3) (s4) (pn) q w') := by
  obtain ⟨Q, f0, f1, f2, f3, px, py, pb, rg, wr, rn, wn, s2, rr, ww, rfl, rfl⟩ := hM
  refine Mc.post (Mc.room (rm2 := rmU 0 0) (M_event l E Q pn f0 f1 f2 f3 px py pb rg wr rn wn a s2 s3 s4 tx rr ww B e u hS.1 hB b_e b_u) (Nat.le_of_ble_eq_true rfl) (Nat.le_of_ble_eq_true rfl) rfl rfl) ?_
  rintro v w' ⟨rfl, rfl⟩
  exact ⟨rfl, Q, _, _, _, _, _, _, _, _, _, _, _, _, _, _, rfl, rfl⟩
set_option maxHeartbeats 1000000 in
theorem RB_covers {l : Launch} {E : Ev} {a tx s3 s4 : Int → Int} {pn B : Int} {q : Nat} {w : va_W} (hM : MS E a tx s3 s4 pn q w) (hS : ST a tx s3 s4 pn B) (hB : B ≤ 2900000) {p r : Int} (b_p : bi p) (b_r : bi r) : Mc l yX11_covers wsX11_covers (rmU 0 0) E [vR q, vI p, vI r] w 0 0 (fun v w' => v = some (vI (q_covers a p r)) ∧ MS E (a) (tx) (s3) (s4) (pn) q w') := by
  obtain ⟨Q, f0, f1, f2, f3, px, py, pb, rg, wr, rn, wn, s2, rr, ww, rfl, rfl⟩ := hM
  refine Mc.post (Mc.room (rm2 := rmU 0 0) (M_covers l E Q pn f0 f1 f2 f3 px py pb rg wr rn wn a s2 s3 s4 tx rr ww B p r hS.1 hB b_p b_r) (Nat.le_of_ble_eq_true rfl) (Nat.le_of_ble_eq_true rfl) rfl rfl) ?_
  rintro v w' ⟨g0, g1, g2, g3, g4, g5, g6, rfl, rfl⟩
  exact ⟨rfl, Q, _, _, _, _, _, _, _, _, _, _, _, _, _, _, rfl, rfl⟩
set_option maxHeartbeats 1000000 in
theorem RB_reach {l : Launch} {E : Ev} {a tx s3 s4 : Int → Int} {pn B : Int} {q : Nat} {w : va_W} (hM : MS E a tx s3 s4 pn q w) (hS : ST a tx s3 s4 pn B) (hB : B ≤ 2900000) {z r : Int} (b_z : bi z) (b_r : bi r) : Mc l yX11_reach wsX11_reach (rmU 0 0) E [vR q, vI z, vI r] w 0 0 (fun v w' => v = some (vI (q_reach a z r)) ∧ MS E (a) (tx) (s3) (s4) (pn) q w') := by
  obtain ⟨Q, f0, f1, f2, f3, px, py, pb, rg, wr, rn, wn, s2, rr, ww, rfl, rfl⟩ := hM
  refine Mc.post (Mc.room (rm2 := rmU 0 0) (M_reach l E Q pn f0 f1 f2 f3 px py pb rg wr rn wn a s2 s3 s4 tx rr ww B z r hS.1 hB b_z b_r) (Nat.le_of_ble_eq_true rfl) (Nat.le_of_ble_eq_true rfl) rfl rfl) ?_
  rintro v w' ⟨g0, g1, g2, g3, g4, g5, g6, rfl, rfl⟩
  exact ⟨rfl, Q, _, _, _, _, _, _, _, _, _, _, _, _, _, _, rfl, rfl⟩
set_option maxHeartbeats 1000000 in
theorem RB_test {l : Launch} {E : Ev} {a tx s3 s4 : Int → Int} {pn B : Int} {q : Nat} {w : va_W} (hM : MS E a tx s3 s4 pn q w) (hS : ST a tx s3 s4 pn B) (hB : B ≤ 2900000) {p r m u : Int} (b_p : bi p) (b_r : bi r) (b_m : bi m) (b_u : bi u) : Mc l yX11_test wsX11_test (rmU 0 0) E [vR q, vI p, vI r, vI m, vI u] w 0 0 (fun v w' => v = some (vI (q_test a p r m u)) ∧ MS E (a) (tx) (s3) (s4) (pn) q w') := by
  obtain ⟨Q, f0, f1, f2, f3, px, py, pb, rg, wr, rn, wn, s2, rr, ww, rfl, rfl⟩ := hM
  refine Mc.post (Mc.room (rm2 := rmU 0 0) (M_test l E Q pn f0 f1 f2 f3 px py pb rg wr rn wn a s2 s3 s4 tx rr ww B p r m u hS.1 hB b_p b_r b_m b_u) (Nat.le_of_ble_eq_true rfl) (Nat.le_of_ble_eq_true rfl) rfl rfl) ?_
  rintro v w' ⟨g0, g1, g2, g3, g4, g5, g6, g7, rfl, rfl⟩
  exact ⟨rfl, Q, _, _, _, _, _, _, _, _, _, _, _, _, _, _, rfl, rfl⟩
set_option maxHeartbeats 1000000 in
theorem RB_fore {l : Launch} {E : Ev} {a tx s3 s4 : Int → Int} {pn B : Int} {q : Nat} {w : va_W} (hM : MS E a tx s3 s4 pn q w) (hS : ST a tx s3 s4 pn B) (hB : B ≤ 2900000) {m : Int} (b_m : bi m) : Mc l yX11_forecast wsX11_forecast (rmU 0 0) E [vR q, vI m] w 0 0 (fun v w' => v = some (vI (q_fore a m)) ∧ MS E (a) (tx) (s3) (s4) (pn) q w') := by
  obtain ⟨Q, f0, f1, f2, f3, px, py, pb, rg, wr, rn, wn, s2, rr, ww, rfl, rfl⟩ := hM
  refine Mc.post (Mc.room (rm2 := rmU 0 0) (M_fore l E Q pn f0 f1 f2 f3 px py pb rg wr rn wn a s2 s3 s4 tx rr ww B m hS.1 hB b_m) (Nat.le_of_ble_eq_true rfl) (Nat.le_of_ble_eq_true rfl) rfl rfl) ?_
  rintro v w' ⟨g0, g1, g2, g3, rfl, rfl⟩
  exact ⟨rfl, Q, _, _, _, _, _, _, _, _, _, _, _, _, _, _, rfl, rfl⟩
set_option maxHeartbeats 1000000 in
theorem RB_say {l : Launch} {E : Ev} {a tx s3 s4 : Int → Int} {pn B : Int} {q : Nat} {w : va_W} (hM : MS E a tx s3 s4 pn q w) (hS : ST a tx s3 s4 pn B) (hB : B ≤ 2900000) {c : Int} (b_c : bi c) : Mc l yX11_say wsX11_say (rmU 0 0) E [vR q, vI c] w 0 0 (fun v w' => v = some (vI (q_say pn c)) ∧ MS E (a) (n_sayT tx pn c) (s3) (s4) (n_sayN pn c) q w') := by
  obtain ⟨Q, f0, f1, f2, f3, px, py, pb, rg, wr, rn, wn, s2, rr, ww, rfl, rfl⟩ := hM
  refine Mc.post (Mc.room (rm2 := rmU 0 0) (M_say l E Q pn f0 f1 f2 f3 px py pb rg wr rn wn a s2 s3 s4 tx rr ww B c hS.1 hB b_c hS.2.2.1) (Nat.le_of_ble_eq_true rfl) (Nat.le_of_ble_eq_true rfl) rfl rfl) ?_
  rintro v w' ⟨rfl, rfl⟩
  exact ⟨rfl, Q, _, _, _, _, _, _, _, _, _, _, _, _, _, _, rfl, rfl⟩
set_option maxHeartbeats 1000000 in
theorem RB_wipe {l : Launch} {E : Ev} {a tx s3 s4 : Int → Int} {pn B : Int} {q : Nat} {w : va_W} (hM : MS E a tx s3 s4 pn q w) (hS : ST a tx s3 s4 pn B) (hB : B ≤ 2900000)  : Mc l yX11_wipe wsX11_wipe (rmU 0 0) E [vR q] w 0 0 (fun v w' => v = some (vI (pn)) ∧ MS E (a) (tx) (s3) (s4) (0) q w') := by
  obtain ⟨Q, f0, f1, f2, f3, px, py, pb, rg, wr, rn, wn, s2, rr, ww, rfl, rfl⟩ := hM
  refine Mc.post (Mc.room (rm2 := rmU 0 0) (M_wipe l E Q pn f0 f1 f2 f3 px py pb rg wr rn wn a s2 s3 s4 tx rr ww B hS.1 hB) (Nat.le_of_ble_eq_true rfl) (Nat.le_of_ble_eq_true rfl) rfl rfl) ?_
  rintro v w' ⟨rfl, rfl⟩
  exact ⟨rfl, Q, _, _, _, _, _, _, _, _, _, _, _, _, _, _, rfl, rfl⟩
set_option maxHeartbeats 1000000 in
theorem RB_count {l : Launch} {E : Ev} {a tx s3 s4 : Int → Int} {pn B : Int} {q : Nat} {w : va_W} (hM : MS E a tx s3 s4 pn q w) (hS : ST a tx s3 s4 pn B) (hB : B ≤ 2900000) {u : Int} (b_u : bi u) : Mc l yX11_count wsX11_count (rmU 0 0) E [vR q, vI u] w 0 0 (fun v w' => v = some (vI (q_count a pn u)) ∧ MS E (a) (tx) (s3) (s4) (pn) q w') := by
  obtain ⟨Q, f0, f1, f2, f3, px, py, pb, rg, wr, rn, wn, s2, rr, ww, rfl, rfl⟩ := hM
  refine Mc.post (Mc.room (rm2 := rmU 0 0) (M_count l E Q pn f0 f1 f2 f3 px py pb rg wr rn wn a s2 s3 s4 tx rr ww B u hS.1 hB b_u) (Nat.le_of_ble_eq_true rfl) (Nat.le_of_ble_eq_true rfl) rfl rfl) ?_
  rintro v w' ⟨rfl, rfl⟩
  exact ⟨rfl, Q, _, _, _, _, _, _, _, _, _, _, _, _, _, _, rfl, rfl⟩
set_option maxHeartbeats 1000000 in
theorem RB_flaw {l : Launch} {E : Ev} {a tx s3 s4 : Int → Int} {pn B : Int} {q : Nat} {w : va_W} (hM : MS E a tx s3 s4 pn q w) (hS : ST a tx s3 s4 pn B) (hB : B ≤ 2900000)  : Mc l yX11_flaw wsX11_flaw (rmU 0 0) E [vR q] w 0 0 (fun v w' => v = some (vI (q_flaw tx pn)) ∧ MS E (a) (tx) (s3) (s4) (pn) q w') := by
  obtain ⟨Q, f0, f1, f2, f3, px, py, pb, rg, wr, rn, wn, s2, rr, ww, rfl, rfl⟩ := hM
  refine Mc.post (Mc.room (rm2 := rmU 0 0) (M_flaw l E Q pn f0 f1 f2 f3 px py pb rg wr rn wn a s2 s3 s4 tx rr ww B hS.1 hB hS.2.1 hS.2.2.1) (Nat.le_of_ble_eq_true rfl) (Nat.le_of_ble_eq_true rfl) rfl rfl) ?_
  rintro v w' ⟨g0, g1, g2, g3, rfl, rfl, j0, j1, j2⟩
  exact ⟨rfl, Q, _, _, _, _, _, _, _, _, _, _, _, _, _, _, rfl, rfl⟩
set_option maxHeartbeats 1000000 in
theorem RB_load {l : Launch} {E : Ev} {a tx s3 s4 : Int → Int} {pn B : Int} {q : Nat} {w : va_W} (hM : MS E a tx s3 s4 pn q w) (hS : ST a tx s3 s4 pn B) (hB : B ≤ 2900000) {p : Int} (b_p : bi p) : Mc l yX11_load wsX11_load (rmU 0 0) E [vR q, vI p] w 0 0 (fun v w' => v = some (vI (q_load tx pn p)) ∧ MS E (n_load a tx pn p) (tx) (s3) (s4) (n_lodN tx pn p) q w') := by
  obtain ⟨Q, f0, f1, f2, f3, px, py, pb, rg, wr, rn, wn, s2, rr, ww, rfl, rfl⟩ := hM
  refine Mc.post (Mc.room (rm2 := rmU 0 0) (M_load l E Q pn f0 f1 f2 f3 px py pb rg wr rn wn a s2 s3 s4 tx rr ww B p hS.1 hB b_p hS.2.1 hS.2.2.1) (Nat.le_of_ble_eq_true rfl) (Nat.le_of_ble_eq_true rfl) rfl rfl) ?_
  rintro v w' ⟨g0, g1, g2, g3, rfl, rfl⟩
  exact ⟨rfl, Q, _, _, _, _, _, _, _, _, _, _, _, _, _, _, rfl, rfl⟩
set_option maxHeartbeats 1000000 in
theorem RB_spell {l : Launch} {E : Ev} {a tx s3 s4 : Int → Int} {pn B : Int} {q : Nat} {w : va_W} (hM : MS E a tx s3 s4 pn q w) (hS : ST a tx s3 s4 pn B) (hB : B ≤ 2900000) {p r : Int} (b_p : bi p) (b_r : bi r) : Mc l yX11_spell wsX11_spell (rmU 0 0) E [vR q, vI p, vI r] w 0 0 (fun v w' => v = some (vI (q_spell a p r)) ∧ MS E (a) (tx) (s3) (s4) (pn) q w') := by
  obtain ⟨Q, f0, f1, f2, f3, px, py, pb, rg, wr, rn, wn, s2, rr, ww, rfl, rfl⟩ := hM
  refine Mc.post (Mc.room (rm2 := rmU 0 0) (M_spell l E Q pn f0 f1 f2 f3 px py pb rg wr rn wn a s2 s3 s4 tx rr ww B p r hS.1 hB b_p b_r) (Nat.le_of_ble_eq_true rfl) (Nat.le_of_ble_eq_true rfl) rfl rfl) ?_
  rintro v w' ⟨g0, g1, rfl, rfl⟩
  exact ⟨rfl, Q, _, _, _, _, _, _, _, _, _, _, _, _, _, _, rfl, rfl⟩
set_option maxHeartbeats 1000000 in
theorem RB_save {l : Launch} {E : Ev} {a tx s3 s4 : Int → Int} {pn B : Int} {q : Nat} {w : va_W} (hM : MS E a tx s3 s4 pn q w) (hS : ST a tx s3 s4 pn B) (hB : B ≤ 2900000) {s : Int} (b_s : bi s) : Mc l yX11_save wsX11_save (rmU 0 0) E [vR q, vI s] w 0 0 (fun v w' => v = some (vI (q_save a s)) ∧ MS E (a) (tx) (n_saveS a s3 s) (n_saveF s4 s) (pn) q w') := by
  obtain ⟨Q, f0, f1, f2, f3, px, py, pb, rg, wr, rn, wn, s2, rr, ww, rfl, rfl⟩ := hM
  refine Mc.post (Mc.room (rm2 := rmU 0 0) (M_save l E Q pn f0 f1 f2 f3 px py pb rg wr rn wn a s2 s3 s4 tx rr ww B s hS.1 hB b_s) (Nat.le_of_ble_eq_true rfl) (Nat.le_of_ble_eq_true rfl) rfl rfl) ?_
  rintro v w' ⟨rfl, rfl⟩
  exact ⟨rfl, Q, _, _, _, _, _, _, _, _, _, _, _, _, _, _, rfl, rfl⟩
set_option maxHeartbeats 1000000 in
theorem RB_rest {l : Launch} {E : Ev} {a tx s3 s4 : Int → Int} {pn B : Int} {q : Nat} {w : va_W} (hM : MS E a tx s3 s4 pn q w) (hS : ST a tx s3 s4 pn B) (hB : B ≤ 2900000) {s : Int} (b_s : bi s) : Mc l yX11_restore wsX11_restore (rmU 0 0) E [vR q, vI s] w 0 0 (fun v w' => v = some (vI (q_rest s3 s4 s)) ∧ MS E (n_rest a s3 s4 s) (tx) (s3) (s4) (pn) q w') := by
  obtain ⟨Q, f0, f1, f2, f3, px, py, pb, rg, wr, rn, wn, s2, rr, ww, rfl, rfl⟩ := hM
  refine Mc.post (Mc.room (rm2 := rmU 0 0) (M_rest l E Q pn f0 f1 f2 f3 px py pb rg wr rn wn a s2 s3 s4 tx rr ww B s hS.1 hB b_s (fun k h0 h1 => by rcases (show k = 0 ∨ k = 1 by omega) with rfl | rfl; exact hS.2.2.2.1; exact hS.2.2.2.2.1)) (Nat.le_of_ble_eq_true rfl) (Nat.le_of_ble_eq_true rfl) rfl rfl) ?_
  rintro v w' ⟨rfl, rfl⟩
  exact ⟨rfl, Q, _, _, _, _, _, _, _, _, _, _, _, _, _, _, rfl, rfl⟩
