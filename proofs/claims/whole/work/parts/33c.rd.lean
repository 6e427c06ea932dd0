/-! the reference's descent against the reading letter by letter -/
def ns (t : Int → Int) (n r : Int) : Int := if r < n then t r else 0
abbrev stp9 (c d v : Int) : Prop := ¬ rD c d v
def RN (t : Int → Int) (n r m w : Int) (X Y : Int → Int) (r2 w2 x : Int) : Prop :=
  (w2 = 0 ∧ ∃ g d v : Int, fw t (n - r).toNat r m w 0 0 0 X Y = fw t (n - r2).toNat r2 m w g d v X Y ∧ (0 < d) ∧ (g = 0 ∨ g = 1) ∧ (0 ≤ v ∧ v ≤ 20000) ∧ num g v = x ∧ (r2 < n → ¬ rD (t r2) d v)) ∨
  (w2 = 1 ∧ fw t (n - r).toNat r m w 0 0 0 X Y = (r2, m, X, Y))
/-- on the way through a number -/
def RW (t : Int → Int) (n r m w : Int) (X Y : Int → Int) (r2 g v : Int) : Prop := ∃ d : Int, fw t (n - r).toNat r m w 0 0 0 X Y = fw t (n - r2).toNat r2 m w g d v X Y ∧ 0 < d
theorem fw_45 {t : Int → Int} {n r m w : Int} {X Y : Int → Int} (hr : 0 ≤ r ∧ r ≤ n) (h : ns t n r = 45) : r < n ∧ fw t (n - r).toNat r m w 0 0 0 X Y = fw t (n - (r + 1)).toNat (r + 1) m w 1 0 0 X Y := by
  have hlt : r < n := by unfold ns at h; split at h; assumption; exact absurd h (by decide)
  have e : t r = 45 := by unfold ns at h; rw [if_pos hlt] at h; exact h
  refine ⟨hlt, ?_⟩
  rw [fw_s (f' := (n - (r + 1)).toNat) (by omega) (Or.inl ⟨e, rfl, by decide⟩), e]; rfl
theorem fw_dig {t : Int → Int} {n r m w g d v : Int} {X Y : Int → Int} (hr : 0 ≤ r ∧ r < n) (h : rD (t r) d v) : fw t (n - r).toNat r m w g d v X Y = fw t (n - (r + 1)).toNat (r + 1) m w g (d + 1) (v * 10 + (t r - 48)) X Y := by
  have e5 : ¬ t r = 45 := by have := h.1; omega
  have e4 : ¬ t r = 44 := by have := h.1; omega
  have e7 : ¬ t r = 47 := by have := h.1; omega
  rw [fw_s (f' := (n - (r + 1)).toNat) (by omega) (Or.inr (Or.inr (Or.inr ⟨⟨e5, e4, e7⟩, h⟩)))]
  unfold r_m r_w r_g r_d r_v r_X r_Y
  rw [if_neg e7, if_neg e5, if_neg e4, if_neg e7, if_neg e5, if_neg e4, if_neg e7, if_neg e5, if_neg e4, if_neg e7, if_neg e5, if_neg e4, if_neg e7, if_neg e4, if_neg e7]
theorem fw_nd {t : Int → Int} {n r m w g : Int} {X Y : Int → Int} (hr : 0 ≤ r ∧ r ≤ n) (hg : g = 1 ∨ ¬ ns t n r = 45) (h : ¬ (0 ≤ ns t n r - 48 ∧ ns t n r - 48 ≤ 9)) : fw t (n - r).toNat r m w g 0 0 X Y = (r, m, X, Y) := by
  by_cases hlt : r < n
  · have e : ns t n r = t r := by unfold ns; rw [if_pos hlt]
    rw [e] at hg h
    refine fw_n (by omega) (fun q => ?_)
    rcases q with q | q | q | q
    · rcases hg with hg | hg
      · have := q.2.1; omega
      · exact hg q.1
    · exact q.2.2.1 rfl
    · exact q.2.2.1 rfl
    · exact h (by have := q.2.1; omega)
  · exact (fw_0 (by omega) (Or.inr rfl)).trans (by rw [show r = r from rfl])
theorem RN_f0 {t : Int → Int} {n r m w : Int} {X Y : Int → Int} (hr : 0 ≤ r ∧ r ≤ n) (h5 : ¬ ns t n r = 45) (h : ¬ (0 ≤ ns t n r - 48 ∧ ns t n r - 48 ≤ 9)) : RN t n r m w X Y r 1 0 := Or.inr ⟨rfl, fw_nd hr (Or.inr h5) h⟩
theorem RN_f1 {t : Int → Int} {n r m w : Int} {X Y : Int → Int} (hr : 0 ≤ r ∧ r ≤ n) (h5 : ns t n r = 45) (h : ¬ (0 ≤ ns t n (r + 1) - 48 ∧ ns t n (r + 1) - 48 ≤ 9)) : RN t n r m w X Y (r + 1) 1 0 := by
  have f := fw_45 (m := m) (w := w) (X := X) (Y := Y) hr h5
  exact Or.inr ⟨rfl, f.2.trans (fw_nd ⟨by omega, by omega⟩ (Or.inl rfl) h)⟩
theorem ns_lt {t : Int → Int} {n r : Int} (h : 0 < ns t n r) : r < n := by unfold ns at h; split at h; assumption; omega
theorem ns_t {t : Int → Int} {n r : Int} (h : r < n) : ns t n r = t r := by unfold ns; rw [if_pos h]
theorem RW_0 {t : Int → Int} {n r m w : Int} {X Y : Int → Int} (hr : 0 ≤ r ∧ r ≤ n) (h : 0 ≤ ns t n r - 48 ∧ ns t n r - 48 ≤ 9) : RW t n r m w X Y (r + 1) 0 (ns t n r - 48) := by
  have hlt := ns_lt (t := t) (n := n) (r := r) (by omega)
  rw [ns_t hlt] at h ⊢
  refine ⟨1, ?_, by decide⟩
  have e := fw_dig (t := t) (n := n) (r := r) (m := m) (w := w) (g := 0) (d := 0) (v := 0) (X := X) (Y := Y) ⟨hr.1, hlt⟩ ⟨by omega, by omega, by omega⟩
  rw [e]; congr 1; omega
theorem RW_1 {t : Int → Int} {n r m w : Int} {X Y : Int → Int} (hr : 0 ≤ r ∧ r ≤ n) (h5 : ns t n r = 45) (h : 0 ≤ ns t n (r + 1) - 48 ∧ ns t n (r + 1) - 48 ≤ 9) : RW t n r m w X Y (r + 1 + 1) 1 (ns t n (r + 1) - 48) := by
  have f := fw_45 (m := m) (w := w) (X := X) (Y := Y) hr h5
  have hlt := ns_lt (t := t) (n := n) (r := r + 1) (by omega)
  rw [ns_t hlt] at h ⊢
  refine ⟨1, f.2.trans ?_, by decide⟩
  have e := fw_dig (t := t) (n := n) (r := r + 1) (m := m) (w := w) (g := 1) (d := 0) (v := 0) (X := X) (Y := Y) ⟨by omega, hlt⟩ ⟨by omega, by omega, by omega⟩
  rw [e]; congr 1; omega
theorem RW_s {t : Int → Int} {n r m w r2 g v : Int} {X Y : Int → Int} (h0 : 0 ≤ r2) (hv : 0 < v) (h : RW t n r m w X Y r2 g v) (hc : 48 ≤ ns t n r2 ∧ ns t n r2 ≤ 57) (hm : 10 * v + ns t n r2 - 48 ≤ 20000) : RW t n r m w X Y (r2 + 1) g (10 * v + ns t n r2 - 48) := by
  have hlt := ns_lt (t := t) (n := n) (r := r2) (by omega)
  rw [ns_t hlt] at hc hm ⊢
  obtain ⟨d, e, hd⟩ := h
  refine ⟨d + 1, e.trans ?_, by omega⟩
  rw [fw_dig ⟨h0, hlt⟩ ⟨hc, by omega, by omega⟩]; congr 1; omega
theorem RW_e {t : Int → Int} {n r m w r2 g v x : Int} {X Y : Int → Int} (h : RW t n r m w X Y r2 g v) (hg : g = 0 ∨ g = 1) (hv : 0 ≤ v ∧ v ≤ 20000) (hx : num g v = x) (hs : v ≤ 0 ∨ ¬ (48 ≤ ns t n r2 ∧ ns t n r2 ≤ 57) ∨ ¬ 10 * v + ns t n r2 - 48 ≤ 20000) : RN t n r m w X Y r2 0 x := by
  obtain ⟨d, e, hd⟩ := h
  refine Or.inl ⟨rfl, g, d, v, e, hd, hg, hv, hx, fun hlt q => ?_⟩
  rw [ns_t hlt] at hs
  rcases hs with hs | hs | hs
  · exact q.2.1 ⟨hd, by omega⟩
  · exact hs q.1
  · exact hs (by have := q.2.2; omega)
/-- a corner: its two numbers -/
def RC (t : Int → Int) (n r m : Int) (X Y : Int → Int) (r2 w2 x y : Int) : Prop :=
  (w2 = 0 ∧ ∃ g d v : Int, fw t (n - r).toNat r m 0 0 0 0 X Y = fw t (n - r2).toNat r2 m 1 g d v (ua X m x) Y ∧ (0 < d) ∧ (g = 0 ∨ g = 1) ∧ (0 ≤ v ∧ v ≤ 20000) ∧ num g v = y ∧ (r2 < n → ¬ rD (t r2) d v)) ∨
  (w2 = 1 ∧ (fw t (n - r).toNat r m 0 0 0 0 X Y).1 = r2)
theorem RC_w {t : Int → Int} {n r m r2 x y : Int} {X Y : Int → Int} (h : RN t n r m 0 X Y r2 1 x) : RC t n r m X Y r2 1 x y := by
  rcases h with h | h
  · exact absurd h.1 (by decide)
  · exact Or.inr ⟨rfl, by rw [h.2]⟩
theorem RN_0 {t : Int → Int} {n r m w r2 w2 x : Int} {X Y : Int → Int} (h : RN t n r m w X Y r2 w2 x) (hw : w2 = 0) : ∃ g d v : Int, fw t (n - r).toNat r m w 0 0 0 X Y = fw t (n - r2).toNat r2 m w g d v X Y ∧ (0 < d) ∧ (g = 0 ∨ g = 1) ∧ (0 ≤ v ∧ v ≤ 20000) ∧ num g v = x ∧ (r2 < n → ¬ rD (t r2) d v) := by
  rcases h with h | h
  · exact h.2
  · have := h.1; omega
theorem RC_c {t : Int → Int} {n r m r2 w2 x y : Int} {X Y : Int → Int} (hr : 0 ≤ r2 ∧ r2 ≤ n) (h : RN t n r m 0 X Y r2 w2 x) (hw : w2 = 0) (hc : ¬ ns t n r2 = 44) : RC t n r m X Y r2 1 x y := by
  obtain ⟨g, d, v, e, hd, hg, hv, hx, hs⟩ := RN_0 h hw
  refine Or.inr ⟨rfl, ?_⟩
  rw [e]
  by_cases hlt : r2 < n
  · rw [ns_t hlt] at hc
    rw [fw_n (by omega) (fun q => ?_)]
    rcases q with q | q | q | q
    · have := q.2.2; omega
    · exact hc q.1
    · exact q.2.1 rfl
    · exact hs hlt q.2
  · rw [fw_0 (by omega) (Or.inl rfl)]
theorem fw_44 {t : Int → Int} {n r r2 m g d v x : Int} {X Y : Int → Int} (hm : m < 8) (hr : 0 ≤ r2) (hd : 0 < d) (hx : num g v = x) (hc : ns t n r2 = 44) : r2 < n ∧ fw t (n - r2).toNat r2 m 0 g d v X Y = fw t (n - (r2 + 1)).toNat (r2 + 1) m 1 0 0 0 (ua X m x) Y := by
  have hlt := ns_lt (t := t) (n := n) (r := r2) (by omega)
  rw [ns_t hlt] at hc
  refine ⟨hlt, ?_⟩
  rw [fw_s (f' := (n - (r2 + 1)).toNat) (by omega) (Or.inr (Or.inl ⟨hc, rfl, by omega, hm⟩)), hc, ← hx]; rfl
theorem RC_2 {t : Int → Int} {n r m r1 w1 x r2 w2 y : Int} {X Y : Int → Int} (hm : m < 8) (hr : 0 ≤ r1) (h : RN t n r m 0 X Y r1 w1 x) (hw : w1 = 0) (hc : ns t n r1 = 44) (h2 : RN t n (r1 + 1) m 1 (ua X m x) Y r2 w2 y) : RC t n r m X Y r2 w2 x y := by
  obtain ⟨g, d, v, e, hd, hg, hv, hx, hs⟩ := RN_0 h hw
  have f := (fw_44 (n := n) (r := r) (X := X) (Y := Y) hm hr hd hx hc).2
  rcases h2 with ⟨a, g2, d2, v2, e2, r⟩ | ⟨a, e2⟩
  · exact Or.inl ⟨a, g2, d2, v2, e.trans (f.trans e2), r⟩
  · exact Or.inr ⟨a, by rw [e, f, e2]⟩
/-- between corners: M have been read, the last one not yet put away -/
def FL (t : Int → Int) (n r w M : Int) (u : Int → Int) : Prop :=
  (w = 0 ∧ ∃ (g d v : Int) (X Y : Int → Int), rdP t n = fw t (n - r).toNat r (M - 1) 1 g d v X Y ∧ (0 < d) ∧ (g = 0 ∨ g = 1) ∧ (0 ≤ v ∧ v ≤ 20000) ∧ num g v = u (2 * (M - 1) + 1) ∧ (r < n → ¬ rD (t r) d v) ∧ X (M - 1) = u (2 * (M - 1)) ∧ ∀ k : Int, 0 ≤ k → k < M - 1 → X k = u (2 * k) ∧ Y k = u (2 * k + 1)) ∨
  (w = 1 ∧ (rdP t n).1 = r)
theorem FL_1 {t : Int → Int} {n r2 w2 x y : Int} {u : Int → Int} (h : RC t n 0 0 (fun _ => 0) (fun _ => 0) r2 w2 x y) (hx : u 0 = x) (hy : u 1 = y) : FL t n r2 w2 1 u := by
  rcases h with ⟨a, g, d, v, e, h1, h2, h3, h4, h5⟩ | ⟨a, e⟩
  · rw [show n - 0 = n by omega] at e
    refine Or.inl ⟨a, g, d, v, ua (fun _ => 0) 0 x, fun _ => 0, e, h1, h2, h3, h4.trans hy.symm, h5, ?_, fun k h0 h1 => absurd h1 (by omega)⟩
    show ua _ 0 x (1 - 1) = u (2 * (1 - 1)); exact hx.symm
  · exact Or.inr ⟨a, by rw [← e, show n - 0 = n by omega]; rfl⟩
theorem FL_s {t : Int → Int} {n r M r2 w2 x y g d v : Int} {X Y u u2 : Int → Int} (hM : 1 ≤ M ∧ M < 8) (hr : 0 ≤ r) (e : rdP t n = fw t (n - r).toNat r (M - 1) 1 g d v X Y) (hd : 0 < d) (hn : num g v = u (2 * (M - 1) + 1)) (hX : X (M - 1) = u (2 * (M - 1))) (hp : ∀ k : Int, 0 ≤ k → k < M - 1 → X k = u (2 * k) ∧ Y k = u (2 * k + 1)) (hc : ns t n r = 47) (h2 : RC t n (r + 1) M X (ua Y (M - 1) (num g v)) r2 w2 x y) (hx : u2 (2 * M) = x) (hy : u2 (2 * M + 1) = y) (ho : ∀ k : Int, 0 ≤ k → k < 2 * M → u2 k = u k) : FL t n r2 w2 (M + 1) u2 := by
  have hlt := ns_lt (t := t) (n := n) (r := r) (by omega)
  rw [ns_t hlt] at hc
  have f : fw t (n - r).toNat r (M - 1) 1 g d v X Y = fw t (n - (r + 1)).toNat (r + 1) M 0 0 0 0 X (ua Y (M - 1) (num g v)) := by
    rw [fw_s (f' := (n - (r + 1)).toNat) (by omega) (Or.inr (Or.inr (Or.inl ⟨hc, by decide, by omega, by omega⟩))), hc]
    show fw t _ _ (M - 1 + 1) 0 0 0 0 X _ = _
    rw [show M - 1 + 1 = M by omega]; rfl
  rcases h2 with ⟨a, g2, d2, v2, e2, q1, q2, q3, q4, q5⟩ | ⟨a, e2⟩
  · refine Or.inl ⟨a, g2, d2, v2, ua X M x, ua Y (M - 1) (num g v), ?_, q1, q2, q3, ?_, q5, ?_, fun k h0 h1 => ?_⟩
    · rw [e, f, e2, show M + 1 - 1 = M by omega]
    · rw [q4, show 2 * (M + 1 - 1) + 1 = 2 * M + 1 by omega, hy]
    · rw [show M + 1 - 1 = M by omega, ua_eq, hx]
    · rw [ua_ne (by omega), ho _ (by omega) (by omega), ho _ (by omega) (by omega)]
      by_cases q : k = M - 1
      · subst q; rw [ua_eq]; exact ⟨hX, hn⟩
      · rw [ua_ne q]; exact hp k h0 (by omega)
  · exact Or.inr ⟨a, by rw [e, f, e2]⟩
theorem FL_0 {t : Int → Int} {n r M : Int} {u : Int → Int} (h : FL t n r 0 M u) : ∃ (g d v : Int) (X Y : Int → Int), rdP t n = fw t (n - r).toNat r (M - 1) 1 g d v X Y ∧ (0 < d) ∧ (g = 0 ∨ g = 1) ∧ (0 ≤ v ∧ v ≤ 20000) ∧ num g v = u (2 * (M - 1) + 1) ∧ (r < n → ¬ rD (t r) d v) ∧ X (M - 1) = u (2 * (M - 1)) ∧ ∀ k : Int, 0 ≤ k → k < M - 1 → X k = u (2 * k) ∧ Y k = u (2 * k + 1) := by
  rcases h with h | h
  · exact h.2
  · exact absurd h.1 (by decide)
theorem FL_e {t : Int → Int} {n r w M : Int} {u : Int → Int} (hM : 1 ≤ M ∧ M ≤ 8) (hr : 0 ≤ r ∧ r ≤ n) (hw : w = 0 ∨ w = 1) (h : FL t n r w M u) (hc : M = 8 ∨ w = 1 ∨ ¬ ns t n r = 47) :
    (q_flaw t n = if w = 1 ∨ r < n then r else -6) ∧ (q_flaw t n = -6 → (rdP t n).2.1 = M ∧ ∀ k : Int, 0 ≤ k → k < M → (rdP t n).2.2.1 k = u (2 * k) ∧ (rdP t n).2.2.2 k = u (2 * k + 1)) := by
  unfold q_flaw
  rcases h with ⟨a, g, d, v, X, Y, e, hd, hg, hv, hn, hs, hX, hp⟩ | ⟨a, e⟩
  · by_cases hlt : r < n
    · have e2 : rdP t n = (r, M - 1, X, Y) := by
        rw [e]; refine fw_n (by omega) (fun q => ?_)
        rcases q with q | q | q | q
        · have := q.2.2; omega
        · exact absurd q.2.1 (by decide)
        · rcases hc with hc | hc | hc
          · have := q.2.2.2; omega
          · omega
          · rw [ns_t hlt] at hc; exact hc q.1
        · exact hs hlt q.2
      rw [e2, if_pos (Or.inr hlt)]
      exact ⟨rfl, fun h => by exact absurd h (by show ¬ r = -6; omega)⟩
    · have e2 : rdP t n = (-6, M - 1 + 1, X, ua Y (M - 1) (num g v)) := by rw [e]; exact fw_e (by omega) (by omega)
      rw [e2, if_neg (by omega)]
      refine ⟨rfl, fun _ => ⟨by show M - 1 + 1 = M; omega, fun k h0 h1 => ?_⟩⟩
      show X k = _ ∧ ua Y (M - 1) (num g v) k = _
      by_cases q : k = M - 1
      · subst q; rw [ua_eq]; exact ⟨hX, hn⟩
      · rw [ua_ne q]; exact hp k h0 (by omega)
  · rw [e, if_pos (Or.inl a)]
    exact ⟨rfl, fun h => by omega⟩
theorem ns_b {t : Int → Int} {n r : Int} (h : ∀ k : Int, 0 ≤ k → k < n → ch (t k)) (h0 : 0 ≤ r) : 0 ≤ ns t n r ∧ ns t n r < 128 := by
  unfold ns; split
  · exact h r h0 (by assumption)
  · decide
/-- a polygon laid out of what was read -/
theorem lod_s {a : Int → Int} {p i : Int} {X Y : Int → Int} (h : 0 ≤ i) : s_lod a p X Y (Int.toNat (i + 1)) = s_app (s_lod a p X Y (Int.toNat i)) p (X i) (Y i) := by
  rw [show Int.toNat (i + 1) = Int.toNat i + 1 by omega]
  show s_app _ p (X ((Int.toNat i : Nat) : Int)) (Y ((Int.toNat i : Nat) : Int)) = _
  rw [show ((Int.toNat i : Nat) : Int) = i by omega]
theorem lod_n {a : Int → Int} {p : Int} {X Y : Int → Int} : ∀ j : Nat, s_lod a p X Y j (225 + 17 * p) = j
  | 0 => ua_eq
  | j + 1 => by
    show s_app (s_lod a p X Y j) p (X j) (Y j) (225 + 17 * p) = _
    rw [app_n, lod_n j]; omega
theorem lod_i {a : Int → Int} {p i : Int} {X Y : Int → Int} (h : 0 ≤ i) : s_lod a p X Y (Int.toNat i) (225 + 17 * p) = i := by rw [lod_n]; omega
theorem lod_inv {a : Int → Int} {B p : Int} {X Y : Int → Int} (hI : Inv a B) (hp : 0 ≤ p ∧ p ≤ 4) : ∀ j : Nat, j ≤ 8 → (∀ k : Int, 0 ≤ k → k < j → cb (X k) ∧ cb (Y k)) → Inv (s_lod a p X Y j) B
  | 0, _, _ => inv_clr hI hp
  | j + 1, hj, h => by
    have g := lod_inv hI hp j (by omega) (fun k h0 h1 => h k h0 (by omega))
    have e := lod_n (a := a) (p := p) (X := X) (Y := Y) j
    exact inv_app g hp (by rw [e]; omega) (h j (by omega) (by omega)).1 (h j (by omega) (by omega)).2
theorem lod_c {a : Int → Int} {p : Int} {X Y X' Y' : Int → Int} : ∀ j : Nat, (∀ k : Int, 0 ≤ k → k < j → X k = X' k ∧ Y k = Y' k) → s_lod a p X Y j = s_lod a p X' Y' j
  | 0, _ => rfl
  | j + 1, h => by
    show s_app _ p (X j) (Y j) = s_app _ p (X' j) (Y' j)
    rw [lod_c j (fun k h0 h1 => h k h0 (by omega)), (h j (by omega) (by omega)).1, (h j (by omega) (by omega)).2]
/-- what was read is in its range -/
def RF (r : RS) : Prop := (0 ≤ r.2.1 ∧ r.2.1 ≤ 8) ∧ (r.1 = -6 → ∀ k : Int, 0 ≤ k → k < r.2.1 → cb (r.2.2.1 k) ∧ cb (r.2.2.2 k))
theorem fw_RF {t : Int → Int} : ∀ (f : Nat) {i m w g d v : Int} {X Y : Int → Int}, 0 ≤ i → RB m w d v g X Y → RF (fw t f i m w g d v X Y) ∧ ((fw t f i m w g d v X Y).1 = -6 ∨ (i ≤ (fw t f i m w g d v X Y).1 ∧ (fw t f i m w g d v X Y).1 ≤ i + f))
  | 0, i, m, w, g, d, v, X, Y, hi, h => by
    obtain ⟨hm, hw, hg, hd, hv, hp, hx⟩ := h
    rw [fw]; split
    · exact ⟨⟨⟨hm.1, by show m ≤ 8; omega⟩, fun h => by exact absurd h (by show ¬ i = -6; omega)⟩, Or.inr ⟨Int.le_refl _, by show i ≤ i + 0; omega⟩⟩
    · rename_i q
      refine ⟨⟨⟨by show 0 ≤ m + 1; omega, by show m + 1 ≤ 8; omega⟩, fun _ k h0 h1 => ?_⟩, Or.inl rfl⟩
      have h1 : k < m + 1 := h1
      show cb (X k) ∧ cb (ua Y m (num g v) k)
      by_cases e : k = m
      · subst e; rw [ua_eq]; exact ⟨hx (by omega), num_b hv⟩
      · rw [ua_ne e]; exact hp k h0 (by omega)
  | f + 1, i, m, w, g, d, v, X, Y, hi, h => by
    rw [fw]; split
    · rename_i q
      have r := fw_RF (t := t) f (i := i + 1) (by omega) (RB_s h q)
      exact ⟨r.1, by rcases r.2 with r | r; exact Or.inl r; exact Or.inr ⟨by omega, by omega⟩⟩
    · obtain ⟨hm, hw, hg, hd, hv, hp, hx⟩ := h
      exact ⟨⟨⟨hm.1, by show m ≤ 8; omega⟩, fun h => by exact absurd h (by show ¬ i = -6; omega)⟩, Or.inr ⟨Int.le_refl _, by show i ≤ i + _; omega⟩⟩
theorem rdP_RF (t : Int → Int) {n : Int} (hn : 0 ≤ n) : RF (rdP t n) ∧ (q_flaw t n = -6 ∨ (0 ≤ q_flaw t n ∧ q_flaw t n ≤ n)) := by
  have h := fw_RF (t := t) n.toNat (i := 0) (by decide) (RB_0 (fun _ => 0) (fun _ => 0))
  refine ⟨h.1, ?_⟩
  unfold q_flaw rdP
  rcases h.2 with h | h
  · exact Or.inl h
  · exact Or.inr ⟨h.1, by omega⟩
/-- the same letters are read the same way -/
theorem fw_tx {t u : Int → Int} : ∀ (f : Nat) {i m w g d v : Int} {X Y : Int → Int}, (∀ k : Int, i ≤ k → k < i + f → t k = u k) → fw t f i m w g d v X Y = fw u f i m w g d v X Y
  | 0, _, _, _, _, _, _, _, _, _ => rfl
  | f + 1, i, m, w, g, d, v, X, Y, h => by
    rw [fw, fw, h i (by omega) (by omega)]
    split
    · exact fw_tx f (fun k h0 h1 => h k (by omega) (by omega))
    · rfl
theorem fw_P {t u : Int → Int} {n : Int} {X Y : Int → Int} (hn : 0 ≤ n) (h : ∀ k : Int, 0 ≤ k → k < n → t k = u k) : AG (fw t (Int.toNat n) 0 0 0 0 0 0 X Y) (rdP u n) := by
  unfold rdP
  rw [fw_tx n.toNat (fun k h0 h1 => h k h0 (by omega))]
  exact fw_ag n.toNat (by decide) (by decide) (Or.inl rfl) (fun k h0 h1 => absurd h1 (by omega)) (fun h => absurd h (by decide))
theorem TX_d {u : Int → Int} {L : List Int} {i : Int} (h : TX u L) (hi : 0 ≤ i ∧ i < (L.length : Int)) : u i = L.getD i.toNat 0 := by
  have e : L[i.toNat]? = some (L[i.toNat]'(by omega)) := List.getElem?_eq_getElem (by omega)
  have g := h i.toNat _ e
  rw [show ((i.toNat : Nat) : Int) = i by omega] at g
  rw [g, List.getD_eq_getElem?_getD, e]; rfl
theorem TX_un {t : Int → Int} {L : List Int} {n c : Int} (h : TX t L) (hn : n = (L.length : Int)) : TX (ua t n c) (L ++ [c]) := TX_p h hn
theorem TX_eq {t : Int → Int} {L M : List Int} (h : TX t L) (e : L = M) : TX t M := e ▸ h
theorem spT_s {a : Int → Int} {p i : Int} (h : 0 ≤ i) : spT a p (Int.toNat (i + 1)) = (((if i = 0 then spT a p (Int.toNat i) else spT a p (Int.toNat i) ++ [47]) ++ dgs (sh2 a (226 + 17 * p) i)) ++ [44]) ++ dgs (sh2 a (227 + 17 * p) i) := by
  rw [show Int.toNat (i + 1) = Int.toNat i + 1 by omega]
  show (((if Int.toNat i = 0 then spT a p (Int.toNat i) else spT a p (Int.toNat i) ++ [47]) ++ dgs (sh2 a (226 + 17 * p) ((Int.toNat i : Nat) : Int))) ++ [44]) ++ dgs (sh2 a (227 + 17 * p) ((Int.toNat i : Nat) : Int)) = _
  rw [show ((Int.toNat i : Nat) : Int) = i by omega]
  by_cases q : i = 0
  · rw [if_pos (by omega), if_pos q]
  · rw [if_neg (by omega), if_neg q]
theorem up24 {f g : Int → Int} (h : ∀ n : Nat, n < 24 → f n = g n) {k : Int} (h0 : 0 ≤ k) (h1 : k < 24) : f k = g k := by have := h k.toNat (by omega); rw [show ((k.toNat : Nat) : Int) = k by omega] at this; exact this
theorem up310 {f g : Int → Int} (h : ∀ n : Nat, n < 310 → f n = g n) {k : Int} (h0 : 0 ≤ k) (h1 : k < 310) : f k = g k := by have := h k.toNat (by omega); rw [show ((k.toNat : Nat) : Int) = k by omega] at this; exact this
