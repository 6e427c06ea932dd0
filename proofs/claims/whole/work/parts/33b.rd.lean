/-! the reading of a text, letter by letter: corners m, at y w, minus g, digits d, value v, the numbers so far X, Y -/
def num (g v : Int) : Int := if g = 0 then v else -v
abbrev rM (g d : Int) : Prop := g = 0 ∧ d ≤ 0
abbrev rC (m w d : Int) : Prop := w = 0 ∧ ¬ d = 0 ∧ m < 8
abbrev rS (m w d : Int) : Prop := ¬ w = 0 ∧ ¬ d = 0 ∧ m < 7
abbrev rD (c d v : Int) : Prop := (48 ≤ c ∧ c ≤ 57) ∧ ¬ (0 < d ∧ v = 0) ∧ v * 10 + (c - 48) ≤ 20000
abbrev okR (c m w g d v : Int) : Prop := (c = 45 ∧ rM g d) ∨ (c = 44 ∧ rC m w d) ∨ (c = 47 ∧ rS m w d) ∨ ((¬ c = 45 ∧ ¬ c = 44 ∧ ¬ c = 47) ∧ rD c d v)
def r_m (c m : Int) : Int := if c = 47 then m + 1 else m
def r_w (c w : Int) : Int := if c = 45 then w else if c = 44 then 1 else if c = 47 then 0 else w
def r_g (c g : Int) : Int := if c = 45 then 1 else if c = 44 then 0 else if c = 47 then 0 else g
def r_d (c d : Int) : Int := if c = 45 then d else if c = 44 then 0 else if c = 47 then 0 else d + 1
def r_v (c v : Int) : Int := if c = 45 then v else if c = 44 then 0 else if c = 47 then 0 else v * 10 + (c - 48)
def r_X (c m g v : Int) (X : Int → Int) : Int → Int := if c = 44 then ua X m (num g v) else X
def r_Y (c m g v : Int) (Y : Int → Int) : Int → Int := if c = 47 then ua Y m (num g v) else Y
abbrev RS : Type := Int × Int × (Int → Int) × (Int → Int)
def fw (t : Int → Int) : Nat → Int → Int → Int → Int → Int → Int → (Int → Int) → (Int → Int) → RS
  | 0, i, m, w, g, d, v, X, Y => if w = 0 ∨ d = 0 then (i, m, X, Y) else (-6, m + 1, X, ua Y m (num g v))
  | f + 1, i, m, w, g, d, v, X, Y => if okR (t i) m w g d v then fw t f (i + 1) (r_m (t i) m) (r_w (t i) w) (r_g (t i) g) (r_d (t i) d) (r_v (t i) v) (r_X (t i) m g v X) (r_Y (t i) m g v Y) else (i, m, X, Y)
theorem fw_0 {t : Int → Int} {f : Nat} {i m w g d v : Int} {X Y : Int → Int} (hf : f = 0) (h : w = 0 ∨ d = 0) : fw t f i m w g d v X Y = (i, m, X, Y) := by subst hf; rw [fw, if_pos h]
theorem fw_e {t : Int → Int} {f : Nat} {i m w g d v : Int} {X Y : Int → Int} (hf : f = 0) (h : ¬ (w = 0 ∨ d = 0)) : fw t f i m w g d v X Y = (-6, m + 1, X, ua Y m (num g v)) := by subst hf; rw [fw, if_neg h]
theorem fw_n {t : Int → Int} {f : Nat} {i m w g d v : Int} {X Y : Int → Int} (hf : 0 < f) (h : ¬ okR (t i) m w g d v) : fw t f i m w g d v X Y = (i, m, X, Y) := by
  obtain ⟨f, rfl⟩ : ∃ f', f = f' + 1 := ⟨f - 1, by omega⟩
  rw [fw, if_neg h]
theorem fw_s {t : Int → Int} {f f' : Nat} {i m w g d v : Int} {X Y : Int → Int} (hf : f = f' + 1) (h : okR (t i) m w g d v) : fw t f i m w g d v X Y = fw t f' (i + 1) (r_m (t i) m) (r_w (t i) w) (r_g (t i) g) (r_d (t i) d) (r_v (t i) v) (r_X (t i) m g v X) (r_Y (t i) m g v Y) := by subst hf; rw [fw, if_pos h]
/-- the numbers read are in their range, where they are looked at -/
def RB (m w d v g : Int) (X Y : Int → Int) : Prop := (0 ≤ m ∧ m ≤ 7) ∧ (w = 0 ∨ w = 1) ∧ (g = 0 ∨ g = 1) ∧ (0 ≤ d) ∧ (0 ≤ v ∧ v ≤ 20000) ∧ (∀ k : Int, 0 ≤ k → k < m → cb (X k) ∧ cb (Y k)) ∧ (w = 1 → cb (X m))
theorem num_b {g v : Int} (h : 0 ≤ v ∧ v ≤ 20000) : cb (num g v) := by unfold num; split <;> omega
theorem RB_0 (X Y : Int → Int) : RB 0 0 0 0 0 X Y := ⟨by decide, Or.inl rfl, Or.inl rfl, by decide, by decide, fun k h0 h1 => absurd h1 (by omega), fun h => absurd h (by decide)⟩
theorem RB_s {c m w g d v : Int} {X Y : Int → Int} (h : RB m w d v g X Y) (hk : okR c m w g d v) : RB (r_m c m) (r_w c w) (r_d c d) (r_v c v) (r_g c g) (r_X c m g v X) (r_Y c m g v Y) := by
  obtain ⟨hm, hw, hg, hd, hv, hp, hx⟩ := h
  have hn := num_b (g := g) hv
  unfold RB r_m r_w r_d r_v r_g r_X r_Y
  by_cases e5 : c = 45
  · subst e5
    simp only [if_pos, show ¬ (45 : Int) = 47 by decide, show ¬ (45 : Int) = 44 by decide, if_false]
    exact ⟨hm, hw, by simp, hd, hv, hp, hx⟩
  · by_cases e4 : c = 44
    · subst e4
      simp only [show ¬ (44 : Int) = 47 by decide, show ¬ (44 : Int) = 45 by decide, if_false, if_true]
      refine ⟨hm, by simp, by simp, by decide, by decide, fun k h0 h1 => ⟨?_, (hp k h0 h1).2⟩, fun _ => by rw [ua_eq]; exact hn⟩
      rw [ua_ne (by omega)]; exact (hp k h0 h1).1
    · by_cases e7 : c = 47
      · subst e7
        simp only [show ¬ (47 : Int) = 44 by decide, show ¬ (47 : Int) = 45 by decide, if_false, if_true]
        have hq : rS m w d := by rcases hk with q | q | q | q <;> first | exact q.2 | (exfalso; have := q.1; omega)
        refine ⟨by have := hq.2.2; omega, by simp, by simp, by decide, by decide, fun k h0 h1 => ?_, fun h => absurd h (by decide)⟩
        by_cases q : k = m
        · subst q; rw [ua_eq]; exact ⟨hx (by have := hq.1; omega), hn⟩
        · rw [ua_ne q]; exact hp k h0 (by omega)
      · have hq : rD c d v := by rcases hk with q | q | q | q <;> first | exact q.2 | (exfalso; have := q.1; omega)
        simp only [if_neg e5, if_neg e4, if_neg e7]
        refine ⟨hm, hw, hg, by omega, by have := hq.1; have := hq.2.2; omega, hp, hx⟩
/-- what was read does not depend on what stood in the rows before -/
def AG (r s : RS) : Prop := r.1 = s.1 ∧ r.2.1 = s.2.1 ∧ (r.1 = -6 → ∀ k : Int, 0 ≤ k → k < r.2.1 → r.2.2.1 k = s.2.2.1 k ∧ r.2.2.2 k = s.2.2.2 k)
theorem fw_ag {t : Int → Int} : ∀ (f : Nat) {i m w g d v : Int} {X Y X' Y' : Int → Int}, 0 ≤ i → 0 ≤ m → (w = 0 ∨ w = 1) → (∀ k : Int, 0 ≤ k → k < m → X k = X' k ∧ Y k = Y' k) → (w = 1 → X m = X' m) → AG (fw t f i m w g d v X Y) (fw t f i m w g d v X' Y')
  | 0, i, m, w, g, d, v, X, Y, X', Y', hi, hm, hw, hp, hx => by
    rw [fw, fw]; split
    · exact ⟨rfl, rfl, fun h => by exact absurd h (by show ¬ i = -6; omega)⟩
    · rename_i q
      refine ⟨rfl, rfl, fun _ k h0 h1 => ?_⟩
      have h1 : k < m + 1 := h1
      by_cases e : k = m
      · subst e; exact ⟨hx (by omega), by show ua Y k _ k = ua Y' k _ k; rw [ua_eq, ua_eq]⟩
      · exact ⟨(hp k h0 (by omega)).1, by show ua Y m _ k = ua Y' m _ k; rw [ua_ne e, ua_ne e]; exact (hp k h0 (by omega)).2⟩
  | f + 1, i, m, w, g, d, v, X, Y, X', Y', hi, hm, hw, hp, hx => by
    rw [fw, fw]; split
    · rename_i q
      refine fw_ag f (by omega) ?_ ?_ ?_ ?_
      · unfold r_m; split <;> omega
      · unfold r_w; (repeat' split) <;> first | exact hw | exact Or.inl rfl | exact Or.inr rfl
      · intro k h0 h1
        unfold r_m at h1; unfold r_X r_Y
        by_cases e4 : t i = 44
        · rw [if_pos e4, if_pos e4, if_neg (by omega), if_neg (by omega)]; rw [if_neg (by omega)] at h1
          rw [ua_ne (by omega), ua_ne (by omega)]; exact hp k h0 h1
        · rw [if_neg e4, if_neg e4]
          by_cases e7 : t i = 47
          · rw [if_pos e7] at h1; rw [if_pos e7, if_pos e7]
            have hq : rS m w d := by rcases q with q | q | q | q <;> first | exact q.2 | (exfalso; have := q.1; omega)
            by_cases e : k = m
            · subst e; rw [ua_eq, ua_eq]; exact ⟨hx (by have := hq.1; omega), rfl⟩
            · rw [ua_ne e, ua_ne e]; exact hp k h0 (by omega)
          · rw [if_neg e7] at h1; rw [if_neg e7, if_neg e7]; exact hp k h0 h1
      · unfold r_w r_m r_X
        by_cases e5 : t i = 45
        · rw [if_pos e5, if_neg (by omega), if_neg (by omega), if_neg (by omega)]; exact hx
        · by_cases e4 : t i = 44
          · have e7 : ¬ t i = 47 := by omega
            intro _; simp only [if_pos e4, if_neg e7, ua_eq]
          · by_cases e7 : t i = 47
            · rw [if_neg e5, if_neg e4, if_pos e7]; exact fun h => absurd h (by decide)
            · rw [if_neg e5, if_neg e4, if_neg e7, if_neg e7, if_neg e4, if_neg e4]; exact hx
    · exact ⟨rfl, rfl, fun h => by exact absurd h (by show ¬ i = -6; omega)⟩
/-- what is read of the pad -/
def rdP (t : Int → Int) (n : Int) : RS := fw t n.toNat 0 0 0 0 0 0 (fun _ => 0) (fun _ => 0)
def q_flaw (t : Int → Int) (n : Int) : Int := (rdP t n).1
def s_lod (a : Int → Int) (p : Int) (X Y : Int → Int) : Nat → Int → Int
  | 0 => ua a (225 + 17 * p) 0
  | j + 1 => s_app (s_lod a p X Y j) p (X j) (Y j)
def q_load (t : Int → Int) (n p : Int) : Int := if 0 ≤ p ∧ p ≤ 4 then (if q_flaw t n = -6 then (rdP t n).2.1 else -3) else -1
def n_load (a t : Int → Int) (n p : Int) : Int → Int := if (0 ≤ p ∧ p ≤ 4) ∧ q_flaw t n = -6 then s_lod a p (rdP t n).2.2.1 (rdP t n).2.2.2 (rdP t n).2.1.toNat else a
def n_lodN (t : Int → Int) (n p : Int) : Int := if (0 ≤ p ∧ p ≤ 4) ∧ q_flaw t n = -6 then 0 else n
/-- a polygon's text -/
def spX (X Y : Int → Int) : Nat → List Int
  | 0 => []
  | j + 1 => (((if j = 0 then spX X Y j else spX X Y j ++ [47]) ++ dgs (X j)) ++ [44]) ++ dgs (Y j)
def spT (a : Int → Int) (p : Int) : Nat → List Int := spX (sh2 a (226 + 17 * p)) (sh2 a (227 + 17 * p))
def spL (a : Int → Int) (p : Int) : List Int := spT a p (a (225 + 17 * p)).toNat
def q_spell (a : Int → Int) (p i : Int) : Int := if 0 ≤ p ∧ p ≤ 4 then (if i = -1 then ((spL a p).length : Int) else if 0 ≤ i ∧ i ≤ ((spL a p).length : Int) - 1 then (spL a p).getD i.toNat 0 else -6) else -1
theorem spX_len (X Y : Int → Int) : ∀ j : Nat, (spX X Y j).length ≤ 14 * j
  | 0 => Nat.le_refl _
  | j + 1 => by
    have h := spX_len X Y j
    have h1 := dgs_len (X j); have r1 := dlen_r (X j)
    have h2 := dgs_len (Y j); have r2 := dlen_r (Y j)
    unfold spX
    rw [List.length_append, List.length_append, List.length_append]
    split
    · show _ + _ + 1 + _ ≤ _; omega
    · rw [List.length_append]; show _ + 1 + _ + 1 + _ ≤ _; omega
theorem spX_b (X Y : Int → Int) (j : Nat) : ((spX X Y j).length : Int) ≤ 14 * (j : Int) := by have := spX_len X Y j; omega
theorem len_1 {L : List Int} {n c : Int} (h : n = (L.length : Int)) : n + 1 = ((L ++ [c]).length : Int) := by rw [List.length_append]; show n + 1 = ((L.length + 1 : Nat) : Int); omega
theorem len_d {L : List Int} {n x : Int} (h : n = (L.length : Int)) : n + dlen x = ((L ++ dgs x).length : Int) := by rw [List.length_append, Int.natCast_add, dgs_len, h]
theorem r_d_le {c d i : Int} (h0 : 0 ≤ i) (h : d ≤ i) : r_d c d ≤ i + 1 := by
  unfold r_d; (repeat' split) <;> omega
