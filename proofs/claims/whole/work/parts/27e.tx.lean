/-! texts: what a string builder's bytes hold -/
theorem shl0 (x : Int32) : x <<< (I32 0 &&& 31) = x := by
  apply Int32.toBitVec_inj.1; show x.toBitVec <<< _ = x.toBitVec; exact BitVec.shiftLeft_zero _
theorem shr0 (x : Int32) : x >>> (I32 0 &&& 31) = x := by
  apply Int32.toBitVec_inj.1; show x.toBitVec.sshiftRight _ = x.toBitVec; exact BitVec.sshiftRight_zero
abbrev ch (x : Int) : Prop := 0 ≤ x ∧ x < 128
theorem ch_all {p : Int → Prop} (h : ∀ n : Nat, n < 128 → p (n : Int)) {x : Int} (hx : ch x) : p x := by
  obtain ⟨n, rfl⟩ := Int.eq_ofNat_of_zero_le hx.1
  exact h n (by have := hx.2; omega)
theorem i2b_I {x : Int} (h : ch x) : (I32 x).toInt8.toInt32 = I32 x := ch_all (p := fun x => (I32 x).toInt8.toInt32 = I32 x) (by decide +kernel) h
theorem i2c_I {x : Int} (h : ch x) : ((I32 x).toUInt32 % 65536).toInt32 = I32 x := ch_all (p := fun x => ((I32 x).toUInt32 % 65536).toInt32 = I32 x) (by decide +kernel) h
theorem a255_I {x : Int} (h : ch x) : I32 x &&& I32 255 = I32 x := ch_all (p := fun x => I32 x &&& I32 255 = I32 x) (by decide +kernel) h
theorem narB {x : Int} (h : ch x) : vp_nar .byte (I32 x) = I32 x := ch_all (p := fun x => vp_nar .byte (I32 x) = I32 x) (by decide +kernel) h
theorem nrC {x : Int} (h : ch x) : narrow .char (.int (I32 x)) = .int (I32 x) := ch_all (p := fun x => narrow .char (.int (I32 x)) = .int (I32 x)) (by decide +kernel) h
theorem fitB {x : Int} (h : ch x) : fits .byte (.int (I32 x)) = true := ch_all (p := fun x => fits .byte (.int (I32 x)) = true) (by decide +kernel) h
/-- the bytes are letters; the text L stands at the front -/
def BX (N : Nat) (t : Int → Int) : Prop := ∀ k : Int, 0 ≤ k → k < N → ch (t k)
def TX (t : Int → Int) (L : List Int) : Prop := ∀ (k : Nat) (c : Int), L[k]? = some c → t k = c
theorem ch_0 : ch 0 := ⟨by decide, by decide⟩
theorem BX_0 (N : Nat) : BX N (fun _ => 0) := fun _ _ _ => ch_0
theorem BX_u {N : Nat} {t : Int → Int} {i c : Int} (h : BX N t) (hc : ch c) : BX N (ua t i c) := fun k h0 h1 => by
  unfold ua; split
  · exact hc
  · exact h k h0 h1
theorem BX_g {N M : Nat} {t : Int → Int} (h : BX N t) : BX M (cpyT t (fun _ => 0) 0 0 N) := fun k h0 h1 => by
  unfold cpyT; split
  · rename_i q; have := h (0 + (k - 0)) (by omega) (by omega); exact this
  · exact ch_0
theorem fit_N {N : Nat} {t : Int → Int} (h : BX N t) {i : Nat} (hi : i < N) : fits .byte (.int (AI N t ((0 : Int).toNat + i))) = true := by
  show fits .byte (.int (AI N t (0 + i))) = true
  rw [Nat.zero_add]; unfold AI; rw [if_pos hi]; exact fitB (h i (by omega) (by omega))
theorem TX_0 (t : Int → Int) : TX t [] := fun k c h => by cases h
theorem TX_lt {L : List Int} {k : Nat} {c : Int} (h : L[k]? = some c) : k < L.length := (List.getElem?_eq_some_iff.mp h).1
theorem TX_s {t : Int → Int} {L : List Int} {c n : Int} (h : TX t L) (hn : n = L.length) (hc : t n = c) : TX t (L ++ [c]) := fun k d hk => by
  by_cases q : k < L.length
  · rw [List.getElem?_append_left q] at hk; exact h k d hk
  · rw [List.getElem?_append_right (by omega)] at hk
    have e : k - L.length = 0 := by have := TX_lt hk; simp at this; omega
    rw [e] at hk; cases hk
    rw [← hc, hn]; congr 1; omega
theorem TX_c {t u : Int → Int} {L : List Int} (h : TX t L) (hu : ∀ k : Int, 0 ≤ k → k < L.length → u k = t k) : TX u L := fun k c hk => by
  rw [hu k (by omega) (by have := TX_lt hk; omega)]; exact h k c hk
theorem TX_u {t : Int → Int} {L : List Int} {i c : Int} (h : TX t L) (hi : L.length ≤ i) : TX (ua t i c) L := TX_c h fun k _ h1 => ua_ne (by omega)
theorem TX_p {t : Int → Int} {L : List Int} {n c : Int} (h : TX t L) (hn : n = L.length) : TX (ua t n c) (L ++ [c]) := TX_s (TX_u h (by omega)) hn ua_eq
theorem TX_g {N : Nat} {t : Int → Int} {L : List Int} (h : TX t L) (hn : L.length ≤ N) : TX (cpyT t (fun _ => 0) 0 0 N) L := TX_c h fun k h0 h1 => by
  unfold cpyT; rw [if_pos (by omega)]; congr 1; omega
/-- a number's text -/
def dg (m : Int) : List Int := if m < 10 then [48 + m] else if m < 100 then [48 + m / 10, 48 + m % 10] else if m < 1000 then [48 + m / 100, 48 + m / 10 % 10, 48 + m % 10] else if m < 10000 then [48 + m / 1000, 48 + m / 100 % 10, 48 + m / 10 % 10, 48 + m % 10] else [48 + m / 10000, 48 + m / 1000 % 10, 48 + m / 100 % 10, 48 + m / 10 % 10, 48 + m % 10]
def dgs (v : Int) : List Int := if v < 0 then 45 :: dg (-v) else dg v
def dlen (v : Int) : Int := if v < 0 then 1 + (if -v < 10 then 1 else if -v < 100 then 2 else if -v < 1000 then 3 else if -v < 10000 then 4 else 5) else (if v < 10 then 1 else if v < 100 then 2 else if v < 1000 then 3 else if v < 10000 then 4 else 5)
theorem dlen_r (v : Int) : 1 ≤ dlen v ∧ dlen v ≤ 6 := by unfold dlen; (repeat' split) <;> omega
theorem dg_len (m : Int) : (dg m).length = if m < 10 then 1 else if m < 100 then 2 else if m < 1000 then 3 else if m < 10000 then 4 else 5 := by unfold dg; (repeat' split) <;> rfl
theorem dgs_len (v : Int) : ((dgs v).length : Int) = dlen v := by
  unfold dgs dlen; split
  · rw [List.length_cons, dg_len]; (repeat' split) <;> omega
  · rw [dg_len]; (repeat' split) <;> omega
theorem dgs_p1 {v : Int} (h : 0 ≤ v ∧ v ≤ 9) : dgs v = [48 + v] := by unfold dgs dg; rw [if_neg (by omega), if_pos (by omega)]
theorem dgs_p2 {v : Int} (h : 10 ≤ v ∧ v ≤ 99) : dgs v = [48 + v / 10, 48 + v % 10] := by unfold dgs dg; rw [if_neg (by omega), if_neg (by omega), if_pos (by omega)]
theorem dgs_p3 {v : Int} (h : 100 ≤ v ∧ v ≤ 999) : dgs v = [48 + v / 100, 48 + v / 10 % 10, 48 + v % 10] := by unfold dgs dg; rw [if_neg (by omega), if_neg (by omega), if_neg (by omega), if_pos (by omega)]
theorem dgs_p4 {v : Int} (h : 1000 ≤ v ∧ v ≤ 9999) : dgs v = [48 + v / 1000, 48 + v / 100 % 10, 48 + v / 10 % 10, 48 + v % 10] := by unfold dgs dg; rw [if_neg (by omega), if_neg (by omega), if_neg (by omega), if_neg (by omega), if_pos (by omega)]
theorem dgs_p5 {v : Int} (h : 10000 ≤ v ∧ v ≤ 99999) : dgs v = [48 + v / 10000, 48 + v / 1000 % 10, 48 + v / 100 % 10, 48 + v / 10 % 10, 48 + v % 10] := by unfold dgs dg; rw [if_neg (by omega), if_neg (by omega), if_neg (by omega), if_neg (by omega), if_neg (by omega)]
theorem dgs_n {v : Int} (h : v < 0) : dgs v = 45 :: dgs (-v) := by
  show (if v < 0 then 45 :: dg (-v) else dg v) = 45 :: (if -v < 0 then 45 :: dg (-(-v)) else dg (-v))
  rw [if_pos h, if_neg (by omega)]
theorem TX_1 {t : Int → Int} {L : List Int} {n a : Int} (h : TX t L) (hn : n = L.length) (ha : t n = a) : TX t (L ++ [a]) := TX_s h hn ha
theorem TX_cons {t : Int → Int} {L M : List Int} {n a : Int} (h : TX t L) (hn : n = L.length) (ha : t n = a) (hM : TX t (L ++ [a]) → TX t ((L ++ [a]) ++ M)) : TX t (L ++ a :: M) := by
  have := hM (TX_s h hn ha); rw [List.append_assoc] at this; exact this
theorem td100 {x : Int} (h : x ≤ 0) : Int.tdiv x 100 = -((-x) / 100) := by
  rw [show x = -(-x) by omega, Int.neg_tdiv, Int.tdiv_eq_ediv_of_nonneg (by omega), Int.neg_neg]
def CP (N : Nat) : Prop := N = 16 ∨ N = 34 ∨ N = 70 ∨ N = 142
theorem ch_O {r : Int} : ch (dgO r) := by unfold dgO; exact ⟨by omega, by omega⟩
theorem ch_T {r : Int} (h : 0 ≤ r ∧ r < 100) : ch (dgT r) := by unfold dgT; exact ⟨by omega, by omega⟩
theorem dcases {x : Int} (h : cb x) : ((0 ≤ x ∧ x ≤ 9) ∧ dlen x = 1) ∨ ((10 ≤ x ∧ x ≤ 99) ∧ dlen x = 2) ∨ ((100 ≤ x ∧ x ≤ 999) ∧ dlen x = 3) ∨ ((1000 ≤ x ∧ x ≤ 9999) ∧ dlen x = 4) ∨ ((10000 ≤ x ∧ x ≤ 20000) ∧ dlen x = 5) ∨ (((-9) ≤ x ∧ x ≤ (-1)) ∧ dlen x = 2) ∨ (((-99) ≤ x ∧ x ≤ (-10)) ∧ dlen x = 3) ∨ (((-999) ≤ x ∧ x ≤ (-100)) ∧ dlen x = 4) ∨ (((-9999) ≤ x ∧ x ≤ (-1000)) ∧ dlen x = 5) ∨ (((-20000) ≤ x ∧ x ≤ (-10000)) ∧ dlen x = 6) := by
  have e : dlen x = dlen x := rfl
  rcases (show (0 ≤ x ∧ x ≤ 9) ∨ (10 ≤ x ∧ x ≤ 99) ∨ (100 ≤ x ∧ x ≤ 999) ∨ (1000 ≤ x ∧ x ≤ 9999) ∨ (10000 ≤ x ∧ x ≤ 20000) ∨ ((-9) ≤ x ∧ x ≤ (-1)) ∨ ((-99) ≤ x ∧ x ≤ (-10)) ∨ ((-999) ≤ x ∧ x ≤ (-100)) ∨ ((-9999) ≤ x ∧ x ≤ (-1000)) ∨ ((-20000) ≤ x ∧ x ≤ (-10000)) by omega) with h1 | h1 | h1 | h1 | h1 | h1 | h1 | h1 | h1 | h1
  · exact Or.inl ⟨h1, by unfold dlen; (repeat' split) <;> omega⟩
  · exact Or.inr (Or.inl ⟨h1, by unfold dlen; (repeat' split) <;> omega⟩)
  · exact Or.inr (Or.inr (Or.inl ⟨h1, by unfold dlen; (repeat' split) <;> omega⟩))
  · exact Or.inr (Or.inr (Or.inr (Or.inl ⟨h1, by unfold dlen; (repeat' split) <;> omega⟩)))
  · exact Or.inr (Or.inr (Or.inr (Or.inr (Or.inl ⟨h1, by unfold dlen; (repeat' split) <;> omega⟩))))
  · exact Or.inr (Or.inr (Or.inr (Or.inr (Or.inr (Or.inl ⟨h1, by unfold dlen; (repeat' split) <;> omega⟩)))))
  · exact Or.inr (Or.inr (Or.inr (Or.inr (Or.inr (Or.inr (Or.inl ⟨h1, by unfold dlen; (repeat' split) <;> omega⟩))))))
  · exact Or.inr (Or.inr (Or.inr (Or.inr (Or.inr (Or.inr (Or.inr (Or.inl ⟨h1, by unfold dlen; (repeat' split) <;> omega⟩)))))))
  · exact Or.inr (Or.inr (Or.inr (Or.inr (Or.inr (Or.inr (Or.inr (Or.inr (Or.inl ⟨h1, by unfold dlen; (repeat' split) <;> omega⟩))))))))
  · exact Or.inr (Or.inr (Or.inr (Or.inr (Or.inr (Or.inr (Or.inr (Or.inr (Or.inr (⟨h1, by unfold dlen; (repeat' split) <;> omega⟩)))))))))
theorem gc_1 {t : Int → Int} {L : List Int} {n a0 : Int} (hn : n = L.length) (h : TX t L) (h0 : t n = a0) : TX t (L ++ [a0]) := by
  exact TX_s h hn h0
theorem gc_2 {t : Int → Int} {L : List Int} {n a0 a1 : Int} (hn : n = L.length) (h : TX t L) (h0 : t n = a0) (h1 : t (n + 1) = a1) : TX t (L ++ [a0, a1]) := by
  have g := gc_1 hn h h0
  have g2 := TX_s g (n := n + 1) (by rw [List.length_append, hn]; rfl) h1
  rw [List.append_assoc] at g2; exact g2
theorem gc_3 {t : Int → Int} {L : List Int} {n a0 a1 a2 : Int} (hn : n = L.length) (h : TX t L) (h0 : t n = a0) (h1 : t (n + 1) = a1) (h2 : t (n + 2) = a2) : TX t (L ++ [a0, a1, a2]) := by
  have g := gc_2 hn h h0 h1
  have g2 := TX_s g (n := n + 2) (by rw [List.length_append, hn]; rfl) h2
  rw [List.append_assoc] at g2; exact g2
theorem gc_4 {t : Int → Int} {L : List Int} {n a0 a1 a2 a3 : Int} (hn : n = L.length) (h : TX t L) (h0 : t n = a0) (h1 : t (n + 1) = a1) (h2 : t (n + 2) = a2) (h3 : t (n + 3) = a3) : TX t (L ++ [a0, a1, a2, a3]) := by
  have g := gc_3 hn h h0 h1 h2
  have g2 := TX_s g (n := n + 3) (by rw [List.length_append, hn]; rfl) h3
  rw [List.append_assoc] at g2; exact g2
theorem gc_5 {t : Int → Int} {L : List Int} {n a0 a1 a2 a3 a4 : Int} (hn : n = L.length) (h : TX t L) (h0 : t n = a0) (h1 : t (n + 1) = a1) (h2 : t (n + 2) = a2) (h3 : t (n + 3) = a3) (h4 : t (n + 4) = a4) : TX t (L ++ [a0, a1, a2, a3, a4]) := by
  have g := gc_4 hn h h0 h1 h2 h3
  have g2 := TX_s g (n := n + 4) (by rw [List.length_append, hn]; rfl) h4
  rw [List.append_assoc] at g2; exact g2
theorem gc_6 {t : Int → Int} {L : List Int} {n a0 a1 a2 a3 a4 a5 : Int} (hn : n = L.length) (h : TX t L) (h0 : t n = a0) (h1 : t (n + 1) = a1) (h2 : t (n + 2) = a2) (h3 : t (n + 3) = a3) (h4 : t (n + 4) = a4) (h5 : t (n + 5) = a5) : TX t (L ++ [a0, a1, a2, a3, a4, a5]) := by
  have g := gc_5 hn h h0 h1 h2 h3 h4
  have g2 := TX_s g (n := n + 5) (by rw [List.length_append, hn]; rfl) h5
  rw [List.append_assoc] at g2; exact g2
theorem CP_b {N : Nat} (h : CP N) : (N : Int) ≤ 1000 := by unfold CP at h; omega
