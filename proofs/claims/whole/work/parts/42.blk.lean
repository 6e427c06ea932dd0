/-! THE BLOCKS of a relay and of the class's world -/
def bH (E : Ev) (R : Nat → Nat) (a : Int → Int) : va_W := [((R 0), .inr (7, [vR (R 1), vR (R 17), vR (R 18), vR (R 22), vR (R 25), vR (R 29), vR (R 31), vR (R 33), vR (R 34), vR (R 35), vI (a 88), vI (a 89), vI (a 90), vI (a 94), vI (a 95), vI (a 96), vI (a 97), vI (a 35)])), ((R 1), cQ E 4 5 (pq R))]
def bQP (E : Ev) (R : Nat → Nat) (a : Int → Int) : va_W := [((R 2), .inr (5, [vR (R 3), vR (R 4), vI (a 225), vI (snd (sh2 a 226) (sh2 a 227) (a 225))])), ((R 3), cI E 8 (sh2 a 226)), ((R 4), cI E 8 (sh2 a 227)), ((R 5), .inr (5, [vR (R 6), vR (R 7), vI (a 242), vI (snd (sh2 a 243) (sh2 a 244) (a 242))])), ((R 6), cI E 8 (sh2 a 243)), ((R 7), cI E 8 (sh2 a 244)), ((R 8), .inr (5, [vR (R 9), vR (R 10), vI (a 259), vI (snd (sh2 a 260) (sh2 a 261) (a 259))])), ((R 9), cI E 8 (sh2 a 260)), ((R 10), cI E 8 (sh2 a 261)), ((R 11), .inr (5, [vR (R 12), vR (R 13), vI (a 276), vI (snd (sh2 a 277) (sh2 a 278) (a 276))])), ((R 12), cI E 8 (sh2 a 277)), ((R 13), cI E 8 (sh2 a 278)), ((R 14), .inr (5, [vR (R 15), vR (R 16), vI (a 293), vI (snd (sh2 a 294) (sh2 a 295) (a 293))])), ((R 15), cI E 8 (sh2 a 294)), ((R 16), cI E 8 (sh2 a 295))]
def bS (E : Ev) (R : Nat → Nat) (a : Int → Int) : va_W := [((R 17), cI E 8 (sh a 21))]
def bZ (E : Ev) (R : Nat → Nat) (a : Int → Int) : va_W := [((R 18), cQ E 5 3 (zq R)), ((R 19), .inr (10, [vI (a 29), vI (a 32), vI (a 98), vI (a 101)])), ((R 20), .inr (10, [vI (a 30), vI (a 33), vI (a 99), vI (a 102)])), ((R 21), .inr (10, [vI (a 31), vI (a 34), vI (a 100), vI (a 103)]))]
def bN (E : Ev) (R : Nat → Nat) (a : Int → Int) : va_W := [((R 22), .inr (3, [vR (R 23), vR (R 24)])), ((R 23), cI E 4 (nF a)), ((R 24), cI E 4 (nS a))]
def bG (E : Ev) (R : Nat → Nat) (a : Int → Int) : va_W := [((R 25), .inr (8, [vR (R 26), vR (R 27), vR (R 28), vI (a 5), vI (a 4)])), ((R 26), .inr (4, [vI (a 0), vI (a 1), vI (a 2), vI (a 3)])), ((R 27), .inr (4, [vI (a 6), vI (a 7), vI (a 8), vI (a 9)])), ((R 28), .inr (4, [vI (a 10), vI (a 11), vI (a 12), vI (a 13)]))]
def bV (E : Ev) (R : Nat → Nat) (a : Int → Int) : va_W := [((R 29), .inr (9, [vR (R 30), vL (wsum (sh a 36) cosT 24), vL (wsum (sh a 36) sinT 24)])), ((R 30), cI E 24 (sh a 36)), ((R 31), .inr (9, [vR (R 32), vL (wsum (sh a 60) cosT 24), vL (wsum (sh a 60) sinT 24)])), ((R 32), cI E 24 (sh a 60))]
def bE (E : Ev) (R : Nat → Nat) (a : Int → Int) : va_W := [((R 33), .inr (4, [vI (a 84), vI (a 85), vI (a 86), vI (a 87)]))]
def bL (E : Ev) (R : Nat → Nat) (a : Int → Int) : va_W := [((R 35), .inr (2, [vR (R 36), vR (R 37), vI (a 104)])), ((R 36), cI E 60 (sh2 a 105)), ((R 37), cI E 60 (sh2 a 106))]
def bI (E : Ev) (R : Nat → Nat) (a : Int → Int) (x y d : Int) : va_W := [((R 34), .inr (1, [vI (a 91), vL x, vL y, vL d]))]
set_option maxHeartbeats 1000000 in
theorem bH_c {E : Ev} {R : Nat → Nat} {a b : Int → Int} (h : ∀ j : Int, (35 ≤ j ∧ j ≤ 35) ∨ (88 ≤ j ∧ j ≤ 90) ∨ (94 ≤ j ∧ j ≤ 97) → b j = a j) : bH E R b = bH E R a := by
  have z1 : (b 88) = (a 88) := h _ (by omega)
  have z2 : (b 89) = (a 89) := h _ (by omega)
  have z3 : (b 90) = (a 90) := h _ (by omega)
  have z4 : (b 94) = (a 94) := h _ (by omega)
  have z5 : (b 95) = (a 95) := h _ (by omega)
  have z6 : (b 96) = (a 96) := h _ (by omega)
  have z7 : (b 97) = (a 97) := h _ (by omega)
  have z8 : (b 35) = (a 35) := h _ (by omega)
  unfold bH; rw [z1, z2, z3, z4, z5, z6, z7, z8]
set_option maxHeartbeats 1000000 in
theorem bQP_c {E : Ev} {R : Nat → Nat} {a b : Int → Int} (hn : ∀ p : Int, 0 ≤ p → p < 5 → 0 ≤ a (225 + 17 * p) ∧ a (225 + 17 * p) ≤ 8) (h : ∀ j : Int, (225 ≤ j ∧ j ≤ 309) → b j = a j) : bQP E R b = bQP E R a := by
  have z1 : (snd (sh2 b 226) (sh2 b 227) (b 225)) = (snd (sh2 a 226) (sh2 a 227) (a 225)) := snd_cc (fun k h0 h1 => by unfold sh2; exact h _ (by omega)) (fun k h0 h1 => by unfold sh2; exact h _ (by omega)) (h _ (by omega)) (hn 0 (by decide) (by decide))
  have z2 : (snd (sh2 b 243) (sh2 b 244) (b 242)) = (snd (sh2 a 243) (sh2 a 244) (a 242)) := snd_cc (fun k h0 h1 => by unfold sh2; exact h _ (by omega)) (fun k h0 h1 => by unfold sh2; exact h _ (by omega)) (h _ (by omega)) (hn 1 (by decide) (by decide))
  have z3 : (snd (sh2 b 260) (sh2 b 261) (b 259)) = (snd (sh2 a 260) (sh2 a 261) (a 259)) := snd_cc (fun k h0 h1 => by unfold sh2; exact h _ (by omega)) (fun k h0 h1 => by unfold sh2; exact h _ (by omega)) (h _ (by omega)) (hn 2 (by decide) (by decide))
  have z4 : (snd (sh2 b 277) (sh2 b 278) (b 276)) = (snd (sh2 a 277) (sh2 a 278) (a 276)) := snd_cc (fun k h0 h1 => by unfold sh2; exact h _ (by omega)) (fun k h0 h1 => by unfold sh2; exact h _ (by omega)) (h _ (by omega)) (hn 3 (by decide) (by decide))
  have z5 : (snd (sh2 b 294) (sh2 b 295) (b 293)) = (snd (sh2 a 294) (sh2 a 295) (a 293)) := snd_cc (fun k h0 h1 => by unfold sh2; exact h _ (by omega)) (fun k h0 h1 => by unfold sh2; exact h _ (by omega)) (h _ (by omega)) (hn 4 (by decide) (by decide))
  have z6 : cI E 8 (sh2 b 226) = cI E 8 (sh2 a 226) := cI_c (fun k_ k0_ k1_ => by unfold sh2; exact h _ (by omega))
  have z7 : cI E 8 (sh2 b 227) = cI E 8 (sh2 a 227) := cI_c (fun k_ k0_ k1_ => by unfold sh2; exact h _ (by omega))
  have z8 : cI E 8 (sh2 b 243) = cI E 8 (sh2 a 243) := cI_c (fun k_ k0_ k1_ => by unfold sh2; exact h _ (by omega))
  have z9 : cI E 8 (sh2 b 244) = cI E 8 (sh2 a 244) := cI_c (fun k_ k0_ k1_ => by unfold sh2; exact h _ (by omega))
  have z10 : cI E 8 (sh2 b 260) = cI E 8 (sh2 a 260) := cI_c (fun k_ k0_ k1_ => by unfold sh2; exact h _ (by omega))
  have z11 : cI E 8 (sh2 b 261) = cI E 8 (sh2 a 261) := cI_c (fun k_ k0_ k1_ => by unfold sh2; exact h _ (by omega))
  have z12 : cI E 8 (sh2 b 277) = cI E 8 (sh2 a 277) := cI_c (fun k_ k0_ k1_ => by unfold sh2; exact h _ (by omega))
  have z13 : cI E 8 (sh2 b 278) = cI E 8 (sh2 a 278) := cI_c (fun k_ k0_ k1_ => by unfold sh2; exact h _ (by omega))
  have z14 : cI E 8 (sh2 b 294) = cI E 8 (sh2 a 294) := cI_c (fun k_ k0_ k1_ => by unfold sh2; exact h _ (by omega))
  have z15 : cI E 8 (sh2 b 295) = cI E 8 (sh2 a 295) := cI_c (fun k_ k0_ k1_ => by unfold sh2; exact h _ (by omega))
  have z16 : (b 225) = (a 225) := h _ (by omega)
  have z17 : (b 242) = (a 242) := h _ (by omega)
  have z18 : (b 259) = (a 259) := h _ (by omega)
  have z19 : (b 276) = (a 276) := h _ (by omega)
  have z20 : (b 293) = (a 293) := h _ (by omega)
  unfold bQP; rw [z1, z2, z3, z4, z5, z6, z7, z8, z9, z10, z11, z12, z13, z14, z15, z16, z17, z18, z19, z20]
set_option maxHeartbeats 1000000 in
theorem bS_c {E : Ev} {R : Nat → Nat} {a b : Int → Int} (h : ∀ j : Int, (21 ≤ j ∧ j ≤ 28) → b j = a j) : bS E R b = bS E R a := by
  have z1 : cI E 8 (sh b 21) = cI E 8 (sh a 21) := cI_c (fun k_ k0_ k1_ => by unfold sh; exact h _ (by omega))
  unfold bS; rw [z1]
set_option maxHeartbeats 1000000 in
theorem bZ_c {E : Ev} {R : Nat → Nat} {a b : Int → Int} (h : ∀ j : Int, (29 ≤ j ∧ j ≤ 34) ∨ (98 ≤ j ∧ j ≤ 103) → b j = a j) : bZ E R b = bZ E R a := by
  have z1 : (b 29) = (a 29) := h _ (by omega)
  have z2 : (b 32) = (a 32) := h _ (by omega)
  have z3 : (b 98) = (a 98) := h _ (by omega)
  have z4 : (b 101) = (a 101) := h _ (by omega)
  have z5 : (b 30) = (a 30) := h _ (by omega)
  have z6 : (b 33) = (a 33) := h _ (by omega)
  have z7 : (b 99) = (a 99) := h _ (by omega)
  have z8 : (b 102) = (a 102) := h _ (by omega)
  have z9 : (b 31) = (a 31) := h _ (by omega)
  have z10 : (b 34) = (a 34) := h _ (by omega)
  have z11 : (b 100) = (a 100) := h _ (by omega)
  have z12 : (b 103) = (a 103) := h _ (by omega)
  unfold bZ; rw [z1, z2, z3, z4, z5, z6, z7, z8, z9, z10, z11, z12]
set_option maxHeartbeats 1000000 in
theorem bN_c {E : Ev} {R : Nat → Nat} {a b : Int → Int} (h : ∀ j : Int, (14 ≤ j ∧ j ≤ 20) → b j = a j) : bN E R b = bN E R a := by
  have z1 : cI E 4 (nF b) = cI E 4 (nF a) := cI_c (fun k_ k0_ k1_ => by exact nF_c (fun j h1 h2 => h j (by omega)) k0_)
  have z2 : cI E 4 (nS b) = cI E 4 (nS a) := cI_c (fun k_ k0_ k1_ => by exact nS_c (fun j h1 h2 => h j (by omega)) k0_)
  unfold bN; rw [z1, z2]
set_option maxHeartbeats 1000000 in
theorem bG_c {E : Ev} {R : Nat → Nat} {a b : Int → Int} (h : ∀ j : Int, (0 ≤ j ∧ j ≤ 13) → b j = a j) : bG E R b = bG E R a := by
  have z1 : (b 5) = (a 5) := h _ (by omega)
  have z2 : (b 4) = (a 4) := h _ (by omega)
  have z3 : (b 0) = (a 0) := h _ (by omega)
  have z4 : (b 1) = (a 1) := h _ (by omega)
  have z5 : (b 2) = (a 2) := h _ (by omega)
  have z6 : (b 3) = (a 3) := h _ (by omega)
  have z7 : (b 6) = (a 6) := h _ (by omega)
  have z8 : (b 7) = (a 7) := h _ (by omega)
  have z9 : (b 8) = (a 8) := h _ (by omega)
  have z10 : (b 9) = (a 9) := h _ (by omega)
  have z11 : (b 10) = (a 10) := h _ (by omega)
  have z12 : (b 11) = (a 11) := h _ (by omega)
  have z13 : (b 12) = (a 12) := h _ (by omega)
  have z14 : (b 13) = (a 13) := h _ (by omega)
  unfold bG; rw [z1, z2, z3, z4, z5, z6, z7, z8, z9, z10, z11, z12, z13, z14]
set_option maxHeartbeats 1000000 in
theorem bV_c {E : Ev} {R : Nat → Nat} {a b : Int → Int} (h : ∀ j : Int, (36 ≤ j ∧ j ≤ 83) → b j = a j) : bV E R b = bV E R a := by
  have z1 : (wsum (sh b 36) cosT 24) = (wsum (sh a 36) cosT 24) := wsum_c 24 (fun k h0 h1 => by unfold sh; exact h _ (by omega))
  have z2 : (wsum (sh b 36) sinT 24) = (wsum (sh a 36) sinT 24) := wsum_c 24 (fun k h0 h1 => by unfold sh; exact h _ (by omega))
  have z3 : (wsum (sh b 60) cosT 24) = (wsum (sh a 60) cosT 24) := wsum_c 24 (fun k h0 h1 => by unfold sh; exact h _ (by omega))
  have z4 : (wsum (sh b 60) sinT 24) = (wsum (sh a 60) sinT 24) := wsum_c 24 (fun k h0 h1 => by unfold sh; exact h _ (by omega))
  have z5 : cI E 24 (sh b 36) = cI E 24 (sh a 36) := cI_c (fun k_ k0_ k1_ => by unfold sh; exact h _ (by omega))
  have z6 : cI E 24 (sh b 60) = cI E 24 (sh a 60) := cI_c (fun k_ k0_ k1_ => by unfold sh; exact h _ (by omega))
  unfold bV; rw [z1, z2, z3, z4, z5, z6]
set_option maxHeartbeats 1000000 in
theorem bE_c {E : Ev} {R : Nat → Nat} {a b : Int → Int} (h : ∀ j : Int, (84 ≤ j ∧ j ≤ 87) → b j = a j) : bE E R b = bE E R a := by
  have z1 : (b 84) = (a 84) := h _ (by omega)
  have z2 : (b 85) = (a 85) := h _ (by omega)
  have z3 : (b 86) = (a 86) := h _ (by omega)
  have z4 : (b 87) = (a 87) := h _ (by omega)
  unfold bE; rw [z1, z2, z3, z4]
set_option maxHeartbeats 1000000 in
theorem bL_c {E : Ev} {R : Nat → Nat} {a b : Int → Int} (h : ∀ j : Int, (104 ≤ j ∧ j ≤ 224) → b j = a j) : bL E R b = bL E R a := by
  have z1 : cI E 60 (sh2 b 105) = cI E 60 (sh2 a 105) := cI_c (fun k_ k0_ k1_ => by unfold sh2; exact h _ (by omega))
  have z2 : cI E 60 (sh2 b 106) = cI E 60 (sh2 a 106) := cI_c (fun k_ k0_ k1_ => by unfold sh2; exact h _ (by omega))
  have z3 : (b 104) = (a 104) := h _ (by omega)
  unfold bL; rw [z1, z2, z3]
set_option maxHeartbeats 1000000 in
theorem bI_c {E : Ev} {R : Nat → Nat} {a b : Int → Int} (x y d : Int) (h : ∀ j : Int, (91 ≤ j ∧ j ≤ 91) → b j = a j) : bI E R b x y d = bI E R a x y d := by
  have z1 : (b 91) = (a 91) := h _ (by omega)
  unfold bI; rw [z1]
def relW (E : Ev) (R : Nat → Nat) (a : Int → Int) (x y d : Int) : va_W := [bH E R a, bQP E R a, bS E R a, bZ E R a, bN E R a, bG E R a, bV E R a, bE E R a, bI E R a x y d, bL E R a].flatten
theorem relW_c {E : Ev} {R : Nat → Nat} {a b : Int → Int} {x y d : Int} (hn : ∀ p : Int, 0 ≤ p → p < 5 → 0 ≤ a (225 + 17 * p) ∧ a (225 + 17 * p) ≤ 8) (h : ∀ j : Int, 0 ≤ j → j < 310 → b j = a j) : relW E R b x y d = relW E R a x y d := by
  have g : ∀ {lo hi : Int}, 0 ≤ lo → hi < 310 → ∀ j : Int, lo ≤ j ∧ j ≤ hi → b j = a j := fun h0 h1 j hj => h j (by omega) (by omega)
  unfold relW
  rw [bH_c (a := a) (b := b) (fun j hj => h j (by omega) (by omega)), bQP_c (a := a) (b := b) hn (fun j hj => h j (by omega) (by omega)), bS_c (a := a) (b := b) (fun j hj => h j (by omega) (by omega)), bZ_c (a := a) (b := b) (fun j hj => h j (by omega) (by omega)), bN_c (a := a) (b := b) (fun j hj => h j (by omega) (by omega)), bG_c (a := a) (b := b) (fun j hj => h j (by omega) (by omega)), bV_c (a := a) (b := b) (fun j hj => h j (by omega) (by omega)), bE_c (a := a) (b := b) (fun j hj => h j (by omega) (by omega)), bI_c (a := a) (b := b) x y d (fun j hj => h j (by omega) (by omega)), bL_c (a := a) (b := b) (fun j hj => h j (by omega) (by omega))]
def oX (E : Ev) (X R CC : Nat → Nat) : va_W := [((X 0), .inr (11, [vR (R 0), vR (CC 0), vR (X 1), vR (X 2), vR (X 3), vR (X 4), vR (X 5), vR (X 6), vR (X 9)]))]
def oS (E : Ev) (X : Nat → Nat) (u v_ : Option Nat) : va_W := [((X 1), cQ E 6 2 (sq u v_))]
def jP (q : Nat) (w : va_W) : Prop := ∃ v0 v1 v2 v3 : Int, w = [(q, .inr (4, [vI v0, vI v1, vI v2, vI v3]))]
def jI (q : Nat) (w : va_W) : Prop := ∃ z0 x0 y0 d0 : Int, w = [(q, .inr (1, [vI z0, vL x0, vL y0, vL d0]))]
def jR (E : Ev) (X : Nat → Nat) (w : va_W) : Prop := ∃ (m w8 g d v : Int) (XX YY : Int → Int), w = [((X 6), .inr (6, [vR (X 7), vR (X 8), vI m, vI w8, vI g, vI d, vI v])), ((X 7), cI E 8 XX), ((X 8), cI E 8 YY)]
def jS (E : Ev) (q : Nat) (w : va_W) : Prop := ∃ (b N : Nat) (ml n : Int) (t : Int → Int), CP N ∧ BX N t ∧ (0 ≤ n ∧ n ≤ 1000) ∧ w = [(q, .inr (0, [vR b, vI 0, vI ml, vI n])), (b, cB E N t)]
def jC (E : Ev) (R : Nat → Nat) (w : va_W) : Prop := ∃ (a : Int → Int) (x y d : Int), w = relW E R a x y d
def tl (t : Int → Int) (n : Int) : List Int := (List.range n.toNat).map (fun (i : Nat) => t (i : Int))
theorem tl_len (t : Int → Int) {n : Int} (h : 0 ≤ n) : n = ((tl t n).length : Int) := by unfold tl; rw [List.length_map, List.length_range]; omega
theorem tl_TX {t u : Int → Int} {n : Int} : TX u (tl t n) ↔ ∀ k : Int, 0 ≤ k → k < n → u k = t k := by
  unfold tl
  constructor
  · intro h k h0 h1
    have g := h k.toNat (t ((k.toNat : Nat) : Int)) (by rw [List.getElem?_map, List.getElem?_range (by omega)]; rfl)
    rw [show ((k.toNat : Nat) : Int) = k by omega] at g; exact g
  · intro h k c hk
    have hl : k < n.toNat := by have := TX_lt hk; rw [List.length_map, List.length_range] at this; exact this
    rw [List.getElem?_map, List.getElem?_range hl] at hk
    cases hk; exact h k (by omega) (by omega)
theorem tl_s {t u : Int → Int} {n c : Int} (h0 : 0 ≤ n) (h : TX u (tl t n ++ [c])) : TX u (tl (ua t n c) (n + 1)) := by
  rw [tl_TX]; intro k h1 h2
  by_cases e : k = n
  · subst e; rw [ua_eq]
    have e2 := tl_len t h0
    have g := h (tl t k).length c (by rw [List.getElem?_append_right (Nat.le_refl _), Nat.sub_self]; rfl)
    rw [← e2] at g; exact g
  · rw [ua_ne e]
    have g : TX u (tl t n) := fun j d hj => h j d (by rw [List.getElem?_append_left (TX_lt hj)]; exact hj)
    exact tl_TX.mp g k h1 (by omega)
def pS (E : Ev) (q : Nat) (tx : Int → Int) (pn : Int) (w : va_W) : Prop := ∃ (b N : Nat) (ml : Int) (t : Int → Int), CP N ∧ BX N t ∧ TX t (tl tx pn) ∧ pn ≤ (N : Int) ∧ w = [(q, .inr (0, [vR b, vI 0, vI ml, vI pn])), (b, cB E N t)]
def sS (E : Ev) (o : Option Nat) (a : Int → Int) (f : Int) (w : va_W) : Prop := (f = 0 ∧ o = none ∧ w = []) ∨ (f = 1 ∧ ∃ (S : Nat → Nat) (x y d : Int), o = some (S 0) ∧ IR a x y d ∧ w = relW E S a x y d)
def xB (E : Ev) (X R CC : Nat → Nat) (a : Int → Int) (x y d : Int) (o0 o1 : Option Nat) (wc w2 w3 w4 wp wr ws wa wb : va_W) : List va_W := [oX E X R CC, bH E R a, bQP E R a, bS E R a, bZ E R a, bN E R a, bG E R a, bV E R a, bE E R a, bI E R a x y d, bL E R a, wc, oS E X o0 o1, w2, w3, w4, wp, wr, ws, wa, wb]
def XS (E : Ev) (a tx s3 s4 : Int → Int) (pn : Int) (q : Nat) (w : va_W) : Prop :=
  ∃ (X R CC : Nat → Nat) (x y d : Int) (o0 o1 : Option Nat) (wc w2 w3 w4 wp wr ws wa wb : va_W), X 0 = q ∧ IR a x y d ∧ jC E CC wc ∧ jP (X 2) w2 ∧ jP (X 3) w3 ∧ jI (X 4) w4 ∧ pS E (X 5) tx pn wp ∧ jR E X wr ∧ jS E (X 9) ws ∧ sS E o0 s3 (s4 0) wa ∧ sS E o1 (fun k => s3 (310 + k)) (s4 1) wb ∧
    w.Perm (xB E X R CC a x y d o0 o1 wc w2 w3 w4 wp wr ws wa wb).flatten
def MS (E : Ev) (a tx s3 s4 : Int → Int) (pn : Int) (q : Nat) (w : va_W) : Prop :=
  ∃ (Q : Nat → Nat) (f0 f1 f2 f3 px py pb rg wr rn wn : Int) (s2 rr ww : Int → Int), Q 0 = q ∧ w = [((Q 0), .inr (12, [vR (Q 1), vR (Q 2), vR (Q 3), vR (Q 4), vR (Q 5), vI pn, vR (Q 6), vL f0, vL f1, vL f2, vL f3, vL px, vL py, vL pb, vI rg, vI wr, vR (Q 7), vI rn, vR (Q 8), vI wn])), ((Q 1), cL E 310 a), ((Q 2), cL E 310 s2), ((Q 3), cL E 620 s3), ((Q 4), cZ E 2 s4), ((Q 5), cI E 80 tx), ((Q 6), cI E 24 cosT), ((Q 7), cI E 16 rr), ((Q 8), cI E 120 ww)]
