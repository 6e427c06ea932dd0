theorem pk_p {bs : List va_W} {js is : List Nat} (hn : bs.length = 21) (h : (js ++ is).Perm (List.range 21)) : bs.flatten.Perm (pk bs js ++ pk bs is) := pk_perm bs js is (by rw [hn]; exact h)
theorem xB_c {E : Ev} {X R CC : Nat → Nat} {a b : Int → Int} {x y d : Int} {o0 o1 : Option Nat} {wc w2 w3 w4 wp wr ws wa wb : va_W} (hn : ∀ p : Int, 0 ≤ p → p < 5 → 0 ≤ a (225 + 17 * p) ∧ a (225 + 17 * p) ≤ 8) (h : ∀ j : Int, 0 ≤ j → j < 310 → b j = a j) : xB E X R CC b x y d o0 o1 wc w2 w3 w4 wp wr ws wa wb = xB E X R CC a x y d o0 o1 wc w2 w3 w4 wp wr ws wa wb := by
  unfold xB
  rw [bH_c (a := a) (b := b) (fun j hj => h j (by omega) (by omega)), bQP_c (a := a) (b := b) hn (fun j hj => h j (by omega) (by omega)), bS_c (a := a) (b := b) (fun j hj => h j (by omega) (by omega)), bZ_c (a := a) (b := b) (fun j hj => h j (by omega) (by omega)), bN_c (a := a) (b := b) (fun j hj => h j (by omega) (by omega)), bG_c (a := a) (b := b) (fun j hj => h j (by omega) (by omega)), bV_c (a := a) (b := b) (fun j hj => h j (by omega) (by omega)), bE_c (a := a) (b := b) (fun j hj => h j (by omega) (by omega)), bI_c (a := a) (b := b) x y d (fun j hj => h j (by omega) (by omega)), bL_c (a := a) (b := b) (fun j hj => h j (by omega) (by omega))]
theorem sS_c {E : Ev} {o : Option Nat} {a b : Int → Int} {f g : Int} {w : va_W} (h : sS E o a f w) (hg : g = f) (hI : f = 1 → ∃ B, Inv a B) (hj : ∀ j : Int, 0 ≤ j → j < 310 → b j = a j) : sS E o b g w := by
  subst hg
  rcases h with h | ⟨h1, S, x, y, d, h2, h3, h4⟩
  · exact Or.inl h
  · obtain ⟨B, hI⟩ := hI h1
    exact Or.inr ⟨h1, S, x, y, d, h2, IR_c (fun j q => hj j (by omega) (by omega)) h3, by rw [h4, relW_c hI.2.2.2.2.2.2.2.2.2.2.2.2.2.2.2.2.2.2.2.2.1 hj]⟩
