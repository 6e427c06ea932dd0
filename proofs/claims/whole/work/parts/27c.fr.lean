/-! a contract over a larger world: the rest stays -/
theorem P_of {D : va_G} {cl : List vw_C} {ws : va_W} {H : Heap} (h : va_P D cl ws H) {q : Nat × va_E} (hq : q ∈ ws) : va_at D cl q H := by
  obtain ⟨i, hi⟩ := List.getElem?_of_mem hq
  exact h i q hi
theorem P_mk {D : va_G} {cl : List vw_C} {ws : va_W} {H : Heap} (h : ∀ q, q ∈ ws → va_at D cl q H) : va_P D cl ws H := fun k q hk => h q (List.mem_of_getElem? hk)
theorem D_cons {A : Nat → Prop} {q : Nat × va_E} {ws : va_W} : va_D A (q :: ws) ↔ (∀ r, r ∈ ws → ¬ r.1 = q.1) ∧ A q.1 ∧ va_D A ws := by
  constructor
  · intro h
    refine ⟨fun r hr e => ?_, h.2 0 q rfl, ⟨fun i j p r hi hj e => ?_, fun k r hk => h.2 (k + 1) r hk⟩⟩
    · obtain ⟨i, hi⟩ := List.getElem?_of_mem hr
      have := h.1 (i + 1) 0 r q hi rfl e
      omega
    · have := h.1 (i + 1) (j + 1) p r hi hj e
      omega
  · rintro ⟨h1, h2, h3⟩
    refine ⟨fun i j p r hi hj e => ?_, fun k r hk => ?_⟩
    · cases i with
      | zero =>
        cases j with
        | zero => rfl
        | succ j =>
          cases hi
          exact absurd e.symm (h1 r (List.mem_of_getElem? (show ws[j]? = some r from hj)))
      | succ i =>
        cases j with
        | zero =>
          cases hj
          exact absurd e (h1 p (List.mem_of_getElem? (show ws[i]? = some p from hi)))
        | succ j =>
          have := h3.1 i j p r hi hj e
          omega
    · cases k with
      | zero => cases hk; exact h2
      | succ k => exact h3.2 k r hk
theorem D_iff {A : Nat → Prop} : ∀ {ws : va_W}, va_D A ws ↔ (ws.map Prod.fst).Nodup ∧ ∀ q, q ∈ ws → A q.1
  | [] => ⟨fun _ => ⟨List.nodup_nil, fun q h => absurd h List.not_mem_nil⟩, fun _ => ⟨(fun i j p q h => by cases h), (fun k q h => by cases h)⟩⟩
  | q :: ws => by
    rw [D_cons, D_iff (ws := ws), List.map_cons, List.nodup_cons]
    constructor
    · rintro ⟨h1, h2, h3, h4⟩
      refine ⟨⟨fun hm => ?_, h3⟩, fun r hr => ?_⟩
      · obtain ⟨r, hr, e⟩ := List.mem_map.mp hm
        exact h1 r hr e
      · rcases List.mem_cons.mp hr with e | hr
        · rw [e]; exact h2
        · exact h4 r hr
    · rintro ⟨⟨h1, h2⟩, h3⟩
      exact ⟨fun r hr e => h1 (List.mem_map.mpr ⟨r, hr, e⟩), h3 q List.mem_cons_self, h2, fun r hr => h3 r (List.mem_cons_of_mem _ hr)⟩
theorem D_perm {A : Nat → Prop} {w v : va_W} (h : w.Perm v) (hD : va_D A w) : va_D A v := by
  have q := D_iff.mp hD
  exact D_iff.mpr ⟨(h.map Prod.fst).nodup_iff.mp q.1, fun r hr => q.2 r (h.mem_iff.mpr hr)⟩
theorem P_perm {D : va_G} {cl : List vw_C} {w v : va_W} {H : Heap} (h : w.Perm v) (hP : va_P D cl w H) : va_P D cl v H := P_mk fun q hq => P_of hP (h.mem_iff.mpr hq)
theorem D_app {A : Nat → Prop} {w v : va_W} (h : va_D A (w ++ v)) : va_D A w ∧ va_D A v ∧ ∀ p q, p ∈ w → q ∈ v → ¬ p.1 = q.1 := by
  have q := D_iff.mp h
  rw [List.map_append, List.nodup_append] at q
  refine ⟨D_iff.mpr ⟨q.1.1, fun r hr => q.2 r (List.mem_append.mpr (Or.inl hr))⟩, D_iff.mpr ⟨q.1.2.1, fun r hr => q.2 r (List.mem_append.mpr (Or.inr hr))⟩, fun r t hr ht e => ?_⟩
  exact q.1.2.2 r.1 (List.mem_map.mpr ⟨r, hr, rfl⟩) t.1 (List.mem_map.mpr ⟨t, ht, rfl⟩) e
theorem A_mem {ws : va_W} {sz q : Nat} : va_A ws sz q ↔ (∃ r, r ∈ ws ∧ r.1 = q) ∨ sz ≤ q := by
  unfold va_A
  constructor
  · rintro (⟨k, e, h⟩ | h)
    · exact Or.inl ⟨(q, e), List.mem_of_getElem? h, rfl⟩
    · exact Or.inr h
  · rintro (⟨r, h, rfl⟩ | h)
    · obtain ⟨i, hi⟩ := List.getElem?_of_mem h
      exact Or.inl ⟨i, r.2, hi⟩
    · exact Or.inr h
theorem Mc.frame {l : Launch} {y : MethodName} {wy : List Cond} {rm : Room} {E : Ev} {av : List Value} {wc wr ws : va_W} {mc ms : Nat} {Post : Option Value → va_W → Prop} (hM : Mc l y wy rm E av wc mc ms Post) (hp : ws.Perm (wr ++ wc)) :
    Mc l y wy rm E av ws mc ms (fun v w => ∃ w1, Post v w1 ∧ w = wr ++ w1) := by
  intro sz
  have hA : ∀ q, va_A wc sz q → va_A ws sz q := fun q h => by
    rcases A_mem.mp h with ⟨r, hr, e⟩ | h
    · exact A_mem.mpr (Or.inl ⟨r, hp.mem_iff.mpr (List.mem_append.mpr (Or.inr hr)), e⟩)
    · exact A_mem.mpr (Or.inr h)
  refine MetFree.mono (hM sz) ?_ (fun _ _ _ _ _ h => h) ?_
  · rintro a s ⟨ha, hs, hP, hD, hE, hZ⟩
    have hP2 := P_perm hp hP
    exact ⟨ha, hs, P_mk fun q hq => P_of hP2 (List.mem_append.mpr (Or.inr hq)), (D_app (D_perm hp hD)).2.1, hE, hZ.narrow hA⟩
  · rintro a s o t ⟨ha, hs, hP, hD, hE, hZ⟩ ⟨⟨⟨v, w1, ho, hq, hP1, hD1⟩, hF⟩, L, hL1, hL2⟩
    have hP2 := P_perm hp hP
    obtain ⟨dr, dc, dx⟩ := D_app (D_perm hp hD)
    have hn : ∀ q, q ∈ wr → q.1 < s.heap.size ∧ ¬ va_A wc sz q.1 := fun q hq => by
      have hl := (P_of hP2 (List.mem_append.mpr (Or.inl hq))).lt
      refine ⟨hl, fun h => ?_⟩
      rcases A_mem.mp h with ⟨r, hr, e⟩ | h
      · exact dx q r hq hr e.symm
      · rw [← hs] at h; omega
    refine ⟨⟨⟨v, wr ++ w1, ho, ⟨w1, hq, rfl⟩, P_mk fun q hq => ?_, ?_⟩, hF.1, fun q h1 h2 => hF.2 q h1 (fun z => h2 (hA q z))⟩, L, hL1, fun q hq => hA _ (hL2 q hq)⟩
    · rcases List.mem_append.mp hq with hq | hq
      · exact (P_of hP2 (List.mem_append.mpr (Or.inl hq))).kept (hF.2 q.1 (hn q hq).1 (hn q hq).2)
      · exact P_of hP1 hq
    · refine va_D.app (D_iff.mpr ⟨(D_iff.mp dr).1, fun q hq => A_mem.mpr (Or.inl ⟨q, hp.mem_iff.mpr (List.mem_append.mpr (Or.inl hq)), rfl⟩)⟩) (hD1.weaken fun k q _ h => hA _ h) (fun i j x y hx hy e => ?_)
      have h1 := (hn x (List.mem_of_getElem? hx)).2
      exact h1 (by rw [e]; exact hD1.2 j y hy)
theorem Mc.post {l : Launch} {y : MethodName} {wy : List Cond} {rm : Room} {E : Ev} {av : List Value} {wc : va_W} {mc ms : Nat} {Post Post' : Option Value → va_W → Prop} (hM : Mc l y wy rm E av wc mc ms Post) (h : ∀ v w, Post v w → Post' v w) : Mc l y wy rm E av wc mc ms Post' := by
  intro sz
  refine MetFree.mono (hM sz) (fun _ _ h => h) (fun _ _ _ _ _ h => h) ?_
  rintro a s o t _ ⟨⟨⟨v, w1, ho, hq, hP1, hD1⟩, hF⟩, hL⟩
  exact ⟨⟨⟨v, w1, ho, h _ _ hq, hP1, hD1⟩, hF⟩, hL⟩
/-! worlds in blocks -/
def pk (bs : List va_W) (is : List Nat) : va_W := (is.map (fun i => bs.getD i [])).flatten
theorem pk_perm (bs : List va_W) (js is : List Nat) (h : (js ++ is).Perm (List.range bs.length)) : bs.flatten.Perm (pk bs js ++ pk bs is) := by
  unfold pk
  rw [← List.flatten_append, ← List.map_append]
  have e : (List.range bs.length).map (fun i => bs.getD i []) = bs := by
    apply List.ext_getElem
    · simp
    · intro i h1 h2
      simp [h2]
  have p := (h.map (fun i => bs.getD i [])).symm.flatten
  rw [e] at p
  exact p
