/-! a contract in a larger room -/
def rmU (mc ms : Nat) : Room := { frames := 12, cells := mc, slots := ms, locals := 500 }
theorem Mc.room {l : Launch} {y : MethodName} {wy : List Cond} {rm rm2 : Room} {E : Ev} {av : List Value} {wc : va_W} {mc ms : Nat} {Post : Option Value → va_W → Prop} (hM : Mc l y wy rm E av wc mc ms Post) (hf : rm.frames ≤ rm2.frames) (hl : rm.locals ≤ rm2.locals) (hc : rm.cells = rm2.cells) (hs : rm.slots = rm2.slots) : Mc l y wy rm2 E av wc mc ms Post := by
  intro sz p e ha hcs hk s m args below hfr happ hP hK
  obtain ⟨a1, a2, a3, a4, a5, a6, a7, a8⟩ := (Spec.appliesLoose_iff hfr).mp happ
  refine hM sz p e ha hcs hk s m args below hfr ((Spec.appliesLoose_iff hfr).mpr ⟨a1, a2, a3, a4, a5, a6, ?_, a8⟩) hP hK
  have a7 : s.hasRoom e.platform rm2 = true := a7
  show s.hasRoom e.platform rm = true
  simp only [State.hasRoom, Bool.and_eq_true, decide_eq_true_eq] at a7 ⊢
  obtain ⟨⟨⟨⟨y1, a, b, c, d, e1⟩, f⟩, g⟩, i⟩ := a7
  exact ⟨⟨⟨⟨by omega, by omega, by omega, by omega, by omega, e1⟩, by omega⟩, by omega⟩, i⟩
theorem pk_f {L1 L2 : List va_W} {js : List Nat} (h : ∀ i, i ∈ js → L1.getD i [] = L2.getD i []) : pk L1 js = pk L2 js := by
  unfold pk; rw [List.map_congr_left h]
theorem IR_c {a b : Int → Int} {x y d : Int} (h : ∀ j : Int, 91 ≤ j ∧ j ≤ 93 → b j = a j) (hR : IR a x y d) : IR b x y d := by
  intro h1
  rw [h 91 (by decide)] at h1
  have r := hR h1
  exact ⟨r.1, r.2.1, r.2.2.1, by rw [h 92 (by decide)]; exact r.2.2.2.1, by rw [h 93 (by decide)]; exact r.2.2.2.2⟩
/-- the state of both sides, in its ranges -/
def ST (a tx s3 s4 : Int → Int) (pn B : Int) : Prop :=
  Inv a B ∧ (∀ k : Int, 0 ≤ k → k < pn → ch (tx k)) ∧ (0 ≤ pn ∧ pn ≤ 80) ∧ (s4 0 = 0 ∨ s4 0 = 1) ∧ (s4 1 = 0 ∨ s4 1 = 1) ∧ (s4 0 = 1 → Inv s3 B) ∧ (s4 1 = 1 → Inv (fun k => s3 (310 + k)) B)
theorem sv_a {a b : Int → Int} {s j : Int} (h : 310 * s ≤ j ∧ j < 310 * s + 310) : cpyT a b 0 (310 * s) 310 j = a (j - 310 * s) := by
  unfold cpyT; rw [if_pos (by omega)]; congr 1; omega
theorem sv_o {a b : Int → Int} {s j : Int} (h : ¬ (310 * s ≤ j ∧ j < 310 * s + 310)) : cpyT a b 0 (310 * s) 310 j = b j := by
  unfold cpyT; rw [if_neg (by omega)]
theorem rs_a {a b : Int → Int} {s j : Int} (h : 0 ≤ j ∧ j < 310) : cpyT b a (310 * s) 0 310 j = b (310 * s + j) := by
  unfold cpyT; rw [if_pos (by omega)]; congr 1; omega
theorem Inv_c {a b : Int → Int} {B : Int} (h : ∀ j : Int, 0 ≤ j → j < 310 → b j = a j) (hI : Inv a B) : Inv b B := by
  refine rg_Inv (fun j => ?_) (by rw [h 4 (by decide) (by decide), h 5 (by decide) (by decide)]; exact hI.2.1.2.1)
  by_cases q : 0 ≤ j ∧ j < 310
  · rw [h j q.1 q.2]; exact Inv_rg hI j
  · unfold rg; (repeat' (first | apply And.intro | intro _)) <;> omega
theorem lod_o {a : Int → Int} {p j : Int} {X Y : Int → Int} (hp : 0 ≤ p ∧ p ≤ 4) (h : ¬ (225 + 17 * p ≤ j ∧ j ≤ 241 + 17 * p)) : ∀ n : Nat, n ≤ 8 → s_lod a p X Y n j = a j
  | 0, _ => ua_ne (by omega)
  | n + 1, hn => by
    have e := lod_n (a := a) (p := p) (X := X) (Y := Y) n
    show s_app (s_lod a p X Y n) p (X n) (Y n) j = a j
    rw [app_o hp (by rw [e]; omega) h]; exact lod_o hp h n (by omega)
