/-! class and reference side by side: what holds between the calls -/
theorem F_sel_yes {α : Type} {e : Nat} (h : e = 0) (x y : α) : F_sel e x y = x := by rw [h]; rfl
theorem F_sel_no {α : Type} {e : Nat} (h : ¬ e = 0) (x y : α) : F_sel e x y = y := if_neg h
abbrev jK (jk : A32) : Nat → Nat := fun i => ix (jk i)
def R_fil (sl st tl so : A32) (n t : Nat) : Prop := n ≤ 40 ∧ (∀ k, n ≤ k → st k = 0) ∧ (∀ i, i < n → ∃ c, c < 360 ∧ sl i = nI c) ∧ (∀ i, i < n → ∃ c, c ≤ t ∧ tl i = nI c) ∧ (∀ i, ∃ c, c ≤ t ∧ so i = nI c) ∧ (∀ i, i < n → F_due (st i) (tl i) (so i) (nI t) = 0)
def R_lim (st lm ag : A32) (n : Nat) : Prop := (∀ i j, i < n → j < n → ¬ i = j → 0 ≤ lm (i * 40 + j)) ∧ (∀ i j, i < n → j < n → ¬ i = j → ¬ st i = 4 → ¬ st j = 4 → lm (i * 40 + j) = G_free ag i j) ∧ (∀ i j, i < 40 → j < 40 → n ≤ i ∨ n ≤ j → ag (40 * i + j) = -1)
def R_sat (ss hw ax : A32) (ns : Nat) : Prop := ns ≤ 16 ∧ (∀ k, ns ≤ k → hw k = 0) ∧ (∀ i, i < ns → ∃ c, 1 ≤ c ∧ c < 256 ∧ ss i = nI c) ∧ (∀ i, i < ns → ¬ hw i = 1 → ∃ c, c < 360 ∧ ax i = nI c)
def R_row (T : T5) (s l v t o : Int32) : Prop := T.1 = s ∧ T.2.1 = l ∧ T.2.2.1 = v ∧ T.2.2.2.1 = t ∧ (s = 3 → T.2.2.2.2 = o)
def R_jou (sl st sv tl so jk jd js jt : A32) (jn n : Nat) (td : Int32) : Prop := (∀ i, i < jn → jk i = nI (jK jk i) ∧ jK jk i < 8) ∧ (∀ i, i < jn → jK jk i ≤ 5 → ∃ m, m < n ∧ js i = nI m) ∧ (∀ f, f < n → ∀ el et eo : Int32, R_row (F_reach td (F_exam (nI f) (jK jk) jd js jt ((-1), el, (-1), et, eo) jn)) (st f) (sl f) (sv f) (tl f) (so f))
def ZR (k : Nat) (td : Int32) (sl st sv tl so lm : A32) (n : Nat) (ss hw ax : A32) (ns : Nat) (jk jd js jt : A32) (jn : Nat) (ag : A32) : Prop := ∃ t, td = nI t ∧ t ≤ 5000 ∧ jn ≤ k ∧ R_fil sl st tl so n t ∧ R_lim st lm ag n ∧ R_sat ss hw ax ns ∧ R_jou sl st sv tl so jk jd js jt jn n td
theorem z_cmp {a b : Int64} (h : a = b) : lg_cmp a b = 0 := by subst h; simp [lg_cmp]
theorem z_nz {e : Nat} (h : ¬ e = 0) (h4 : e < 4) : ¬ nI e = 0 := by
  rcases (show e = 1 ∨ e = 2 ∨ e = 3 by omega) with rfl | rfl | rfl <;> decide
def ZLw (D : va_G) (cI cJ cZ : ClassId) (a : Nat → Nat) (A : Nat → Prop) (k : Nat) (H : Heap) : Prop := ∃ (px : A32) (py : A64) (td : Int32) (ld : A32) (sl : A32) (bd : A32) (pw : A32) (dt : A32) (st : A32) (uc : A32) (sv : A32) (tl : A32) (so : A32) (lm : A32) (n : Nat) (nd : Int32) (ss : A32) (rg : A32) (hw : A32) (ax : A32) (fu : A32) (si : A32) (au : A32) (ns : Nat) (jk : A32) (jd : A32) (js : A32) (jt : A32) (jn : Nat) (ef : Int32) (es : Int32) (el : Int32) (ev : Int32) (et : Int32) (eo : Int32) (th : Int32) (pg : A32) (ag : A32) (ou : A64), ZR k td sl st sv tl so lm n ss hw ax ns jk jd js jt jn ag ∧ va_P D vwCl ((wOr cI cJ cZ a px py td) ++ ((wFi cI cJ cZ a ld sl bd pw dt st uc sv tl so lm n nd) ++ ((wSa cI cJ cZ a ss rg hw ax fu si au ns) ++ ((wJo cI cJ cZ a jk jd js jt jn) ++ ((wEx cI cJ cZ a ef es el ev et eo) ++ ((wOu cI cJ cZ a ou) ++ (wMo cI cJ cZ a th td nd n ld sl bd pw dt st uc sv tl so ag ns ss rg hw ax fu si au px pg py))))))) H ∧ va_D A ((wOr cI cJ cZ a px py td) ++ ((wFi cI cJ cZ a ld sl bd pw dt st uc sv tl so lm n nd) ++ ((wSa cI cJ cZ a ss rg hw ax fu si au ns) ++ ((wJo cI cJ cZ a jk jd js jt jn) ++ ((wEx cI cJ cZ a ef es el ev et eo) ++ ((wOu cI cJ cZ a ou) ++ (wMo cI cJ cZ a th td nd n ld sl bd pw dt st uc sv tl so ag ns ss rg hw ax fu si au px pg py)))))))
theorem z_sld {p : Program} {l : Launch} {e : Env} {R : Room} {s : State} {m : MethodId} {args : Array Value} {below : List Frame} {meth : Method} {c : Code} {H : Heap} {locs : List Loc} {cells slots : Nat} {Q : State → Prop} {cc : ByteArray} {pc : Nat} {ls : Array Slot} {rest : List Value} {A : Nat → Prop} {H0 : Heap} (hexec : p.tables.exec = Jvm.exec) (hb : c.code = cc) {b L : Nat} {xs : Nat → Int32} (hX : va_X b L xs s H0) (hbl : b < H0.size) (hbA : ¬ A b) (hS : va_S A H0 H locs) (hL : L ≤ 2560) {i : Int32} (j : Nat) (hi : i = nI j) (hj : j < L) (hdg : decode cc pc = .ok (.iaload, 1))
    (kk : W p l e R s m args below meth c H locs cells slots Q (F0 m (pc + 1) ls (.int (xs j) :: rest))) : W p l e R s m args below meth c H locs cells slots Q (F0 m pc ls (.int i :: .ref b :: rest)) := by
  subst hi
  refine va_sld hexec hb hX hbl hbA hS (vp_in_nI hj (by omega)) hdg ?_
  rw [nI_clamp (by omega)]
  exact kk
theorem vp_updL_0 (f : A64) (x : Int64) : vp_updL f 0 x 0 = x := by simp [vp_updL]
abbrev ZGo (p : Program) (l : Launch) (e : Env) (s : State) (m : MethodId) (below : List Frame) (meth : Method) (c : Code) (b L : Nat) (xs : Nat → Int32) (D : va_G) (cI cJ cZ : ClassId) (a : Nat → Nat) (A : Nat → Prop) (k : Nat) (H : Heap) (locs : List Loc) (cells slots : Nat) (Q : State → Prop) (ls : Array Slot) (pc : Nat) : Prop :=
  p.tables.exec = Jvm.exec → c.code = code → c.maxLocals = 8 → s.vm.findClass RL = some m.cls → (∀ w ∈ wsL_law, w.before #[.ref b] s = true) → va_X b L xs s s.heap → b < s.heap.size → ¬ A b → (∀ q : Nat, s.heap.size ≤ q → A q) → va_K D vwCl (zt cI cJ cZ) s → ZX A s → l.stackTraces = false → 5 * k + 5 ≤ L → L ≤ 2560 → k < 512 → va_S A s.heap H locs →
  lv_has ls 8 [(0, .ref b), (1, .ref (a 0)), (2, .ref (a 30)), (3, .ref (a 60)), (4, .int (nI (5 * k)))] → cells + 1 ≤ room_1.cells → slots + 6 ≤ room_1.slots →
  (∀ (H : Heap) (locs : List Loc) (ls : Array Slot), ZLw D cI cJ cZ a A (k + 1) H → va_S A s.heap H locs → lv_has ls 8 [(0, .ref b), (1, .ref (a 0)), (2, .ref (a 30)), (3, .ref (a 60)), (4, .int (nI (5 * k)))] → W p l e room_1 s m #[Value.ref b] below meth c H locs (cells + 1) (slots + 6) Q (F0 m 1941 ls [])) →
  W p l e room_1 s m #[Value.ref b] below meth c H locs cells slots Q (F0 m pc ls [])
theorem z_le6 {x y : Nat} (h : x + 6 ≤ y) : x + 0 ≤ y := by omega
theorem ZR.mono {k : Nat} {td : Int32} {sl st sv tl so lm : A32} {n : Nat} {ss hw ax : A32} {ns : Nat} {jk jd js jt : A32} {jn : Nat} {ag : A32} (h : ZR k td sl st sv tl so lm n ss hw ax ns jk jd js jt jn ag) : ZR (k + 1) td sl st sv tl so lm n ss hw ax ns jk jd js jt jn ag := by
  obtain ⟨t, h1, h2, h3, h4⟩ := h
  exact ⟨t, h1, h2, Nat.le_succ_of_le h3, h4⟩
theorem q_ax10 : ∀ c, c < 360 → nI c / 10 = nI (c / 10) := by decide +kernel
theorem q_many : ∀ c, c < 256 → 1 ≤ c → ¬ G_many (nI c) 8 = 0 := by decide +kernel
theorem R_hax {ss hw ax : A32} {ns : Nat} (h : R_sat ss hw ax ns) : ∀ i, i < ns → ¬ hw i = 1 → ∃ k, k < 36 ∧ ax i / 10 = nI k := fun i hi hw1 => by
  obtain ⟨c, hc, e⟩ := h.2.2.2 i hi hw1
  exact ⟨c / 10, by omega, by rw [e]; exact q_ax10 c hc⟩
theorem R_hmy {ss hw ax : A32} {ns : Nat} (h : R_sat ss hw ax ns) : ∀ i, i < ns → ¬ G_many (ss i) 8 = 0 := fun i hi => by
  obtain ⟨c, h1, h2, e⟩ := h.2.2.1 i hi
  rw [e]
  exact q_many c h2 h1
