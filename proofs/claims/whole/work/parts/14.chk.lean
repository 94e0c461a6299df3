theorem k_X4_checkLand_1 : (Cond.classLink RX4 277 "java/lang/IndexOutOfBoundsException") ∈ wsX4_checkLand := List.mem_of_getElem? (i := 1) rfl
theorem k_X4_checkLand_2 : (Cond.initialized "java/lang/IndexOutOfBoundsException") ∈ wsX4_checkLand := List.mem_of_getElem? (i := 2) rfl
theorem b_X4_checkLand_vx_atSRX4281javalangInde : ∀ w ∈ (vx_atS RX4 281 "java/lang/IndexOutOfBoundsException" ["java/lang/RuntimeException", "java/lang/Exception"]).filter goodWord, w ∈ wsX4_checkLand := fun _ h => List.mem_cons_of_mem _ (List.mem_append_right _ h)
set_option maxHeartbeats 4000000 in
set_option maxRecDepth 100000 in
theorem c_X4_checkLand (l : Launch) (hflg : l.stackTraces = false) (D : va_G) (cI cJ cZ : ClassId) (a : Nat → Nat) (sz : Nat) (px : A32) (py : A64) (td : Int32) (ld : A32) (sl : A32) (bd : A32) (pw : A32) (dt : A32) (st : A32) (uc : A32) (sv : A32) (tl : A32) (so : A32) (lm : A32) (n : Nat) (nd : Int32) (ss : A32) (rg : A32) (hw : A32) (ax : A32) (fu : A32) (si : A32) (au : A32) (ns : Nat) (jk : A32) (jd : A32) (js : A32) (jt : A32) (jn : Nat) (ef : Int32) (es : Int32) (el : Int32) (ev : Int32) (et : Int32) (eo : Int32) (x1 : Int32) : zx_Met l yX4_checkLand wsX4_checkLand ({ frames := 6, cells := 1, slots := 6, locals := 82 }) (va_Pc [.ref (a 0), .int x1] (ZP D (zt cI cJ cZ) (wAll cI cJ cZ a px py td ld sl bd pw dt st uc sv tl so lm n nd ss rg hw ax fu si au ns jk jd js jt jn ef es el ev et eo) sz (ZX (va_A [] sz)))) (va_Qv (fun (_ : Unit) => ¬ F_in x1 0 7 = 0) (fun _ _ => True) (va_A [] sz)) (vx_X (fun _ : Unit => True) (fun E _ _ => F_in x1 0 7 = 0 ∧ E = zI) (va_A [] sz)) (va_A [] sz) := by
  refine zx_ofW (cc := cX4_checkLand) (maxL := 2) (ret := none) (by decide) rfl ?_
  intro p e s m args below meth c s₁ B hml hno hv
  obtain ⟨rfl, hsz, hP, hK, hD0, hE⟩ := hv
  have hx := B.exec
  have hb := B.bytes
  have hr := B.returns
  have hts := atoms_spec (ws := wsX4_checkLand) B.pre
  have hown : s.vm.findClass RX4 = some m.cls := findClass_of_methodNamed B.named
  have hlocks := B.notSynchronized
  subst hsz
  have hD := hD0
  generalize hAe : va_A [] s.heap.size = A at hE ⊢
  have hA : ∀ q : Nat, s.heap.size ≤ q → A q := fun q h => by rw [← hAe]; exact Or.inr h
  have hS : va_S A s.heap s.heap [] := va_S.rf
  have hl := lv_entry ([.ref (a 0), .int x1]) (n := 2) (Nat.le_of_ble_eq_true rfl)
  rw [lg_entry_eq]
  generalize (lg_sl ([.ref (a 0), .int x1]) ++ List.replicate (2 - (lg_sl ([.ref (a 0), .int x1])).length) Slot.unset).toArray = ls at hl ⊢
  have hl : lv_has ls 2 [(0, .ref (a 0)), (1, .int x1)] := hl
  have hP : va_P D vwCl (wAll cI cJ cZ a px py td ld sl bd pw dt st uc sv tl so lm n nd ss rg hw ax fu si au ns jk jd js jt jn ef es el ev et eo) s.heap := hP
  refine lv_iload_n hx hb dX4_checkLand_0 rfl (lv_at hl 1 rfl) ?_
  refine lv_if_lt (tgt := 10) hx hb dX4_checkLand_1 (by decide) (fun c_1 => ?_) (fun c_1 => ?_)
  · exact zx_thrSW (X := zI) (text := "no such land") hx hb hflg hts hown (by decide +kernel) k_X4_checkLand_1 k_X4_checkLand_2 b_X4_checkLand_vx_atSRX4281javalangInde zn_I zg_I hE.2.1.2.1.1 (by decide +kernel) hE hS (hl.1.trans hml.symm) dX4_checkLand_10 dX4_checkLand_13 dX4_checkLand_14 dX4_checkLand_17 dX4_checkLand_20 hno (Nat.le_of_ble_eq_true rfl) (Nat.le_of_ble_eq_true rfl) (Nat.le_of_ble_eq_true rfl) (Nat.le_of_ble_eq_true rfl) hlocks (fun t ht h1 h2 => ⟨(), trivial, ⟨F_in_0a c_1, rfl⟩, z_Fx hS h1 h2⟩) hS.2.2 rfl rfl
  · refine lv_iload_n hx hb dX4_checkLand_4 rfl (lv_at hl 1 rfl) ?_
    refine lv_bipush (v := 8) hx hb dX4_checkLand_5 (by decide) ?_
    refine lv_icmp_lt (tgt := 21) hx hb dX4_checkLand_7 (by decide) (fun c_2 => ?_) (fun c_2 => ?_)
    · exact zx_ret (W.vret hx hb hr (fun t ht hW => ⟨⟨(), rfl, F_in_1 c_1 (fun q => (z_lts (by decide)).mpr q c_2), trivial⟩, hS.F ht⟩) hS.2.2 dX4_checkLand_21)
    · exact zx_thrSW (X := zI) (text := "no such land") hx hb hflg hts hown (by decide +kernel) k_X4_checkLand_1 k_X4_checkLand_2 b_X4_checkLand_vx_atSRX4281javalangInde zn_I zg_I hE.2.1.2.1.1 (by decide +kernel) hE hS (hl.1.trans hml.symm) dX4_checkLand_10 dX4_checkLand_13 dX4_checkLand_14 dX4_checkLand_17 dX4_checkLand_20 hno (Nat.le_of_ble_eq_true rfl) (Nat.le_of_ble_eq_true rfl) (Nat.le_of_ble_eq_true rfl) (Nat.le_of_ble_eq_true rfl) hlocks (fun t ht h1 h2 => ⟨(), trivial, ⟨F_in_0b ((z_lts (by decide)).mp c_2), rfl⟩, z_Fx hS h1 h2⟩) hS.2.2 rfl rfl
theorem k_X4_checkSlot_1 : (Cond.classLink RX4 277 "java/lang/IndexOutOfBoundsException") ∈ wsX4_checkSlot := List.mem_of_getElem? (i := 1) rfl
theorem k_X4_checkSlot_2 : (Cond.initialized "java/lang/IndexOutOfBoundsException") ∈ wsX4_checkSlot := List.mem_of_getElem? (i := 2) rfl
theorem b_X4_checkSlot_vx_atSRX4281javalangInde : ∀ w ∈ (vx_atS RX4 281 "java/lang/IndexOutOfBoundsException" ["java/lang/RuntimeException", "java/lang/Exception"]).filter goodWord, w ∈ wsX4_checkSlot := fun _ h => List.mem_cons_of_mem _ (List.mem_append_right _ h)
set_option maxHeartbeats 4000000 in
set_option maxRecDepth 100000 in
theorem c_X4_checkSlot (l : Launch) (hflg : l.stackTraces = false) (D : va_G) (cI cJ cZ : ClassId) (a : Nat → Nat) (sz : Nat) (px : A32) (py : A64) (td : Int32) (ld : A32) (sl : A32) (bd : A32) (pw : A32) (dt : A32) (st : A32) (uc : A32) (sv : A32) (tl : A32) (so : A32) (lm : A32) (n : Nat) (nd : Int32) (ss : A32) (rg : A32) (hw : A32) (ax : A32) (fu : A32) (si : A32) (au : A32) (ns : Nat) (jk : A32) (jd : A32) (js : A32) (jt : A32) (jn : Nat) (ef : Int32) (es : Int32) (el : Int32) (ev : Int32) (et : Int32) (eo : Int32) (x1 : Int32) : zx_Met l yX4_checkSlot wsX4_checkSlot ({ frames := 6, cells := 1, slots := 6, locals := 82 }) (va_Pc [.ref (a 0), .int x1] (ZP D (zt cI cJ cZ) (wAll cI cJ cZ a px py td ld sl bd pw dt st uc sv tl so lm n nd ss rg hw ax fu si au ns jk jd js jt jn ef es el ev et eo) sz (ZX (va_A [] sz)))) (va_Qv (fun (_ : Unit) => ¬ F_in x1 0 359 = 0) (fun _ _ => True) (va_A [] sz)) (vx_X (fun _ : Unit => True) (fun E _ _ => F_in x1 0 359 = 0 ∧ E = zI) (va_A [] sz)) (va_A [] sz) := by
  refine zx_ofW (cc := cX4_checkSlot) (maxL := 2) (ret := none) (by decide) rfl ?_
  intro p e s m args below meth c s₁ B hml hno hv
  obtain ⟨rfl, hsz, hP, hK, hD0, hE⟩ := hv
  have hx := B.exec
  have hb := B.bytes
  have hr := B.returns
  have hts := atoms_spec (ws := wsX4_checkSlot) B.pre
  have hown : s.vm.findClass RX4 = some m.cls := findClass_of_methodNamed B.named
  have hlocks := B.notSynchronized
  subst hsz
  have hD := hD0
  generalize hAe : va_A [] s.heap.size = A at hE ⊢
  have hA : ∀ q : Nat, s.heap.size ≤ q → A q := fun q h => by rw [← hAe]; exact Or.inr h
  have hS : va_S A s.heap s.heap [] := va_S.rf
  have hl := lv_entry ([.ref (a 0), .int x1]) (n := 2) (Nat.le_of_ble_eq_true rfl)
  rw [lg_entry_eq]
  generalize (lg_sl ([.ref (a 0), .int x1]) ++ List.replicate (2 - (lg_sl ([.ref (a 0), .int x1])).length) Slot.unset).toArray = ls at hl ⊢
  have hl : lv_has ls 2 [(0, .ref (a 0)), (1, .int x1)] := hl
  have hP : va_P D vwCl (wAll cI cJ cZ a px py td ld sl bd pw dt st uc sv tl so lm n nd ss rg hw ax fu si au ns jk jd js jt jn ef es el ev et eo) s.heap := hP
  refine lv_iload_n hx hb dX4_checkSlot_0 rfl (lv_at hl 1 rfl) ?_
  refine lv_if_lt (tgt := 11) hx hb dX4_checkSlot_1 (by decide) (fun c_1 => ?_) (fun c_1 => ?_)
  · exact zx_thrSW (X := zI) (text := "no such slot") hx hb hflg hts hown (by decide +kernel) k_X4_checkSlot_1 k_X4_checkSlot_2 b_X4_checkSlot_vx_atSRX4281javalangInde zn_I zg_I hE.2.1.2.1.1 (by decide +kernel) hE hS (hl.1.trans hml.symm) dX4_checkSlot_11 dX4_checkSlot_14 dX4_checkSlot_15 dX4_checkSlot_18 dX4_checkSlot_21 hno (Nat.le_of_ble_eq_true rfl) (Nat.le_of_ble_eq_true rfl) (Nat.le_of_ble_eq_true rfl) (Nat.le_of_ble_eq_true rfl) hlocks (fun t ht h1 h2 => ⟨(), trivial, ⟨F_in_0a c_1, rfl⟩, z_Fx hS h1 h2⟩) hS.2.2 rfl rfl
  · refine lv_iload_n hx hb dX4_checkSlot_4 rfl (lv_at hl 1 rfl) ?_
    refine lv_sipush (v := 360) hx hb dX4_checkSlot_5 (by decide) ?_
    refine lv_icmp_lt (tgt := 22) hx hb dX4_checkSlot_8 (by decide) (fun c_2 => ?_) (fun c_2 => ?_)
    · exact zx_ret (W.vret hx hb hr (fun t ht hW => ⟨⟨(), rfl, F_in_1 c_1 (fun q => (z_lts (by decide)).mpr q c_2), trivial⟩, hS.F ht⟩) hS.2.2 dX4_checkSlot_22)
    · exact zx_thrSW (X := zI) (text := "no such slot") hx hb hflg hts hown (by decide +kernel) k_X4_checkSlot_1 k_X4_checkSlot_2 b_X4_checkSlot_vx_atSRX4281javalangInde zn_I zg_I hE.2.1.2.1.1 (by decide +kernel) hE hS (hl.1.trans hml.symm) dX4_checkSlot_11 dX4_checkSlot_14 dX4_checkSlot_15 dX4_checkSlot_18 dX4_checkSlot_21 hno (Nat.le_of_ble_eq_true rfl) (Nat.le_of_ble_eq_true rfl) (Nat.le_of_ble_eq_true rfl) (Nat.le_of_ble_eq_true rfl) hlocks (fun t ht h1 h2 => ⟨(), trivial, ⟨F_in_0b ((z_lts (by decide)).mp c_2), rfl⟩, z_Fx hS h1 h2⟩) hS.2.2 rfl rfl
theorem k_X4_checkBand_1 : (Cond.classLink RX4 277 "java/lang/IndexOutOfBoundsException") ∈ wsX4_checkBand := List.mem_of_getElem? (i := 1) rfl
theorem k_X4_checkBand_2 : (Cond.initialized "java/lang/IndexOutOfBoundsException") ∈ wsX4_checkBand := List.mem_of_getElem? (i := 2) rfl
theorem b_X4_checkBand_vx_atSRX4281javalangInde : ∀ w ∈ (vx_atS RX4 281 "java/lang/IndexOutOfBoundsException" ["java/lang/RuntimeException", "java/lang/Exception"]).filter goodWord, w ∈ wsX4_checkBand := fun _ h => List.mem_cons_of_mem _ (List.mem_append_right _ h)
set_option maxHeartbeats 4000000 in
set_option maxRecDepth 100000 in
theorem c_X4_checkBand (l : Launch) (hflg : l.stackTraces = false) (D : va_G) (cI cJ cZ : ClassId) (a : Nat → Nat) (sz : Nat) (px : A32) (py : A64) (td : Int32) (ld : A32) (sl : A32) (bd : A32) (pw : A32) (dt : A32) (st : A32) (uc : A32) (sv : A32) (tl : A32) (so : A32) (lm : A32) (n : Nat) (nd : Int32) (ss : A32) (rg : A32) (hw : A32) (ax : A32) (fu : A32) (si : A32) (au : A32) (ns : Nat) (jk : A32) (jd : A32) (js : A32) (jt : A32) (jn : Nat) (ef : Int32) (es : Int32) (el : Int32) (ev : Int32) (et : Int32) (eo : Int32) (x1 : Int32) : zx_Met l yX4_checkBand wsX4_checkBand ({ frames := 6, cells := 1, slots := 6, locals := 82 }) (va_Pc [.ref (a 0), .int x1] (ZP D (zt cI cJ cZ) (wAll cI cJ cZ a px py td ld sl bd pw dt st uc sv tl so lm n nd ss rg hw ax fu si au ns jk jd js jt jn ef es el ev et eo) sz (ZX (va_A [] sz)))) (va_Qv (fun (_ : Unit) => ¬ F_in x1 0 4 = 0) (fun _ _ => True) (va_A [] sz)) (vx_X (fun _ : Unit => True) (fun E _ _ => F_in x1 0 4 = 0 ∧ E = zI) (va_A [] sz)) (va_A [] sz) := by
  refine zx_ofW (cc := cX4_checkBand) (maxL := 2) (ret := none) (by decide) rfl ?_
  intro p e s m args below meth c s₁ B hml hno hv
  obtain ⟨rfl, hsz, hP, hK, hD0, hE⟩ := hv
  have hx := B.exec
  have hb := B.bytes
  have hr := B.returns
  have hts := atoms_spec (ws := wsX4_checkBand) B.pre
  have hown : s.vm.findClass RX4 = some m.cls := findClass_of_methodNamed B.named
  have hlocks := B.notSynchronized
  subst hsz
  have hD := hD0
  generalize hAe : va_A [] s.heap.size = A at hE ⊢
  have hA : ∀ q : Nat, s.heap.size ≤ q → A q := fun q h => by rw [← hAe]; exact Or.inr h
  have hS : va_S A s.heap s.heap [] := va_S.rf
  have hl := lv_entry ([.ref (a 0), .int x1]) (n := 2) (Nat.le_of_ble_eq_true rfl)
  rw [lg_entry_eq]
  generalize (lg_sl ([.ref (a 0), .int x1]) ++ List.replicate (2 - (lg_sl ([.ref (a 0), .int x1])).length) Slot.unset).toArray = ls at hl ⊢
  have hl : lv_has ls 2 [(0, .ref (a 0)), (1, .int x1)] := hl
  have hP : va_P D vwCl (wAll cI cJ cZ a px py td ld sl bd pw dt st uc sv tl so lm n nd ss rg hw ax fu si au ns jk jd js jt jn ef es el ev et eo) s.heap := hP
  refine lv_iload_n hx hb dX4_checkBand_0 rfl (lv_at hl 1 rfl) ?_
  refine lv_if_lt (tgt := 9) hx hb dX4_checkBand_1 (by decide) (fun c_1 => ?_) (fun c_1 => ?_)
  · exact zx_thrSW (X := zI) (text := "no such band") hx hb hflg hts hown (by decide +kernel) k_X4_checkBand_1 k_X4_checkBand_2 b_X4_checkBand_vx_atSRX4281javalangInde zn_I zg_I hE.2.1.2.1.1 (by decide +kernel) hE hS (hl.1.trans hml.symm) dX4_checkBand_9 dX4_checkBand_12 dX4_checkBand_13 dX4_checkBand_16 dX4_checkBand_19 hno (Nat.le_of_ble_eq_true rfl) (Nat.le_of_ble_eq_true rfl) (Nat.le_of_ble_eq_true rfl) (Nat.le_of_ble_eq_true rfl) hlocks (fun t ht h1 h2 => ⟨(), trivial, ⟨F_in_0a c_1, rfl⟩, z_Fx hS h1 h2⟩) hS.2.2 rfl rfl
  · refine lv_iload_n hx hb dX4_checkBand_4 rfl (lv_at hl 1 rfl) ?_
    refine lv_iconst (v := 5) hx hb dX4_checkBand_5 (by decide) ?_
    refine lv_icmp_lt (tgt := 20) hx hb dX4_checkBand_6 (by decide) (fun c_2 => ?_) (fun c_2 => ?_)
    · exact zx_ret (W.vret hx hb hr (fun t ht hW => ⟨⟨(), rfl, F_in_1 c_1 (fun q => (z_lts (by decide)).mpr q c_2), trivial⟩, hS.F ht⟩) hS.2.2 dX4_checkBand_20)
    · exact zx_thrSW (X := zI) (text := "no such band") hx hb hflg hts hown (by decide +kernel) k_X4_checkBand_1 k_X4_checkBand_2 b_X4_checkBand_vx_atSRX4281javalangInde zn_I zg_I hE.2.1.2.1.1 (by decide +kernel) hE hS (hl.1.trans hml.symm) dX4_checkBand_9 dX4_checkBand_12 dX4_checkBand_13 dX4_checkBand_16 dX4_checkBand_19 hno (Nat.le_of_ble_eq_true rfl) (Nat.le_of_ble_eq_true rfl) (Nat.le_of_ble_eq_true rfl) (Nat.le_of_ble_eq_true rfl) hlocks (fun t ht h1 h2 => ⟨(), trivial, ⟨F_in_0b ((z_lts (by decide)).mp c_2), rfl⟩, z_Fx hS h1 h2⟩) hS.2.2 rfl rfl
theorem k_X4_checkFiling_1 : (Cond.classLink RX4 277 "java/lang/IndexOutOfBoundsException") ∈ wsX4_checkFiling := List.mem_of_getElem? (i := 1) rfl
theorem k_X4_checkFiling_2 : (Cond.initialized "java/lang/IndexOutOfBoundsException") ∈ wsX4_checkFiling := List.mem_of_getElem? (i := 2) rfl
theorem b_X4_checkFiling_vx_atSRX4281javalangInde : ∀ w ∈ (vx_atS RX4 281 "java/lang/IndexOutOfBoundsException" ["java/lang/RuntimeException", "java/lang/Exception"]).filter goodWord, w ∈ wsX4_checkFiling := fun _ h => List.mem_cons_of_mem _ (List.mem_append_right _ h)
theorem k_X4_checkFiling_3 : (Cond.fieldLink RX4 10 "Orbitregister" "filings" "LOrbitregister$Filings;") ∈ wsX4_checkFiling := List.mem_of_getElem? (i := 3) rfl
theorem b_X4_checkFiling_wsX40 : ∀ w ∈ wsX40, w ∈ wsX4_checkFiling := fun _ h => List.mem_cons_of_mem _ (List.mem_append_left _ (List.mem_append_left _ (List.mem_append_right _ h)))
theorem k_X4_checkFiling_4 : (Cond.fieldLink RX4 62 "Orbitregister$Filings" "count" "I") ∈ wsX4_checkFiling := List.mem_of_getElem? (i := 4) rfl
theorem b_X4_checkFiling_wsX10 : ∀ w ∈ wsX10, w ∈ wsX4_checkFiling := fun _ h => List.mem_cons_of_mem _ (List.mem_append_left _ (List.mem_append_right _ h))
set_option maxHeartbeats 4000000 in
set_option maxRecDepth 100000 in
theorem c_X4_checkFiling (l : Launch) (hflg : l.stackTraces = false) (D : va_G) (cI cJ cZ : ClassId) (a : Nat → Nat) (sz : Nat) (px : A32) (py : A64) (td : Int32) (ld : A32) (sl : A32) (bd : A32) (pw : A32) (dt : A32) (st : A32) (uc : A32) (sv : A32) (tl : A32) (so : A32) (lm : A32) (n : Nat) (nd : Int32) (ss : A32) (rg : A32) (hw : A32) (ax : A32) (fu : A32) (si : A32) (au : A32) (ns : Nat) (jk : A32) (jd : A32) (js : A32) (jt : A32) (jn : Nat) (ef : Int32) (es : Int32) (el : Int32) (ev : Int32) (et : Int32) (eo : Int32) (x1 : Int32) (hn : n ≤ 40) : zx_Met l yX4_checkFiling wsX4_checkFiling ({ frames := 6, cells := 1, slots := 6, locals := 82 }) (va_Pc [.ref (a 0), .int x1] (ZP D (zt cI cJ cZ) (wAll cI cJ cZ a px py td ld sl bd pw dt st uc sv tl so lm n nd ss rg hw ax fu si au ns jk jd js jt jn ef es el ev et eo) sz (ZX (va_A [] sz)))) (va_Qv (fun (_ : Unit) => ¬ F_in x1 0 (nI n - 1) = 0) (fun _ _ => True) (va_A [] sz)) (vx_X (fun _ : Unit => True) (fun E _ _ => F_in x1 0 (nI n - 1) = 0 ∧ E = zI) (va_A [] sz)) (va_A [] sz) := by
  refine zx_ofW (cc := cX4_checkFiling) (maxL := 2) (ret := none) (by decide) rfl ?_
  intro p e s m args below meth c s₁ B hml hno hv
  obtain ⟨rfl, hsz, hP, hK, hD0, hE⟩ := hv
  have hx := B.exec
  have hb := B.bytes
  have hr := B.returns
  have hts := atoms_spec (ws := wsX4_checkFiling) B.pre
  have hown : s.vm.findClass RX4 = some m.cls := findClass_of_methodNamed B.named
  have hlocks := B.notSynchronized
  subst hsz
  have hD := hD0
  generalize hAe : va_A [] s.heap.size = A at hE ⊢
  have hA : ∀ q : Nat, s.heap.size ≤ q → A q := fun q h => by rw [← hAe]; exact Or.inr h
  have hS : va_S A s.heap s.heap [] := va_S.rf
  have hl := lv_entry ([.ref (a 0), .int x1]) (n := 2) (Nat.le_of_ble_eq_true rfl)
  rw [lg_entry_eq]
  generalize (lg_sl ([.ref (a 0), .int x1]) ++ List.replicate (2 - (lg_sl ([.ref (a 0), .int x1])).length) Slot.unset).toArray = ls at hl ⊢
  have hl : lv_has ls 2 [(0, .ref (a 0)), (1, .int x1)] := hl
  have hP : va_P D vwCl (wAll cI cJ cZ a px py td ld sl bd pw dt st uc sv tl so lm n nd ss rg hw ax fu si au ns jk jd js jt jn ef es el ev et eo) s.heap := hP
  refine lv_iload_n hx hb dX4_checkFiling_0 rfl (lv_at hl 1 rfl) ?_
  refine lv_if_lt (tgt := 15) hx hb dX4_checkFiling_1 (by decide) (fun c_1 => ?_) (fun c_1 => ?_)
  · exact zx_thrSW (X := zI) (text := "no such filing") hx hb hflg hts hown (by decide +kernel) k_X4_checkFiling_1 k_X4_checkFiling_2 b_X4_checkFiling_vx_atSRX4281javalangInde zn_I zg_I hE.2.1.2.1.1 (by decide +kernel) hE hS (hl.1.trans hml.symm) dX4_checkFiling_15 dX4_checkFiling_18 dX4_checkFiling_19 dX4_checkFiling_22 dX4_checkFiling_25 hno (Nat.le_of_ble_eq_true rfl) (Nat.le_of_ble_eq_true rfl) (Nat.le_of_ble_eq_true rfl) (Nat.le_of_ble_eq_true rfl) hlocks (fun t ht h1 h2 => ⟨(), trivial, ⟨F_in_0a c_1, rfl⟩, z_Fx hS h1 h2⟩) hS.2.2 rfl rfl
  · refine lv_iload_n hx hb dX4_checkFiling_4 rfl (lv_at hl 1 rfl) ?_
    refine lv_aload_n hx hb dX4_checkFiling_5 rfl (lv_at hl 0 rfl) ?_
    refine z_get (ci := 4) (C := RX4) (T := TX4) (N := 7) hx hb hts b_X4_checkFiling_wsX40 hown hK hP 0 rfl rfl 0 (by decide) (hts _ k_X4_checkFiling_3) rfl (.ref (a 3)) rfl dX4_checkFiling_6 ?_
    refine z_get (ci := 1) (C := RX1) (T := TX1) (N := 13) hx hb hts b_X4_checkFiling_wsX10 hown hK hP 3 rfl rfl 11 (by decide) (hts _ k_X4_checkFiling_4) rfl (.int (nI n)) rfl dX4_checkFiling_9 ?_
    refine lv_icmp_lt (tgt := 26) hx hb dX4_checkFiling_12 (by decide) (fun c_2 => ?_) (fun c_2 => ?_)
    · exact zx_ret (W.vret hx hb hr (fun t ht hW => ⟨⟨(), rfl, F_in_1 c_1 (fun q => (z_lts (z_cnt1 hn)).mpr q c_2), trivial⟩, hS.F ht⟩) hS.2.2 dX4_checkFiling_26)
    · exact zx_thrSW (X := zI) (text := "no such filing") hx hb hflg hts hown (by decide +kernel) k_X4_checkFiling_1 k_X4_checkFiling_2 b_X4_checkFiling_vx_atSRX4281javalangInde zn_I zg_I hE.2.1.2.1.1 (by decide +kernel) hE hS (hl.1.trans hml.symm) dX4_checkFiling_15 dX4_checkFiling_18 dX4_checkFiling_19 dX4_checkFiling_22 dX4_checkFiling_25 hno (Nat.le_of_ble_eq_true rfl) (Nat.le_of_ble_eq_true rfl) (Nat.le_of_ble_eq_true rfl) (Nat.le_of_ble_eq_true rfl) hlocks (fun t ht h1 h2 => ⟨(), trivial, ⟨F_in_0b ((z_lts (z_cnt1 hn)).mp c_2), rfl⟩, z_Fx hS h1 h2⟩) hS.2.2 rfl rfl
theorem k_X4_checkSatellite_1 : (Cond.classLink RX4 277 "java/lang/IndexOutOfBoundsException") ∈ wsX4_checkSatellite := List.mem_of_getElem? (i := 1) rfl
theorem k_X4_checkSatellite_2 : (Cond.initialized "java/lang/IndexOutOfBoundsException") ∈ wsX4_checkSatellite := List.mem_of_getElem? (i := 2) rfl
theorem b_X4_checkSatellite_vx_atSRX4281javalangInde : ∀ w ∈ (vx_atS RX4 281 "java/lang/IndexOutOfBoundsException" ["java/lang/RuntimeException", "java/lang/Exception"]).filter goodWord, w ∈ wsX4_checkSatellite := fun _ h => List.mem_cons_of_mem _ (List.mem_append_right _ h)
theorem k_X4_checkSatellite_3 : (Cond.fieldLink RX4 19 "Orbitregister" "satellites" "LOrbitregister$Satellites;") ∈ wsX4_checkSatellite := List.mem_of_getElem? (i := 3) rfl
theorem b_X4_checkSatellite_wsX40 : ∀ w ∈ wsX40, w ∈ wsX4_checkSatellite := fun _ h => List.mem_cons_of_mem _ (List.mem_append_left _ (List.mem_append_left _ (List.mem_append_right _ h)))
theorem k_X4_checkSatellite_4 : (Cond.fieldLink RX4 174 "Orbitregister$Satellites" "count" "I") ∈ wsX4_checkSatellite := List.mem_of_getElem? (i := 4) rfl
theorem b_X4_checkSatellite_wsX30 : ∀ w ∈ wsX30, w ∈ wsX4_checkSatellite := fun _ h => List.mem_cons_of_mem _ (List.mem_append_left _ (List.mem_append_right _ h))
set_option maxHeartbeats 4000000 in
set_option maxRecDepth 100000 in
theorem c_X4_checkSatellite (l : Launch) (hflg : l.stackTraces = false) (D : va_G) (cI cJ cZ : ClassId) (a : Nat → Nat) (sz : Nat) (px : A32) (py : A64) (td : Int32) (ld : A32) (sl : A32) (bd : A32) (pw : A32) (dt : A32) (st : A32) (uc : A32) (sv : A32) (tl : A32) (so : A32) (lm : A32) (n : Nat) (nd : Int32) (ss : A32) (rg : A32) (hw : A32) (ax : A32) (fu : A32) (si : A32) (au : A32) (ns : Nat) (jk : A32) (jd : A32) (js : A32) (jt : A32) (jn : Nat) (ef : Int32) (es : Int32) (el : Int32) (ev : Int32) (et : Int32) (eo : Int32) (x1 : Int32) (hs : ns ≤ 16) : zx_Met l yX4_checkSatellite wsX4_checkSatellite ({ frames := 6, cells := 1, slots := 6, locals := 82 }) (va_Pc [.ref (a 0), .int x1] (ZP D (zt cI cJ cZ) (wAll cI cJ cZ a px py td ld sl bd pw dt st uc sv tl so lm n nd ss rg hw ax fu si au ns jk jd js jt jn ef es el ev et eo) sz (ZX (va_A [] sz)))) (va_Qv (fun (_ : Unit) => ¬ F_in x1 0 (nI ns - 1) = 0) (fun _ _ => True) (va_A [] sz)) (vx_X (fun _ : Unit => True) (fun E _ _ => F_in x1 0 (nI ns - 1) = 0 ∧ E = zI) (va_A [] sz)) (va_A [] sz) := by
  refine zx_ofW (cc := cX4_checkSatellite) (maxL := 2) (ret := none) (by decide) rfl ?_
  intro p e s m args below meth c s₁ B hml hno hv
  obtain ⟨rfl, hsz, hP, hK, hD0, hE⟩ := hv
  have hx := B.exec
  have hb := B.bytes
  have hr := B.returns
  have hts := atoms_spec (ws := wsX4_checkSatellite) B.pre
  have hown : s.vm.findClass RX4 = some m.cls := findClass_of_methodNamed B.named
  have hlocks := B.notSynchronized
  subst hsz
  have hD := hD0
  generalize hAe : va_A [] s.heap.size = A at hE ⊢
  have hA : ∀ q : Nat, s.heap.size ≤ q → A q := fun q h => by rw [← hAe]; exact Or.inr h
  have hS : va_S A s.heap s.heap [] := va_S.rf
  have hl := lv_entry ([.ref (a 0), .int x1]) (n := 2) (Nat.le_of_ble_eq_true rfl)
  rw [lg_entry_eq]
  generalize (lg_sl ([.ref (a 0), .int x1]) ++ List.replicate (2 - (lg_sl ([.ref (a 0), .int x1])).length) Slot.unset).toArray = ls at hl ⊢
  have hl : lv_has ls 2 [(0, .ref (a 0)), (1, .int x1)] := hl
  have hP : va_P D vwCl (wAll cI cJ cZ a px py td ld sl bd pw dt st uc sv tl so lm n nd ss rg hw ax fu si au ns jk jd js jt jn ef es el ev et eo) s.heap := hP
  refine lv_iload_n hx hb dX4_checkSatellite_0 rfl (lv_at hl 1 rfl) ?_
  refine lv_if_lt (tgt := 15) hx hb dX4_checkSatellite_1 (by decide) (fun c_1 => ?_) (fun c_1 => ?_)
  · exact zx_thrSW (X := zI) (text := "no such satellite") hx hb hflg hts hown (by decide +kernel) k_X4_checkSatellite_1 k_X4_checkSatellite_2 b_X4_checkSatellite_vx_atSRX4281javalangInde zn_I zg_I hE.2.1.2.1.1 (by decide +kernel) hE hS (hl.1.trans hml.symm) dX4_checkSatellite_15 dX4_checkSatellite_18 dX4_checkSatellite_19 dX4_checkSatellite_22 dX4_checkSatellite_25 hno (Nat.le_of_ble_eq_true rfl) (Nat.le_of_ble_eq_true rfl) (Nat.le_of_ble_eq_true rfl) (Nat.le_of_ble_eq_true rfl) hlocks (fun t ht h1 h2 => ⟨(), trivial, ⟨F_in_0a c_1, rfl⟩, z_Fx hS h1 h2⟩) hS.2.2 rfl rfl
  · refine lv_iload_n hx hb dX4_checkSatellite_4 rfl (lv_at hl 1 rfl) ?_
    refine lv_aload_n hx hb dX4_checkSatellite_5 rfl (lv_at hl 0 rfl) ?_
    refine z_get (ci := 4) (C := RX4) (T := TX4) (N := 7) hx hb hts b_X4_checkSatellite_wsX40 hown hK hP 0 rfl rfl 1 (by decide) (hts _ k_X4_checkSatellite_3) rfl (.ref (a 15)) rfl dX4_checkSatellite_6 ?_
    refine z_get (ci := 3) (C := RX3) (T := TX3) (N := 8) hx hb hts b_X4_checkSatellite_wsX30 hown hK hP 15 rfl rfl 7 (by decide) (hts _ k_X4_checkSatellite_4) rfl (.int (nI ns)) rfl dX4_checkSatellite_9 ?_
    refine lv_icmp_lt (tgt := 26) hx hb dX4_checkSatellite_12 (by decide) (fun c_2 => ?_) (fun c_2 => ?_)
    · exact zx_ret (W.vret hx hb hr (fun t ht hW => ⟨⟨(), rfl, F_in_1 c_1 (fun q => (z_lts (z_cnt1 (by omega))).mpr q c_2), trivial⟩, hS.F ht⟩) hS.2.2 dX4_checkSatellite_26)
    · exact zx_thrSW (X := zI) (text := "no such satellite") hx hb hflg hts hown (by decide +kernel) k_X4_checkSatellite_1 k_X4_checkSatellite_2 b_X4_checkSatellite_vx_atSRX4281javalangInde zn_I zg_I hE.2.1.2.1.1 (by decide +kernel) hE hS (hl.1.trans hml.symm) dX4_checkSatellite_15 dX4_checkSatellite_18 dX4_checkSatellite_19 dX4_checkSatellite_22 dX4_checkSatellite_25 hno (Nat.le_of_ble_eq_true rfl) (Nat.le_of_ble_eq_true rfl) (Nat.le_of_ble_eq_true rfl) (Nat.le_of_ble_eq_true rfl) hlocks (fun t ht h1 h2 => ⟨(), trivial, ⟨F_in_0b ((z_lts (z_cnt1 (by omega))).mp c_2), rfl⟩, z_Fx hS h1 h2⟩) hS.2.2 rfl rfl
theorem k_X4_checkPower_1 : (Cond.classLink RX4 83 "java/lang/IllegalArgumentException") ∈ wsX4_checkPower := List.mem_of_getElem? (i := 1) rfl
theorem k_X4_checkPower_2 : (Cond.initialized "java/lang/IllegalArgumentException") ∈ wsX4_checkPower := List.mem_of_getElem? (i := 2) rfl
theorem b_X4_checkPower_vx_atSRX487javalangIlleg : ∀ w ∈ (vx_atS RX4 87 "java/lang/IllegalArgumentException" ["java/lang/RuntimeException", "java/lang/Exception"]).filter goodWord, w ∈ wsX4_checkPower := fun _ h => List.mem_cons_of_mem _ (List.mem_append_right _ h)
set_option maxHeartbeats 4000000 in
set_option maxRecDepth 100000 in
theorem c_X4_checkPower (l : Launch) (hflg : l.stackTraces = false) (D : va_G) (cI cJ cZ : ClassId) (a : Nat → Nat) (sz : Nat) (px : A32) (py : A64) (td : Int32) (ld : A32) (sl : A32) (bd : A32) (pw : A32) (dt : A32) (st : A32) (uc : A32) (sv : A32) (tl : A32) (so : A32) (lm : A32) (n : Nat) (nd : Int32) (ss : A32) (rg : A32) (hw : A32) (ax : A32) (fu : A32) (si : A32) (au : A32) (ns : Nat) (jk : A32) (jd : A32) (js : A32) (jt : A32) (jn : Nat) (ef : Int32) (es : Int32) (el : Int32) (ev : Int32) (et : Int32) (eo : Int32) (x1 : Int32) : zx_Met l yX4_checkPower wsX4_checkPower ({ frames := 6, cells := 1, slots := 6, locals := 82 }) (va_Pc [.ref (a 0), .int x1] (ZP D (zt cI cJ cZ) (wAll cI cJ cZ a px py td ld sl bd pw dt st uc sv tl so lm n nd ss rg hw ax fu si au ns jk jd js jt jn ef es el ev et eo) sz (ZX (va_A [] sz)))) (va_Qv (fun (_ : Unit) => ¬ F_in x1 1 50 = 0) (fun _ _ => True) (va_A [] sz)) (vx_X (fun _ : Unit => True) (fun E _ _ => F_in x1 1 50 = 0 ∧ E = zA) (va_A [] sz)) (va_A [] sz) := by
  refine zx_ofW (cc := cX4_checkPower) (maxL := 2) (ret := none) (by decide) rfl ?_
  intro p e s m args below meth c s₁ B hml hno hv
  obtain ⟨rfl, hsz, hP, hK, hD0, hE⟩ := hv
  have hx := B.exec
  have hb := B.bytes
  have hr := B.returns
  have hts := atoms_spec (ws := wsX4_checkPower) B.pre
  have hown : s.vm.findClass RX4 = some m.cls := findClass_of_methodNamed B.named
  have hlocks := B.notSynchronized
  subst hsz
  have hD := hD0
  generalize hAe : va_A [] s.heap.size = A at hE ⊢
  have hA : ∀ q : Nat, s.heap.size ≤ q → A q := fun q h => by rw [← hAe]; exact Or.inr h
  have hS : va_S A s.heap s.heap [] := va_S.rf
  have hl := lv_entry ([.ref (a 0), .int x1]) (n := 2) (Nat.le_of_ble_eq_true rfl)
  rw [lg_entry_eq]
  generalize (lg_sl ([.ref (a 0), .int x1]) ++ List.replicate (2 - (lg_sl ([.ref (a 0), .int x1])).length) Slot.unset).toArray = ls at hl ⊢
  have hl : lv_has ls 2 [(0, .ref (a 0)), (1, .int x1)] := hl
  have hP : va_P D vwCl (wAll cI cJ cZ a px py td ld sl bd pw dt st uc sv tl so lm n nd ss rg hw ax fu si au ns jk jd js jt jn ef es el ev et eo) s.heap := hP
  refine lv_iload_n hx hb dX4_checkPower_0 rfl (lv_at hl 1 rfl) ?_
  refine lv_iconst (v := 1) hx hb dX4_checkPower_1 (by decide) ?_
  refine lv_icmp_lt (tgt := 11) hx hb dX4_checkPower_2 (by decide) (fun c_1 => ?_) (fun c_1 => ?_)
  · exact zx_thrSW (X := zA) (text := "power is out of range") hx hb hflg hts hown (by decide +kernel) k_X4_checkPower_1 k_X4_checkPower_2 b_X4_checkPower_vx_atSRX487javalangIlleg zn_A zg_A hE.2.1.2.1.2.1 (by decide +kernel) hE hS (hl.1.trans hml.symm) dX4_checkPower_11 dX4_checkPower_14 dX4_checkPower_15 dX4_checkPower_18 dX4_checkPower_21 hno (Nat.le_of_ble_eq_true rfl) (Nat.le_of_ble_eq_true rfl) (Nat.le_of_ble_eq_true rfl) (Nat.le_of_ble_eq_true rfl) hlocks (fun t ht h1 h2 => ⟨(), trivial, ⟨F_in_0a c_1, rfl⟩, z_Fx hS h1 h2⟩) hS.2.2 rfl rfl
  · refine lv_iload_n hx hb dX4_checkPower_5 rfl (lv_at hl 1 rfl) ?_
    refine lv_bipush (v := 50) hx hb dX4_checkPower_6 (by decide) ?_
    refine lv_icmp_le (tgt := 22) hx hb dX4_checkPower_8 (by decide) (fun c_2 => ?_) (fun c_2 => ?_)
    · exact zx_ret (W.vret hx hb hr (fun t ht hW => ⟨⟨(), rfl, F_in_1 c_1 (fun q => z_nle.mpr q c_2), trivial⟩, hS.F ht⟩) hS.2.2 dX4_checkPower_22)
    · exact zx_thrSW (X := zA) (text := "power is out of range") hx hb hflg hts hown (by decide +kernel) k_X4_checkPower_1 k_X4_checkPower_2 b_X4_checkPower_vx_atSRX487javalangIlleg zn_A zg_A hE.2.1.2.1.2.1 (by decide +kernel) hE hS (hl.1.trans hml.symm) dX4_checkPower_11 dX4_checkPower_14 dX4_checkPower_15 dX4_checkPower_18 dX4_checkPower_21 hno (Nat.le_of_ble_eq_true rfl) (Nat.le_of_ble_eq_true rfl) (Nat.le_of_ble_eq_true rfl) (Nat.le_of_ble_eq_true rfl) hlocks (fun t ht h1 h2 => ⟨(), trivial, ⟨F_in_0b (z_nle.mp c_2), rfl⟩, z_Fx hS h1 h2⟩) hS.2.2 rfl rfl
theorem k_X4_checkNotLapsed_3 : (Cond.fieldLink RX4 10 "Orbitregister" "filings" "LOrbitregister$Filings;") ∈ wsX4_checkNotLapsed := List.mem_of_getElem? (i := 3) rfl
theorem b_X4_checkNotLapsed_wsX40 : ∀ w ∈ wsX40, w ∈ wsX4_checkNotLapsed := fun _ h => List.mem_cons_of_mem _ (List.mem_append_left _ (List.mem_append_left _ (List.mem_append_right _ h)))
theorem k_X4_checkNotLapsed_1 : (Cond.classLink RX4 65 "java/lang/IllegalStateException") ∈ wsX4_checkNotLapsed := List.mem_of_getElem? (i := 1) rfl
theorem k_X4_checkNotLapsed_2 : (Cond.initialized "java/lang/IllegalStateException") ∈ wsX4_checkNotLapsed := List.mem_of_getElem? (i := 2) rfl
theorem b_X4_checkNotLapsed_vx_atSRX469javalangIlleg : ∀ w ∈ (vx_atS RX4 69 "java/lang/IllegalStateException" ["java/lang/RuntimeException", "java/lang/Exception"]).filter goodWord, w ∈ wsX4_checkNotLapsed := fun _ h => List.mem_cons_of_mem _ (List.mem_append_right _ h)
set_option maxHeartbeats 4000000 in
set_option maxRecDepth 100000 in
theorem c_X4_checkNotLapsed (l : Launch) (hflg : l.stackTraces = false) (D : va_G) (cI cJ cZ : ClassId) (a : Nat → Nat) (sz : Nat) (px : A32) (py : A64) (td : Int32) (ld : A32) (sl : A32) (bd : A32) (pw : A32) (dt : A32) (st : A32) (uc : A32) (sv : A32) (tl : A32) (so : A32) (lm : A32) (n : Nat) (nd : Int32) (ss : A32) (rg : A32) (hw : A32) (ax : A32) (fu : A32) (si : A32) (au : A32) (ns : Nat) (jk : A32) (jd : A32) (js : A32) (jt : A32) (jn : Nat) (ef : Int32) (es : Int32) (el : Int32) (ev : Int32) (et : Int32) (eo : Int32) (x1 : Int32) (x1' : Nat) (e_x1 : x1 = nI x1') (h_x1 : x1' < 40) : zx_Met l yX4_checkNotLapsed wsX4_checkNotLapsed ({ frames := 6, cells := 1, slots := 6, locals := 82 }) (va_Pc [.ref (a 0), .int x1] (ZP D (zt cI cJ cZ) (wAll cI cJ cZ a px py td ld sl bd pw dt st uc sv tl so lm n nd ss rg hw ax fu si au ns jk jd js jt jn ef es el ev et eo) sz (ZX (va_A [] sz)))) (va_Qv (fun (_ : Unit) => ¬ st x1' = 4) (fun _ _ => True) (va_A [] sz)) (vx_X (fun _ : Unit => True) (fun E _ _ => st x1' = 4 ∧ E = zS) (va_A [] sz)) (va_A [] sz) := by
  refine zx_ofW (cc := cX4_checkNotLapsed) (maxL := 2) (ret := none) (by decide) rfl ?_
  intro p e s m args below meth c s₁ B hml hno hv
  obtain ⟨rfl, hsz, hP, hK, hD0, hE⟩ := hv
  have hx := B.exec
  have hb := B.bytes
  have hr := B.returns
  have hts := atoms_spec (ws := wsX4_checkNotLapsed) B.pre
  have hown : s.vm.findClass RX4 = some m.cls := findClass_of_methodNamed B.named
  have hlocks := B.notSynchronized
  subst hsz
  have hD := hD0
  generalize hAe : va_A [] s.heap.size = A at hE ⊢
  have hA : ∀ q : Nat, s.heap.size ≤ q → A q := fun q h => by rw [← hAe]; exact Or.inr h
  have hS : va_S A s.heap s.heap [] := va_S.rf
  have hl := lv_entry ([.ref (a 0), .int x1]) (n := 2) (Nat.le_of_ble_eq_true rfl)
  rw [lg_entry_eq]
  generalize (lg_sl ([.ref (a 0), .int x1]) ++ List.replicate (2 - (lg_sl ([.ref (a 0), .int x1])).length) Slot.unset).toArray = ls at hl ⊢
  have hl : lv_has ls 2 [(0, .ref (a 0)), (1, .int x1)] := hl
  have hP : va_P D vwCl (wAll cI cJ cZ a px py td ld sl bd pw dt st uc sv tl so lm n nd ss rg hw ax fu si au ns jk jd js jt jn ef es el ev et eo) s.heap := hP
  refine lv_aload_n hx hb dX4_checkNotLapsed_0 rfl (lv_at hl 0 rfl) ?_
  refine z_get (ci := 4) (C := RX4) (T := TX4) (N := 7) hx hb hts b_X4_checkNotLapsed_wsX40 hown hK hP 0 rfl rfl 0 (by decide) (hts _ k_X4_checkNotLapsed_3) rfl (.ref (a 3)) rfl dX4_checkNotLapsed_1 ?_
  refine lv_iload_n hx hb dX4_checkNotLapsed_4 rfl (lv_at hl 1 rfl) ?_
  refine z_ri (va_runV (As := [.int x1]) (rest := []) ⟨hx, hb, hml, hown, hts⟩ (c_X1_isLapsed l D cI cJ cZ a s.heap.size ld sl bd pw dt st uc sv tl so lm n nd x1 x1' e_x1 (by omega)) (cwV 1 hts gX4_checkNotLapsed_X1_isLapsed rfl rfl rfl (by decide +kernel) ⟨Nat.le_of_ble_eq_true rfl, Nat.le_of_ble_eq_true rfl⟩) (z_pv hK (zP_mid (pre := (wOr cI cJ cZ a px py td)) (wc := (wFi cI cJ cZ a ld sl bd pw dt st uc sv tl so lm n nd)) (suf := ((wSa cI cJ cZ a ss rg hw ax fu si au ns) ++ ((wJo cI cJ cZ a jk jd js jt jn) ++ (wEx cI cJ cZ a ef es el ev et eo)))) hP) (zD_mid (pre := (wOr cI cJ cZ a px py td)) (wc := (wFi cI cJ cZ a ld sl bd pw dt st uc sv tl so lm n nd)) (suf := ((wSa cI cJ cZ a ss rg hw ax fu si au ns) ++ ((wJo cI cJ cZ a jk jd js jt jn) ++ (wEx cI cJ cZ a ef es el ev et eo)))) hD) (q0 := 0) (ci := 1) rfl rfl zT_b zT_m) rfl rfl hl.1 rfl (lv_room (Nat.le_of_ble_eq_true rfl)) dX4_checkNotLapsed_5 ⟨Nat.le_of_ble_eq_true rfl, Nat.le_of_ble_eq_true rfl⟩) hP hS hA (fun r_1 _ H locs hr_1 hP hS => ?_)
  subst hr_1
  refine lv_if_eq (tgt := 22) hx hb dX4_checkNotLapsed_8 (by decide) (fun c_2 => ?_) (fun c_2 => ?_)
  · exact zx_ret (W.vret hx hb hr (fun t ht hW => ⟨⟨(), rfl, (by have := c_2; simp only [F_lapsed] at this; split at this <;> simp_all), trivial⟩, hS.F ht⟩) hS.2.2 dX4_checkNotLapsed_22)
  · exact zx_thrSW (X := zS) (text := "the filing is lapsed") hx hb hflg hts hown (by decide +kernel) k_X4_checkNotLapsed_1 k_X4_checkNotLapsed_2 b_X4_checkNotLapsed_vx_atSRX469javalangIlleg zn_S zg_S hE.2.1.2.1.2.2 (by decide +kernel) hE hS (hl.1.trans hml.symm) dX4_checkNotLapsed_11 dX4_checkNotLapsed_14 dX4_checkNotLapsed_15 dX4_checkNotLapsed_18 dX4_checkNotLapsed_21 hno (Nat.le_of_ble_eq_true rfl) (Nat.le_of_ble_eq_true rfl) (Nat.le_of_ble_eq_true rfl) (Nat.le_of_ble_eq_true rfl) hlocks (fun t ht h1 h2 => ⟨(), trivial, ⟨(by have := c_2; simp only [F_lapsed] at this; split at this <;> simp_all), rfl⟩, z_Fx hS h1 h2⟩) hS.2.2 rfl rfl
theorem k_X4_checkInUse_3 : (Cond.fieldLink RX4 10 "Orbitregister" "filings" "LOrbitregister$Filings;") ∈ wsX4_checkInUse := List.mem_of_getElem? (i := 3) rfl
theorem b_X4_checkInUse_wsX40 : ∀ w ∈ wsX40, w ∈ wsX4_checkInUse := fun _ h => List.mem_cons_of_mem _ (List.mem_append_left _ (List.mem_append_left _ (List.mem_append_right _ h)))
theorem k_X4_checkInUse_4 : (Cond.fieldLink RX4 106 "Orbitregister$Filings" "state" "[I") ∈ wsX4_checkInUse := List.mem_of_getElem? (i := 4) rfl
theorem b_X4_checkInUse_wsX10 : ∀ w ∈ wsX10, w ∈ wsX4_checkInUse := fun _ h => List.mem_cons_of_mem _ (List.mem_append_left _ (List.mem_append_right _ h))
theorem k_X4_checkInUse_1 : (Cond.classLink RX4 65 "java/lang/IllegalStateException") ∈ wsX4_checkInUse := List.mem_of_getElem? (i := 1) rfl
theorem k_X4_checkInUse_2 : (Cond.initialized "java/lang/IllegalStateException") ∈ wsX4_checkInUse := List.mem_of_getElem? (i := 2) rfl
theorem b_X4_checkInUse_vx_atSRX469javalangIlleg : ∀ w ∈ (vx_atS RX4 69 "java/lang/IllegalStateException" ["java/lang/RuntimeException", "java/lang/Exception"]).filter goodWord, w ∈ wsX4_checkInUse := fun _ h => List.mem_cons_of_mem _ (List.mem_append_right _ h)
set_option maxHeartbeats 4000000 in
set_option maxRecDepth 100000 in
theorem c_X4_checkInUse (l : Launch) (hflg : l.stackTraces = false) (D : va_G) (cI cJ cZ : ClassId) (a : Nat → Nat) (sz : Nat) (px : A32) (py : A64) (td : Int32) (ld : A32) (sl : A32) (bd : A32) (pw : A32) (dt : A32) (st : A32) (uc : A32) (sv : A32) (tl : A32) (so : A32) (lm : A32) (n : Nat) (nd : Int32) (ss : A32) (rg : A32) (hw : A32) (ax : A32) (fu : A32) (si : A32) (au : A32) (ns : Nat) (jk : A32) (jd : A32) (js : A32) (jt : A32) (jn : Nat) (ef : Int32) (es : Int32) (el : Int32) (ev : Int32) (et : Int32) (eo : Int32) (x1 : Int32) (x1' : Nat) (e_x1 : x1 = nI x1') (h_x1 : x1' < 40) : zx_Met l yX4_checkInUse wsX4_checkInUse ({ frames := 6, cells := 1, slots := 6, locals := 82 }) (va_Pc [.ref (a 0), .int x1] (ZP D (zt cI cJ cZ) (wAll cI cJ cZ a px py td ld sl bd pw dt st uc sv tl so lm n nd ss rg hw ax fu si au ns jk jd js jt jn ef es el ev et eo) sz (ZX (va_A [] sz)))) (va_Qv (fun (_ : Unit) => st x1' = 2) (fun _ _ => True) (va_A [] sz)) (vx_X (fun _ : Unit => True) (fun E _ _ => ¬ st x1' = 2 ∧ E = zS) (va_A [] sz)) (va_A [] sz) := by
  refine zx_ofW (cc := cX4_checkInUse) (maxL := 2) (ret := none) (by decide) rfl ?_
  intro p e s m args below meth c s₁ B hml hno hv
  obtain ⟨rfl, hsz, hP, hK, hD0, hE⟩ := hv
  have hx := B.exec
  have hb := B.bytes
  have hr := B.returns
  have hts := atoms_spec (ws := wsX4_checkInUse) B.pre
  have hown : s.vm.findClass RX4 = some m.cls := findClass_of_methodNamed B.named
  have hlocks := B.notSynchronized
  subst hsz
  have hD := hD0
  generalize hAe : va_A [] s.heap.size = A at hE ⊢
  have hA : ∀ q : Nat, s.heap.size ≤ q → A q := fun q h => by rw [← hAe]; exact Or.inr h
  have hS : va_S A s.heap s.heap [] := va_S.rf
  have hl := lv_entry ([.ref (a 0), .int x1]) (n := 2) (Nat.le_of_ble_eq_true rfl)
  rw [lg_entry_eq]
  generalize (lg_sl ([.ref (a 0), .int x1]) ++ List.replicate (2 - (lg_sl ([.ref (a 0), .int x1])).length) Slot.unset).toArray = ls at hl ⊢
  have hl : lv_has ls 2 [(0, .ref (a 0)), (1, .int x1)] := hl
  have hP : va_P D vwCl (wAll cI cJ cZ a px py td ld sl bd pw dt st uc sv tl so lm n nd ss rg hw ax fu si au ns jk jd js jt jn ef es el ev et eo) s.heap := hP
  refine lv_aload_n hx hb dX4_checkInUse_0 rfl (lv_at hl 0 rfl) ?_
  refine z_get (ci := 4) (C := RX4) (T := TX4) (N := 7) hx hb hts b_X4_checkInUse_wsX40 hown hK hP 0 rfl rfl 0 (by decide) (hts _ k_X4_checkInUse_3) rfl (.ref (a 3)) rfl dX4_checkInUse_1 ?_
  refine z_get (ci := 1) (C := RX1) (T := TX1) (N := 13) hx hb hts b_X4_checkInUse_wsX10 hown hK hP 3 rfl rfl 5 (by decide) (hts _ k_X4_checkInUse_4) rfl (.ref (a 9)) rfl dX4_checkInUse_4 ?_
  refine lv_iload_n hx hb dX4_checkInUse_7 rfl (lv_at hl 1 rfl) ?_
  refine z_iald hx hb hK hP 9 0 rfl rfl x1' e_x1 (by omega) rfl dX4_checkInUse_8 ?_
  refine lv_iconst (v := 2) hx hb dX4_checkInUse_9 (by decide) ?_
  refine lv_icmp_eq (tgt := 24) hx hb dX4_checkInUse_10 (by decide) (fun c_1 => ?_) (fun c_1 => ?_)
  · exact zx_ret (W.vret hx hb hr (fun t ht hW => ⟨⟨(), rfl, c_1, trivial⟩, hS.F ht⟩) hS.2.2 dX4_checkInUse_24)
  · exact zx_thrSW (X := zS) (text := "the filing is not in use") hx hb hflg hts hown (by decide +kernel) k_X4_checkInUse_1 k_X4_checkInUse_2 b_X4_checkInUse_vx_atSRX469javalangIlleg zn_S zg_S hE.2.1.2.1.2.2 (by decide +kernel) hE hS (hl.1.trans hml.symm) dX4_checkInUse_13 dX4_checkInUse_16 dX4_checkInUse_17 dX4_checkInUse_20 dX4_checkInUse_23 hno (Nat.le_of_ble_eq_true rfl) (Nat.le_of_ble_eq_true rfl) (Nat.le_of_ble_eq_true rfl) (Nat.le_of_ble_eq_true rfl) hlocks (fun t ht h1 h2 => ⟨(), trivial, ⟨c_1, rfl⟩, z_Fx hS h1 h2⟩) hS.2.2 rfl rfl
theorem k_X4_checkActive_3 : (Cond.fieldLink RX4 19 "Orbitregister" "satellites" "LOrbitregister$Satellites;") ∈ wsX4_checkActive := List.mem_of_getElem? (i := 3) rfl
theorem b_X4_checkActive_wsX40 : ∀ w ∈ wsX40, w ∈ wsX4_checkActive := fun _ h => List.mem_cons_of_mem _ (List.mem_append_left _ (List.mem_append_left _ (List.mem_append_right _ h)))
theorem k_X4_checkActive_4 : (Cond.fieldLink RX4 199 "Orbitregister$Satellites" "state" "[I") ∈ wsX4_checkActive := List.mem_of_getElem? (i := 4) rfl
theorem b_X4_checkActive_wsX30 : ∀ w ∈ wsX30, w ∈ wsX4_checkActive := fun _ h => List.mem_cons_of_mem _ (List.mem_append_left _ (List.mem_append_right _ h))
theorem k_X4_checkActive_1 : (Cond.classLink RX4 65 "java/lang/IllegalStateException") ∈ wsX4_checkActive := List.mem_of_getElem? (i := 1) rfl
theorem k_X4_checkActive_2 : (Cond.initialized "java/lang/IllegalStateException") ∈ wsX4_checkActive := List.mem_of_getElem? (i := 2) rfl
theorem b_X4_checkActive_vx_atSRX469javalangIlleg : ∀ w ∈ (vx_atS RX4 69 "java/lang/IllegalStateException" ["java/lang/RuntimeException", "java/lang/Exception"]).filter goodWord, w ∈ wsX4_checkActive := fun _ h => List.mem_cons_of_mem _ (List.mem_append_right _ h)
set_option maxHeartbeats 4000000 in
set_option maxRecDepth 100000 in
theorem c_X4_checkActive (l : Launch) (hflg : l.stackTraces = false) (D : va_G) (cI cJ cZ : ClassId) (a : Nat → Nat) (sz : Nat) (px : A32) (py : A64) (td : Int32) (ld : A32) (sl : A32) (bd : A32) (pw : A32) (dt : A32) (st : A32) (uc : A32) (sv : A32) (tl : A32) (so : A32) (lm : A32) (n : Nat) (nd : Int32) (ss : A32) (rg : A32) (hw : A32) (ax : A32) (fu : A32) (si : A32) (au : A32) (ns : Nat) (jk : A32) (jd : A32) (js : A32) (jt : A32) (jn : Nat) (ef : Int32) (es : Int32) (el : Int32) (ev : Int32) (et : Int32) (eo : Int32) (x1 : Int32) (x1' : Nat) (e_x1 : x1 = nI x1') (h_x1 : x1' < 16) : zx_Met l yX4_checkActive wsX4_checkActive ({ frames := 6, cells := 1, slots := 6, locals := 82 }) (va_Pc [.ref (a 0), .int x1] (ZP D (zt cI cJ cZ) (wAll cI cJ cZ a px py td ld sl bd pw dt st uc sv tl so lm n nd ss rg hw ax fu si au ns jk jd js jt jn ef es el ev et eo) sz (ZX (va_A [] sz)))) (va_Qv (fun (_ : Unit) => hw x1' = 0) (fun _ _ => True) (va_A [] sz)) (vx_X (fun _ : Unit => True) (fun E _ _ => ¬ hw x1' = 0 ∧ E = zS) (va_A [] sz)) (va_A [] sz) := by
  refine zx_ofW (cc := cX4_checkActive) (maxL := 2) (ret := none) (by decide) rfl ?_
  intro p e s m args below meth c s₁ B hml hno hv
  obtain ⟨rfl, hsz, hP, hK, hD0, hE⟩ := hv
  have hx := B.exec
  have hb := B.bytes
  have hr := B.returns
  have hts := atoms_spec (ws := wsX4_checkActive) B.pre
  have hown : s.vm.findClass RX4 = some m.cls := findClass_of_methodNamed B.named
  have hlocks := B.notSynchronized
  subst hsz
  have hD := hD0
  generalize hAe : va_A [] s.heap.size = A at hE ⊢
  have hA : ∀ q : Nat, s.heap.size ≤ q → A q := fun q h => by rw [← hAe]; exact Or.inr h
  have hS : va_S A s.heap s.heap [] := va_S.rf
  have hl := lv_entry ([.ref (a 0), .int x1]) (n := 2) (Nat.le_of_ble_eq_true rfl)
  rw [lg_entry_eq]
  generalize (lg_sl ([.ref (a 0), .int x1]) ++ List.replicate (2 - (lg_sl ([.ref (a 0), .int x1])).length) Slot.unset).toArray = ls at hl ⊢
  have hl : lv_has ls 2 [(0, .ref (a 0)), (1, .int x1)] := hl
  have hP : va_P D vwCl (wAll cI cJ cZ a px py td ld sl bd pw dt st uc sv tl so lm n nd ss rg hw ax fu si au ns jk jd js jt jn ef es el ev et eo) s.heap := hP
  refine lv_aload_n hx hb dX4_checkActive_0 rfl (lv_at hl 0 rfl) ?_
  refine z_get (ci := 4) (C := RX4) (T := TX4) (N := 7) hx hb hts b_X4_checkActive_wsX40 hown hK hP 0 rfl rfl 1 (by decide) (hts _ k_X4_checkActive_3) rfl (.ref (a 15)) rfl dX4_checkActive_1 ?_
  refine z_get (ci := 3) (C := RX3) (T := TX3) (N := 8) hx hb hts b_X4_checkActive_wsX30 hown hK hP 15 rfl rfl 2 (by decide) (hts _ k_X4_checkActive_4) rfl (.ref (a 18)) rfl dX4_checkActive_4 ?_
  refine lv_iload_n hx hb dX4_checkActive_7 rfl (lv_at hl 1 rfl) ?_
  refine z_iald hx hb hK hP 18 0 rfl rfl x1' e_x1 (by omega) rfl dX4_checkActive_8 ?_
  refine lv_if_eq (tgt := 23) hx hb dX4_checkActive_9 (by decide) (fun c_1 => ?_) (fun c_1 => ?_)
  · exact zx_ret (W.vret hx hb hr (fun t ht hW => ⟨⟨(), rfl, c_1, trivial⟩, hS.F ht⟩) hS.2.2 dX4_checkActive_23)
  · exact zx_thrSW (X := zS) (text := "the satellite is not active") hx hb hflg hts hown (by decide +kernel) k_X4_checkActive_1 k_X4_checkActive_2 b_X4_checkActive_vx_atSRX469javalangIlleg zn_S zg_S hE.2.1.2.1.2.2 (by decide +kernel) hE hS (hl.1.trans hml.symm) dX4_checkActive_12 dX4_checkActive_15 dX4_checkActive_16 dX4_checkActive_19 dX4_checkActive_22 hno (Nat.le_of_ble_eq_true rfl) (Nat.le_of_ble_eq_true rfl) (Nat.le_of_ble_eq_true rfl) (Nat.le_of_ble_eq_true rfl) hlocks (fun t ht h1 h2 => ⟨(), trivial, ⟨c_1, rfl⟩, z_Fx hS h1 h2⟩) hS.2.2 rfl rfl
theorem k_X4_checkFuel_3 : (Cond.fieldLink RX4 19 "Orbitregister" "satellites" "LOrbitregister$Satellites;") ∈ wsX4_checkFuel := List.mem_of_getElem? (i := 3) rfl
theorem b_X4_checkFuel_wsX40 : ∀ w ∈ wsX40, w ∈ wsX4_checkFuel := fun _ h => List.mem_cons_of_mem _ (List.mem_append_left _ (List.mem_append_left _ (List.mem_append_right _ h)))
theorem k_X4_checkFuel_4 : (Cond.fieldLink RX4 193 "Orbitregister$Satellites" "fuel" "[I") ∈ wsX4_checkFuel := List.mem_of_getElem? (i := 4) rfl
theorem b_X4_checkFuel_wsX30 : ∀ w ∈ wsX30, w ∈ wsX4_checkFuel := fun _ h => List.mem_cons_of_mem _ (List.mem_append_left _ (List.mem_append_right _ h))
theorem k_X4_checkFuel_1 : (Cond.classLink RX4 65 "java/lang/IllegalStateException") ∈ wsX4_checkFuel := List.mem_of_getElem? (i := 1) rfl
theorem k_X4_checkFuel_2 : (Cond.initialized "java/lang/IllegalStateException") ∈ wsX4_checkFuel := List.mem_of_getElem? (i := 2) rfl
theorem b_X4_checkFuel_vx_atSRX469javalangIlleg : ∀ w ∈ (vx_atS RX4 69 "java/lang/IllegalStateException" ["java/lang/RuntimeException", "java/lang/Exception"]).filter goodWord, w ∈ wsX4_checkFuel := fun _ h => List.mem_cons_of_mem _ (List.mem_append_right _ h)
set_option maxHeartbeats 4000000 in
set_option maxRecDepth 100000 in
theorem c_X4_checkFuel (l : Launch) (hflg : l.stackTraces = false) (D : va_G) (cI cJ cZ : ClassId) (a : Nat → Nat) (sz : Nat) (px : A32) (py : A64) (td : Int32) (ld : A32) (sl : A32) (bd : A32) (pw : A32) (dt : A32) (st : A32) (uc : A32) (sv : A32) (tl : A32) (so : A32) (lm : A32) (n : Nat) (nd : Int32) (ss : A32) (rg : A32) (hw : A32) (ax : A32) (fu : A32) (si : A32) (au : A32) (ns : Nat) (jk : A32) (jd : A32) (js : A32) (jt : A32) (jn : Nat) (ef : Int32) (es : Int32) (el : Int32) (ev : Int32) (et : Int32) (eo : Int32) (x1 : Int32) (x1' : Nat) (e_x1 : x1 = nI x1') (h_x1 : x1' < 16) (x2 : Int32) : zx_Met l yX4_checkFuel wsX4_checkFuel ({ frames := 6, cells := 1, slots := 6, locals := 82 }) (va_Pc [.ref (a 0), .int x1, .int x2] (ZP D (zt cI cJ cZ) (wAll cI cJ cZ a px py td ld sl bd pw dt st uc sv tl so lm n nd ss rg hw ax fu si au ns jk jd js jt jn ef es el ev et eo) sz (ZX (va_A [] sz)))) (va_Qv (fun (_ : Unit) => ¬ fu x1' < x2) (fun _ _ => True) (va_A [] sz)) (vx_X (fun _ : Unit => True) (fun E _ _ => fu x1' < x2 ∧ E = zS) (va_A [] sz)) (va_A [] sz) := by
  refine zx_ofW (cc := cX4_checkFuel) (maxL := 3) (ret := none) (by decide) rfl ?_
  intro p e s m args below meth c s₁ B hml hno hv
  obtain ⟨rfl, hsz, hP, hK, hD0, hE⟩ := hv
  have hx := B.exec
  have hb := B.bytes
  have hr := B.returns
  have hts := atoms_spec (ws := wsX4_checkFuel) B.pre
  have hown : s.vm.findClass RX4 = some m.cls := findClass_of_methodNamed B.named
  have hlocks := B.notSynchronized
  subst hsz
  have hD := hD0
  generalize hAe : va_A [] s.heap.size = A at hE ⊢
  have hA : ∀ q : Nat, s.heap.size ≤ q → A q := fun q h => by rw [← hAe]; exact Or.inr h
  have hS : va_S A s.heap s.heap [] := va_S.rf
  have hl := lv_entry ([.ref (a 0), .int x1, .int x2]) (n := 3) (Nat.le_of_ble_eq_true rfl)
  rw [lg_entry_eq]
  generalize (lg_sl ([.ref (a 0), .int x1, .int x2]) ++ List.replicate (3 - (lg_sl ([.ref (a 0), .int x1, .int x2])).length) Slot.unset).toArray = ls at hl ⊢
  have hl : lv_has ls 3 [(0, .ref (a 0)), (1, .int x1), (2, .int x2)] := hl
  have hP : va_P D vwCl (wAll cI cJ cZ a px py td ld sl bd pw dt st uc sv tl so lm n nd ss rg hw ax fu si au ns jk jd js jt jn ef es el ev et eo) s.heap := hP
  refine lv_aload_n hx hb dX4_checkFuel_0 rfl (lv_at hl 0 rfl) ?_
  refine z_get (ci := 4) (C := RX4) (T := TX4) (N := 7) hx hb hts b_X4_checkFuel_wsX40 hown hK hP 0 rfl rfl 1 (by decide) (hts _ k_X4_checkFuel_3) rfl (.ref (a 15)) rfl dX4_checkFuel_1 ?_
  refine z_get (ci := 3) (C := RX3) (T := TX3) (N := 8) hx hb hts b_X4_checkFuel_wsX30 hown hK hP 15 rfl rfl 4 (by decide) (hts _ k_X4_checkFuel_4) rfl (.ref (a 20)) rfl dX4_checkFuel_4 ?_
  refine lv_iload_n hx hb dX4_checkFuel_7 rfl (lv_at hl 1 rfl) ?_
  refine z_iald hx hb hK hP 20 0 rfl rfl x1' e_x1 (by omega) rfl dX4_checkFuel_8 ?_
  refine lv_iload_n hx hb dX4_checkFuel_9 rfl (lv_at hl 2 rfl) ?_
  refine lv_icmp_ge (tgt := 24) hx hb dX4_checkFuel_10 (by decide) (fun c_1 => ?_) (fun c_1 => ?_)
  · exact zx_ret (W.vret hx hb hr (fun t ht hW => ⟨⟨(), rfl, (z_nlt.mpr c_1), trivial⟩, hS.F ht⟩) hS.2.2 dX4_checkFuel_24)
  · exact zx_thrSW (X := zS) (text := "the satellite has too little fuel") hx hb hflg hts hown (by decide +kernel) k_X4_checkFuel_1 k_X4_checkFuel_2 b_X4_checkFuel_vx_atSRX469javalangIlleg zn_S zg_S hE.2.1.2.1.2.2 (by decide +kernel) hE hS (hl.1.trans hml.symm) dX4_checkFuel_13 dX4_checkFuel_16 dX4_checkFuel_17 dX4_checkFuel_20 dX4_checkFuel_23 hno (Nat.le_of_ble_eq_true rfl) (Nat.le_of_ble_eq_true rfl) (Nat.le_of_ble_eq_true rfl) (Nat.le_of_ble_eq_true rfl) hlocks (fun t ht h1 h2 => ⟨(), trivial, ⟨(z_nle.mp c_1), rfl⟩, z_Fx hS h1 h2⟩) hS.2.2 rfl rfl
