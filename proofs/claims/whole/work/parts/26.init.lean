/-! constructors: an array of a class that is known -/
theorem z_newa {p : Program} {l : Launch} {e : Env} {R : Room} {s : State} {m : MethodId} {args : Array Value} {below : List Frame} {meth : Method} {c : Code} {H : Heap} {locs : List Loc} {cells slots : Nat} {Q : State → Prop} {cc : ByteArray} {pc : Nat} {ls : Array Slot} {rest : List Value} {D : va_G} {A : Nat → Prop} {tys : zTy} {ws : va_W} {H0 : Heap}
    (hexec : p.tables.exec = Jvm.exec) (hb : c.code = cc) {atype : ArrayType} (harr : (Cond.arrayClass (newarray.typeOf atype)).before args s = true) {ty : FieldType} (hty : newarray.typeOf atype = ty) {nm : String} (hnm : ∀ c : ClassId, va_RA s c ty → s.vm.findClass nm = some c) (hK : va_K D vwCl tys s) (t0 : Nat) {cT : ClassId} (ht : tys[t0]? = some (cT, ty)) (hP : va_P D vwCl ws H) (hD : va_D A ws) (hS : va_S A H0 H locs) (hA : ∀ q, H0.size ≤ q → A q)
    {n : Int32} {N' : Nat} {a0 : vp_A} (ha : ∀ cA : ClassId, vp_cell cA a0 = arrV cA N' (fun _ => defaultValue ty)) (hn : ¬ n < 0) (hN : n.toNatClampNeg = N') (hbytes : N' * componentBytes ty ≤ 536870912) (hcells : cells + 1 ≤ R.cells) (hslots : slots + N' ≤ R.slots) (hdg : decode cc pc = .ok (.newarray atype, 2))
    (kk : ∀ (q : Nat) (H1 : Heap), va_P D vwCl (ws ++ [(q, .inl (cT, a0))]) H1 → va_D A (ws ++ [(q, .inl (cT, a0))]) → va_S A H0 H1 locs →
      W p l e R s m args below meth c H1 locs (cells + 1) (slots + N') Q (F0 m (pc + 2) ls (.ref q :: rest))) : W p l e R s m args below meth c H locs cells slots Q (F0 m pc ls (.int n :: rest)) := by
  refine va_newa hexec hb harr hty hK hP hD hS hA ha hn hN hbytes hcells hslots hdg (fun q cA H1 hK1 hP1 hD1 hS1 => ?_)
  have h1 := (hK.2 t0 _ ht).2
  have h2 := (hK1.2 tys.length (cA, ty) (by simp)).2
  have e : cA = cT := Option.some.inj ((hnm _ h2).symm.trans (hnm _ h1))
  subst e
  exact kk q H1 hP1 hD1 hS1
theorem z_arrI {s : State} {args : Array Value} (h : (Cond.arrayClass .int).before args s = true) : ∃ cA : ClassId, ArrOfT s cA .int ∧ va_RA s cA .int := by
  obtain ⟨cA, kA, comp, h1, h2, h3⟩ := Cond.arrayClass_spec h
  exact ⟨cA, fun n z => ⟨fun k h => (by cases h), kA, h2, comp, h3⟩, h1⟩
theorem z_arrJ {s : State} {args : Array Value} (h : (Cond.arrayClass .long).before args s = true) : ∃ cA : ClassId, ArrOfT s cA .long ∧ va_RA s cA .long := by
  obtain ⟨cA, kA, comp, h1, h2, h3⟩ := Cond.arrayClass_spec h
  exact ⟨cA, fun n z => ⟨fun k h => (by cases h), kA, h2, comp, h3⟩, h1⟩
theorem z_arrZ {s : State} {args : Array Value} (h : (Cond.arrayClass .boolean).before args s = true) : ∃ cA : ClassId, ArrOfT s cA .boolean ∧ va_RA s cA .boolean := by
  obtain ⟨cA, kA, comp, h1, h2, h3⟩ := Cond.arrayClass_spec h
  exact ⟨cA, fun n z => ⟨fun k h => (by cases h), kA, h2, comp, h3⟩, h1⟩
def ZI (U : State) : Prop := (va_Nw (.methodLinkNest RX4 9 yX1_init RX4) U ∧ va_Nw (.methodLinkNest RX4 18 yX3_init RX4) U) ∧ va_Nw (.methodLinkNest RX4 25 yX2_init RX4) U ∧ va_Nw (.methodLinkNest RX4 32 yX0_init RX4) U
abbrev z0 : A32 := fun _ => 0
abbrev z0L : A64 := fun _ => 0
/-- -1 in the first k places -/
def G_fill : Nat → A32
  | 0 => z0
  | k + 1 => upd (G_fill k) k (-1)

theorem k_X1_init_1 : (Cond.methodLink RX1 3 objectInit) ∈ wsX1_init := List.mem_of_getElem? (i := 1) rfl
theorem k_X1_init_2 : (Cond.instanceMethod objectInit) ∈ wsX1_init := List.mem_of_getElem? (i := 2) rfl
theorem k_X1_init_3 : (Cond.code objectInit ⟨#[0xb1]⟩ 1 none) ∈ wsX1_init := List.mem_of_getElem? (i := 3) rfl
theorem k_X1_init_4 : (Cond.arrayClass .int) ∈ wsX1_init := List.mem_of_getElem? (i := 4) rfl
theorem k_X1_init_5 : (Cond.fieldLink RX1 9 "Orbitregister$Filings" "land" "[I") ∈ wsX1_init := List.mem_of_getElem? (i := 5) rfl
theorem b_X1_init_wsX10 : ∀ w ∈ wsX10, w ∈ wsX1_init := fun _ h => List.mem_cons_of_mem _ (List.mem_append_right _ h)
theorem k_X1_init_6 : (Cond.fieldLink RX1 15 "Orbitregister$Filings" "slot" "[I") ∈ wsX1_init := List.mem_of_getElem? (i := 6) rfl
theorem k_X1_init_7 : (Cond.fieldLink RX1 18 "Orbitregister$Filings" "band" "[I") ∈ wsX1_init := List.mem_of_getElem? (i := 7) rfl
theorem k_X1_init_8 : (Cond.fieldLink RX1 21 "Orbitregister$Filings" "power" "[I") ∈ wsX1_init := List.mem_of_getElem? (i := 8) rfl
theorem k_X1_init_9 : (Cond.fieldLink RX1 24 "Orbitregister$Filings" "date" "[I") ∈ wsX1_init := List.mem_of_getElem? (i := 9) rfl
theorem k_X1_init_10 : (Cond.fieldLink RX1 27 "Orbitregister$Filings" "state" "[I") ∈ wsX1_init := List.mem_of_getElem? (i := 10) rfl
theorem k_X1_init_11 : (Cond.arrayClass .boolean) ∈ wsX1_init := List.mem_of_getElem? (i := 11) rfl
theorem k_X1_init_12 : (Cond.fieldLink RX1 30 "Orbitregister$Filings" "isUnclear" "[Z") ∈ wsX1_init := List.mem_of_getElem? (i := 12) rfl
theorem k_X1_init_13 : (Cond.fieldLink RX1 34 "Orbitregister$Filings" "server" "[I") ∈ wsX1_init := List.mem_of_getElem? (i := 13) rfl
theorem k_X1_init_14 : (Cond.fieldLink RX1 37 "Orbitregister$Filings" "toldOn" "[I") ∈ wsX1_init := List.mem_of_getElem? (i := 14) rfl
theorem k_X1_init_15 : (Cond.fieldLink RX1 40 "Orbitregister$Filings" "suspendedOn" "[I") ∈ wsX1_init := List.mem_of_getElem? (i := 15) rfl
theorem k_X1_init_16 : (Cond.fieldLink RX1 43 "Orbitregister$Filings" "limits" "[I") ∈ wsX1_init := List.mem_of_getElem? (i := 16) rfl
set_option maxHeartbeats 4000000 in
set_option maxRecDepth 100000 in
theorem c_X1_init (l : Launch) (D : va_G) (cI cJ cZ : ClassId) (h0 sz : Nat) : Met l yX1_init wsX1_init ({ frames := 1, cells := 11, slots := 2000, locals := 12 }) (va_Pc [.ref h0] (ZP D (zt cI cJ cZ) [(h0, .inr (1, [.null, .null, .null, .null, .null, .null, .null, .null, .null, .null, .null, .int 0, .int 0]))] sz zT)) (va_Qv (fun a : Nat → Nat => a 3 = h0) (fun a t => va_P D vwCl (wFi cI cJ cZ a z0 z0 z0 z0 z0 z0 z0 z0 z0 z0 z0 0 0) t.heap ∧ va_D (va_A [(h0, .inr (1, [.null, .null, .null, .null, .null, .null, .null, .null, .null, .null, .null, .int 0, .int 0]))] sz) (wFi cI cJ cZ a z0 z0 z0 z0 z0 z0 z0 z0 z0 z0 z0 0 0)) (va_A [(h0, .inr (1, [.null, .null, .null, .null, .null, .null, .null, .null, .null, .null, .null, .int 0, .int 0]))] sz)) 11 2000 (va_A [(h0, .inr (1, [.null, .null, .null, .null, .null, .null, .null, .null, .null, .null, .null, .int 0, .int 0]))] sz) := by
  refine Met.ofW (cc := cX1_init) (maxL := 1) (ret := none) (by decide) rfl ?_
  intro p e s m args below meth c s₁ B hml hv
  obtain ⟨rfl, hsz, hP, hK, hD0, hE⟩ := hv
  have hx := B.exec
  have hb := B.bytes
  have hr := B.returns
  have hts := atoms_spec (ws := wsX1_init) B.pre
  have hown : s.vm.findClass RX1 = some m.cls := findClass_of_methodNamed B.named
  have hlocks := B.notSynchronized
  have hin : meth.name = "<init>" := (name_of_methodNamed B.named B.method).1
  subst hsz
  have hD := hD0.self (sz := s.heap.size)
  generalize hAe : va_A [(h0, .inr (1, [.null, .null, .null, .null, .null, .null, .null, .null, .null, .null, .null, .int 0, .int 0]))] s.heap.size = A at hD ⊢
  have hA : ∀ q : Nat, s.heap.size ≤ q → A q := fun q h => by rw [← hAe]; exact Or.inr h
  have hS : va_S A s.heap s.heap [] := va_S.rf
  have hl := lv_entry ([.ref h0]) (n := 1) (Nat.le_of_ble_eq_true rfl)
  rw [lg_entry_eq]
  generalize (lg_sl ([.ref h0]) ++ List.replicate (1 - (lg_sl ([.ref h0])).length) Slot.unset).toArray = ls at hl ⊢
  have hl : lv_has ls 1 [(0, .ref h0)] := hl
  have hP : va_P D vwCl [(h0, .inr (1, [.null, .null, .null, .null, .null, .null, .null, .null, .null, .null, .null, .int 0, .int 0]))] s.heap := hP
  refine lv_aload_n hx hb dX1_init_0 rfl (lv_at hl 0 rfl) ?_
  refine W.objInit hx hb hown (hts _ k_X1_init_1) (hts _ k_X1_init_2) (hts _ k_X1_init_3) rfl (by rw [hml]; exact hl.1) rfl dX1_init_1 (Nat.le_of_ble_eq_true rfl) (Nat.le_of_ble_eq_true rfl) ?_
  refine W.eq (g2 := F0 m 4 ls []) rfl ?_
  refine lv_aload_n hx hb dX1_init_4 rfl (lv_at hl 0 rfl) ?_
  refine lv_bipush (v := 40) hx hb dX1_init_5 (by decide) ?_
  refine z_newa (atype := .int) (ty := .int) hx hb (hts _ k_X1_init_4) rfl (fun _ h => va_nm_int h) hK 0 rfl hP hD hS hA (N' := 40) (a0 := (40, .inl z0)) (fun _ => rfl) (by decide) (by decide) (Nat.le_of_ble_eq_true rfl) (Nat.le_of_ble_eq_true rfl) (Nat.le_of_ble_eq_true rfl) dX1_init_7 (fun q7 H hP hD hS => ?_)
  refine va_putF (D := D) (ci := 1) (v := .ref q7) (ty := tyX1 0) (C := RX1) (T := TX1) (N := 13) hx hb hts b_X1_init_wsX10 tyX1 tyX1_ok nmX1 hown hK hP hD hS 0 rfl rfl 0 (by decide) (hts _ k_X1_init_5) (fun _ h9 => h9) rfl hin rfl (by decide +kernel) rfl rfl (Nat.le_of_ble_eq_true rfl) dX1_init_9 (fun H locs hP hD hS => ?_)
  have hP : va_P D vwCl [(h0, .inr (1, [.ref q7, .null, .null, .null, .null, .null, .null, .null, .null, .null, .null, .int 0, .int 0])), (q7, .inl (cI, 40, .inl z0))] H := hP
  have hD : va_D A [(h0, .inr (1, [.ref q7, .null, .null, .null, .null, .null, .null, .null, .null, .null, .null, .int 0, .int 0])), (q7, .inl (cI, 40, .inl z0))] := hD
  refine lv_aload_n hx hb dX1_init_12 rfl (lv_at hl 0 rfl) ?_
  refine lv_bipush (v := 40) hx hb dX1_init_13 (by decide) ?_
  refine z_newa (atype := .int) (ty := .int) hx hb (hts _ k_X1_init_4) rfl (fun _ h => va_nm_int h) hK 0 rfl hP hD hS hA (N' := 40) (a0 := (40, .inl z0)) (fun _ => rfl) (by decide) (by decide) (Nat.le_of_ble_eq_true rfl) (Nat.le_of_ble_eq_true rfl) (Nat.le_of_ble_eq_true rfl) dX1_init_15 (fun q15 H hP hD hS => ?_)
  refine va_putF (D := D) (ci := 1) (v := .ref q15) (ty := tyX1 1) (C := RX1) (T := TX1) (N := 13) hx hb hts b_X1_init_wsX10 tyX1 tyX1_ok nmX1 hown hK hP hD hS 0 rfl rfl 1 (by decide) (hts _ k_X1_init_6) (fun _ h9 => h9) rfl hin rfl (by decide +kernel) rfl rfl (Nat.le_of_ble_eq_true rfl) dX1_init_17 (fun H locs hP hD hS => ?_)
  have hP : va_P D vwCl [(h0, .inr (1, [.ref q7, .ref q15, .null, .null, .null, .null, .null, .null, .null, .null, .null, .int 0, .int 0])), (q7, .inl (cI, 40, .inl z0)), (q15, .inl (cI, 40, .inl z0))] H := hP
  have hD : va_D A [(h0, .inr (1, [.ref q7, .ref q15, .null, .null, .null, .null, .null, .null, .null, .null, .null, .int 0, .int 0])), (q7, .inl (cI, 40, .inl z0)), (q15, .inl (cI, 40, .inl z0))] := hD
  refine lv_aload_n hx hb dX1_init_20 rfl (lv_at hl 0 rfl) ?_
  refine lv_bipush (v := 40) hx hb dX1_init_21 (by decide) ?_
  refine z_newa (atype := .int) (ty := .int) hx hb (hts _ k_X1_init_4) rfl (fun _ h => va_nm_int h) hK 0 rfl hP hD hS hA (N' := 40) (a0 := (40, .inl z0)) (fun _ => rfl) (by decide) (by decide) (Nat.le_of_ble_eq_true rfl) (Nat.le_of_ble_eq_true rfl) (Nat.le_of_ble_eq_true rfl) dX1_init_23 (fun q23 H hP hD hS => ?_)
  refine va_putF (D := D) (ci := 1) (v := .ref q23) (ty := tyX1 2) (C := RX1) (T := TX1) (N := 13) hx hb hts b_X1_init_wsX10 tyX1 tyX1_ok nmX1 hown hK hP hD hS 0 rfl rfl 2 (by decide) (hts _ k_X1_init_7) (fun _ h9 => h9) rfl hin rfl (by decide +kernel) rfl rfl (Nat.le_of_ble_eq_true rfl) dX1_init_25 (fun H locs hP hD hS => ?_)
  have hP : va_P D vwCl [(h0, .inr (1, [.ref q7, .ref q15, .ref q23, .null, .null, .null, .null, .null, .null, .null, .null, .int 0, .int 0])), (q7, .inl (cI, 40, .inl z0)), (q15, .inl (cI, 40, .inl z0)), (q23, .inl (cI, 40, .inl z0))] H := hP
  have hD : va_D A [(h0, .inr (1, [.ref q7, .ref q15, .ref q23, .null, .null, .null, .null, .null, .null, .null, .null, .int 0, .int 0])), (q7, .inl (cI, 40, .inl z0)), (q15, .inl (cI, 40, .inl z0)), (q23, .inl (cI, 40, .inl z0))] := hD
  refine lv_aload_n hx hb dX1_init_28 rfl (lv_at hl 0 rfl) ?_
  refine lv_bipush (v := 40) hx hb dX1_init_29 (by decide) ?_
  refine z_newa (atype := .int) (ty := .int) hx hb (hts _ k_X1_init_4) rfl (fun _ h => va_nm_int h) hK 0 rfl hP hD hS hA (N' := 40) (a0 := (40, .inl z0)) (fun _ => rfl) (by decide) (by decide) (Nat.le_of_ble_eq_true rfl) (Nat.le_of_ble_eq_true rfl) (Nat.le_of_ble_eq_true rfl) dX1_init_31 (fun q31 H hP hD hS => ?_)
  refine va_putF (D := D) (ci := 1) (v := .ref q31) (ty := tyX1 3) (C := RX1) (T := TX1) (N := 13) hx hb hts b_X1_init_wsX10 tyX1 tyX1_ok nmX1 hown hK hP hD hS 0 rfl rfl 3 (by decide) (hts _ k_X1_init_8) (fun _ h9 => h9) rfl hin rfl (by decide +kernel) rfl rfl (Nat.le_of_ble_eq_true rfl) dX1_init_33 (fun H locs hP hD hS => ?_)
  have hP : va_P D vwCl [(h0, .inr (1, [.ref q7, .ref q15, .ref q23, .ref q31, .null, .null, .null, .null, .null, .null, .null, .int 0, .int 0])), (q7, .inl (cI, 40, .inl z0)), (q15, .inl (cI, 40, .inl z0)), (q23, .inl (cI, 40, .inl z0)), (q31, .inl (cI, 40, .inl z0))] H := hP
  have hD : va_D A [(h0, .inr (1, [.ref q7, .ref q15, .ref q23, .ref q31, .null, .null, .null, .null, .null, .null, .null, .int 0, .int 0])), (q7, .inl (cI, 40, .inl z0)), (q15, .inl (cI, 40, .inl z0)), (q23, .inl (cI, 40, .inl z0)), (q31, .inl (cI, 40, .inl z0))] := hD
  refine lv_aload_n hx hb dX1_init_36 rfl (lv_at hl 0 rfl) ?_
  refine lv_bipush (v := 40) hx hb dX1_init_37 (by decide) ?_
  refine z_newa (atype := .int) (ty := .int) hx hb (hts _ k_X1_init_4) rfl (fun _ h => va_nm_int h) hK 0 rfl hP hD hS hA (N' := 40) (a0 := (40, .inl z0)) (fun _ => rfl) (by decide) (by decide) (Nat.le_of_ble_eq_true rfl) (Nat.le_of_ble_eq_true rfl) (Nat.le_of_ble_eq_true rfl) dX1_init_39 (fun q39 H hP hD hS => ?_)
  refine va_putF (D := D) (ci := 1) (v := .ref q39) (ty := tyX1 4) (C := RX1) (T := TX1) (N := 13) hx hb hts b_X1_init_wsX10 tyX1 tyX1_ok nmX1 hown hK hP hD hS 0 rfl rfl 4 (by decide) (hts _ k_X1_init_9) (fun _ h9 => h9) rfl hin rfl (by decide +kernel) rfl rfl (Nat.le_of_ble_eq_true rfl) dX1_init_41 (fun H locs hP hD hS => ?_)
  have hP : va_P D vwCl [(h0, .inr (1, [.ref q7, .ref q15, .ref q23, .ref q31, .ref q39, .null, .null, .null, .null, .null, .null, .int 0, .int 0])), (q7, .inl (cI, 40, .inl z0)), (q15, .inl (cI, 40, .inl z0)), (q23, .inl (cI, 40, .inl z0)), (q31, .inl (cI, 40, .inl z0)), (q39, .inl (cI, 40, .inl z0))] H := hP
  have hD : va_D A [(h0, .inr (1, [.ref q7, .ref q15, .ref q23, .ref q31, .ref q39, .null, .null, .null, .null, .null, .null, .int 0, .int 0])), (q7, .inl (cI, 40, .inl z0)), (q15, .inl (cI, 40, .inl z0)), (q23, .inl (cI, 40, .inl z0)), (q31, .inl (cI, 40, .inl z0)), (q39, .inl (cI, 40, .inl z0))] := hD
  refine lv_aload_n hx hb dX1_init_44 rfl (lv_at hl 0 rfl) ?_
  refine lv_bipush (v := 40) hx hb dX1_init_45 (by decide) ?_
  refine z_newa (atype := .int) (ty := .int) hx hb (hts _ k_X1_init_4) rfl (fun _ h => va_nm_int h) hK 0 rfl hP hD hS hA (N' := 40) (a0 := (40, .inl z0)) (fun _ => rfl) (by decide) (by decide) (Nat.le_of_ble_eq_true rfl) (Nat.le_of_ble_eq_true rfl) (Nat.le_of_ble_eq_true rfl) dX1_init_47 (fun q47 H hP hD hS => ?_)
  refine va_putF (D := D) (ci := 1) (v := .ref q47) (ty := tyX1 5) (C := RX1) (T := TX1) (N := 13) hx hb hts b_X1_init_wsX10 tyX1 tyX1_ok nmX1 hown hK hP hD hS 0 rfl rfl 5 (by decide) (hts _ k_X1_init_10) (fun _ h9 => h9) rfl hin rfl (by decide +kernel) rfl rfl (Nat.le_of_ble_eq_true rfl) dX1_init_49 (fun H locs hP hD hS => ?_)
  have hP : va_P D vwCl [(h0, .inr (1, [.ref q7, .ref q15, .ref q23, .ref q31, .ref q39, .ref q47, .null, .null, .null, .null, .null, .int 0, .int 0])), (q7, .inl (cI, 40, .inl z0)), (q15, .inl (cI, 40, .inl z0)), (q23, .inl (cI, 40, .inl z0)), (q31, .inl (cI, 40, .inl z0)), (q39, .inl (cI, 40, .inl z0)), (q47, .inl (cI, 40, .inl z0))] H := hP
  have hD : va_D A [(h0, .inr (1, [.ref q7, .ref q15, .ref q23, .ref q31, .ref q39, .ref q47, .null, .null, .null, .null, .null, .int 0, .int 0])), (q7, .inl (cI, 40, .inl z0)), (q15, .inl (cI, 40, .inl z0)), (q23, .inl (cI, 40, .inl z0)), (q31, .inl (cI, 40, .inl z0)), (q39, .inl (cI, 40, .inl z0)), (q47, .inl (cI, 40, .inl z0))] := hD
  refine lv_aload_n hx hb dX1_init_52 rfl (lv_at hl 0 rfl) ?_
  refine lv_bipush (v := 40) hx hb dX1_init_53 (by decide) ?_
  refine z_newa (atype := .boolean) (ty := .boolean) hx hb (hts _ k_X1_init_11) rfl (fun _ h => va_nm_boolean h) hK 2 rfl hP hD hS hA (N' := 40) (a0 := (40, .inl z0)) (fun _ => rfl) (by decide) (by decide) (Nat.le_of_ble_eq_true rfl) (Nat.le_of_ble_eq_true rfl) (Nat.le_of_ble_eq_true rfl) dX1_init_55 (fun q55 H hP hD hS => ?_)
  refine va_putF (D := D) (ci := 1) (v := .ref q55) (ty := tyX1 6) (C := RX1) (T := TX1) (N := 13) hx hb hts b_X1_init_wsX10 tyX1 tyX1_ok nmX1 hown hK hP hD hS 0 rfl rfl 6 (by decide) (hts _ k_X1_init_12) (fun _ h9 => h9) rfl hin rfl (by decide +kernel) rfl rfl (Nat.le_of_ble_eq_true rfl) dX1_init_57 (fun H locs hP hD hS => ?_)
  have hP : va_P D vwCl [(h0, .inr (1, [.ref q7, .ref q15, .ref q23, .ref q31, .ref q39, .ref q47, .ref q55, .null, .null, .null, .null, .int 0, .int 0])), (q7, .inl (cI, 40, .inl z0)), (q15, .inl (cI, 40, .inl z0)), (q23, .inl (cI, 40, .inl z0)), (q31, .inl (cI, 40, .inl z0)), (q39, .inl (cI, 40, .inl z0)), (q47, .inl (cI, 40, .inl z0)), (q55, .inl (cZ, 40, .inl z0))] H := hP
  have hD : va_D A [(h0, .inr (1, [.ref q7, .ref q15, .ref q23, .ref q31, .ref q39, .ref q47, .ref q55, .null, .null, .null, .null, .int 0, .int 0])), (q7, .inl (cI, 40, .inl z0)), (q15, .inl (cI, 40, .inl z0)), (q23, .inl (cI, 40, .inl z0)), (q31, .inl (cI, 40, .inl z0)), (q39, .inl (cI, 40, .inl z0)), (q47, .inl (cI, 40, .inl z0)), (q55, .inl (cZ, 40, .inl z0))] := hD
  refine lv_aload_n hx hb dX1_init_60 rfl (lv_at hl 0 rfl) ?_
  refine lv_bipush (v := 40) hx hb dX1_init_61 (by decide) ?_
  refine z_newa (atype := .int) (ty := .int) hx hb (hts _ k_X1_init_4) rfl (fun _ h => va_nm_int h) hK 0 rfl hP hD hS hA (N' := 40) (a0 := (40, .inl z0)) (fun _ => rfl) (by decide) (by decide) (Nat.le_of_ble_eq_true rfl) (Nat.le_of_ble_eq_true rfl) (Nat.le_of_ble_eq_true rfl) dX1_init_63 (fun q63 H hP hD hS => ?_)
  refine va_putF (D := D) (ci := 1) (v := .ref q63) (ty := tyX1 7) (C := RX1) (T := TX1) (N := 13) hx hb hts b_X1_init_wsX10 tyX1 tyX1_ok nmX1 hown hK hP hD hS 0 rfl rfl 7 (by decide) (hts _ k_X1_init_13) (fun _ h9 => h9) rfl hin rfl (by decide +kernel) rfl rfl (Nat.le_of_ble_eq_true rfl) dX1_init_65 (fun H locs hP hD hS => ?_)
  have hP : va_P D vwCl [(h0, .inr (1, [.ref q7, .ref q15, .ref q23, .ref q31, .ref q39, .ref q47, .ref q55, .ref q63, .null, .null, .null, .int 0, .int 0])), (q7, .inl (cI, 40, .inl z0)), (q15, .inl (cI, 40, .inl z0)), (q23, .inl (cI, 40, .inl z0)), (q31, .inl (cI, 40, .inl z0)), (q39, .inl (cI, 40, .inl z0)), (q47, .inl (cI, 40, .inl z0)), (q55, .inl (cZ, 40, .inl z0)), (q63, .inl (cI, 40, .inl z0))] H := hP
  have hD : va_D A [(h0, .inr (1, [.ref q7, .ref q15, .ref q23, .ref q31, .ref q39, .ref q47, .ref q55, .ref q63, .null, .null, .null, .int 0, .int 0])), (q7, .inl (cI, 40, .inl z0)), (q15, .inl (cI, 40, .inl z0)), (q23, .inl (cI, 40, .inl z0)), (q31, .inl (cI, 40, .inl z0)), (q39, .inl (cI, 40, .inl z0)), (q47, .inl (cI, 40, .inl z0)), (q55, .inl (cZ, 40, .inl z0)), (q63, .inl (cI, 40, .inl z0))] := hD
  refine lv_aload_n hx hb dX1_init_68 rfl (lv_at hl 0 rfl) ?_
  refine lv_bipush (v := 40) hx hb dX1_init_69 (by decide) ?_
  refine z_newa (atype := .int) (ty := .int) hx hb (hts _ k_X1_init_4) rfl (fun _ h => va_nm_int h) hK 0 rfl hP hD hS hA (N' := 40) (a0 := (40, .inl z0)) (fun _ => rfl) (by decide) (by decide) (Nat.le_of_ble_eq_true rfl) (Nat.le_of_ble_eq_true rfl) (Nat.le_of_ble_eq_true rfl) dX1_init_71 (fun q71 H hP hD hS => ?_)
  refine va_putF (D := D) (ci := 1) (v := .ref q71) (ty := tyX1 8) (C := RX1) (T := TX1) (N := 13) hx hb hts b_X1_init_wsX10 tyX1 tyX1_ok nmX1 hown hK hP hD hS 0 rfl rfl 8 (by decide) (hts _ k_X1_init_14) (fun _ h9 => h9) rfl hin rfl (by decide +kernel) rfl rfl (Nat.le_of_ble_eq_true rfl) dX1_init_73 (fun H locs hP hD hS => ?_)
  have hP : va_P D vwCl [(h0, .inr (1, [.ref q7, .ref q15, .ref q23, .ref q31, .ref q39, .ref q47, .ref q55, .ref q63, .ref q71, .null, .null, .int 0, .int 0])), (q7, .inl (cI, 40, .inl z0)), (q15, .inl (cI, 40, .inl z0)), (q23, .inl (cI, 40, .inl z0)), (q31, .inl (cI, 40, .inl z0)), (q39, .inl (cI, 40, .inl z0)), (q47, .inl (cI, 40, .inl z0)), (q55, .inl (cZ, 40, .inl z0)), (q63, .inl (cI, 40, .inl z0)), (q71, .inl (cI, 40, .inl z0))] H := hP
  have hD : va_D A [(h0, .inr (1, [.ref q7, .ref q15, .ref q23, .ref q31, .ref q39, .ref q47, .ref q55, .ref q63, .ref q71, .null, .null, .int 0, .int 0])), (q7, .inl (cI, 40, .inl z0)), (q15, .inl (cI, 40, .inl z0)), (q23, .inl (cI, 40, .inl z0)), (q31, .inl (cI, 40, .inl z0)), (q39, .inl (cI, 40, .inl z0)), (q47, .inl (cI, 40, .inl z0)), (q55, .inl (cZ, 40, .inl z0)), (q63, .inl (cI, 40, .inl z0)), (q71, .inl (cI, 40, .inl z0))] := hD
  refine lv_aload_n hx hb dX1_init_76 rfl (lv_at hl 0 rfl) ?_
  refine lv_bipush (v := 40) hx hb dX1_init_77 (by decide) ?_
  refine z_newa (atype := .int) (ty := .int) hx hb (hts _ k_X1_init_4) rfl (fun _ h => va_nm_int h) hK 0 rfl hP hD hS hA (N' := 40) (a0 := (40, .inl z0)) (fun _ => rfl) (by decide) (by decide) (Nat.le_of_ble_eq_true rfl) (Nat.le_of_ble_eq_true rfl) (Nat.le_of_ble_eq_true rfl) dX1_init_79 (fun q79 H hP hD hS => ?_)
  refine va_putF (D := D) (ci := 1) (v := .ref q79) (ty := tyX1 9) (C := RX1) (T := TX1) (N := 13) hx hb hts b_X1_init_wsX10 tyX1 tyX1_ok nmX1 hown hK hP hD hS 0 rfl rfl 9 (by decide) (hts _ k_X1_init_15) (fun _ h9 => h9) rfl hin rfl (by decide +kernel) rfl rfl (Nat.le_of_ble_eq_true rfl) dX1_init_81 (fun H locs hP hD hS => ?_)
  have hP : va_P D vwCl [(h0, .inr (1, [.ref q7, .ref q15, .ref q23, .ref q31, .ref q39, .ref q47, .ref q55, .ref q63, .ref q71, .ref q79, .null, .int 0, .int 0])), (q7, .inl (cI, 40, .inl z0)), (q15, .inl (cI, 40, .inl z0)), (q23, .inl (cI, 40, .inl z0)), (q31, .inl (cI, 40, .inl z0)), (q39, .inl (cI, 40, .inl z0)), (q47, .inl (cI, 40, .inl z0)), (q55, .inl (cZ, 40, .inl z0)), (q63, .inl (cI, 40, .inl z0)), (q71, .inl (cI, 40, .inl z0)), (q79, .inl (cI, 40, .inl z0))] H := hP
  have hD : va_D A [(h0, .inr (1, [.ref q7, .ref q15, .ref q23, .ref q31, .ref q39, .ref q47, .ref q55, .ref q63, .ref q71, .ref q79, .null, .int 0, .int 0])), (q7, .inl (cI, 40, .inl z0)), (q15, .inl (cI, 40, .inl z0)), (q23, .inl (cI, 40, .inl z0)), (q31, .inl (cI, 40, .inl z0)), (q39, .inl (cI, 40, .inl z0)), (q47, .inl (cI, 40, .inl z0)), (q55, .inl (cZ, 40, .inl z0)), (q63, .inl (cI, 40, .inl z0)), (q71, .inl (cI, 40, .inl z0)), (q79, .inl (cI, 40, .inl z0))] := hD
  refine lv_aload_n hx hb dX1_init_84 rfl (lv_at hl 0 rfl) ?_
  refine lv_sipush (v := 1600) hx hb dX1_init_85 (by decide) ?_
  refine z_newa (atype := .int) (ty := .int) hx hb (hts _ k_X1_init_4) rfl (fun _ h => va_nm_int h) hK 0 rfl hP hD hS hA (N' := 1600) (a0 := (1600, .inl z0)) (fun _ => rfl) (by decide) (by decide) (Nat.le_of_ble_eq_true rfl) (Nat.le_of_ble_eq_true rfl) (Nat.le_of_ble_eq_true rfl) dX1_init_88 (fun q88 H hP hD hS => ?_)
  refine va_putF (D := D) (ci := 1) (v := .ref q88) (ty := tyX1 10) (C := RX1) (T := TX1) (N := 13) hx hb hts b_X1_init_wsX10 tyX1 tyX1_ok nmX1 hown hK hP hD hS 0 rfl rfl 10 (by decide) (hts _ k_X1_init_16) (fun _ h9 => h9) rfl hin rfl (by decide +kernel) rfl rfl (Nat.le_of_ble_eq_true rfl) dX1_init_90 (fun H locs hP hD hS => ?_)
  have hP : va_P D vwCl [(h0, .inr (1, [.ref q7, .ref q15, .ref q23, .ref q31, .ref q39, .ref q47, .ref q55, .ref q63, .ref q71, .ref q79, .ref q88, .int 0, .int 0])), (q7, .inl (cI, 40, .inl z0)), (q15, .inl (cI, 40, .inl z0)), (q23, .inl (cI, 40, .inl z0)), (q31, .inl (cI, 40, .inl z0)), (q39, .inl (cI, 40, .inl z0)), (q47, .inl (cI, 40, .inl z0)), (q55, .inl (cZ, 40, .inl z0)), (q63, .inl (cI, 40, .inl z0)), (q71, .inl (cI, 40, .inl z0)), (q79, .inl (cI, 40, .inl z0)), (q88, .inl (cI, 1600, .inl z0))] H := hP
  have hD : va_D A [(h0, .inr (1, [.ref q7, .ref q15, .ref q23, .ref q31, .ref q39, .ref q47, .ref q55, .ref q63, .ref q71, .ref q79, .ref q88, .int 0, .int 0])), (q7, .inl (cI, 40, .inl z0)), (q15, .inl (cI, 40, .inl z0)), (q23, .inl (cI, 40, .inl z0)), (q31, .inl (cI, 40, .inl z0)), (q39, .inl (cI, 40, .inl z0)), (q47, .inl (cI, 40, .inl z0)), (q55, .inl (cZ, 40, .inl z0)), (q63, .inl (cI, 40, .inl z0)), (q71, .inl (cI, 40, .inl z0)), (q79, .inl (cI, 40, .inl z0)), (q88, .inl (cI, 1600, .inl z0))] := hD
  have hP9 : va_P D vwCl (wFi cI cJ cZ (fun k => List.getD [h0, q7, q15, q23, q31, q39, q47, q55, q63, q71, q79, q88] (k - 3) 0) z0 z0 z0 z0 z0 z0 z0 z0 z0 z0 z0 0 0) H := hP
  have hD9 : va_D A (wFi cI cJ cZ (fun k => List.getD [h0, q7, q15, q23, q31, q39, q47, q55, q63, q71, q79, q88] (k - 3) 0) z0 z0 z0 z0 z0 z0 z0 z0 z0 z0 z0 0 0) := hD
  exact W.vret hx hb hr (fun t ht hW => ⟨⟨(fun k => List.getD [h0, q7, q15, q23, q31, q39, q47, q55, q63, q71, q79, q88] (k - 3) 0), rfl, rfl, z_at ht hP9, hD9⟩, hS.F ht⟩) hS.2.2 dX1_init_93
theorem k_X2_init_1 : (Cond.methodLink RX2 3 objectInit) ∈ wsX2_init := List.mem_of_getElem? (i := 1) rfl
theorem k_X2_init_2 : (Cond.instanceMethod objectInit) ∈ wsX2_init := List.mem_of_getElem? (i := 2) rfl
theorem k_X2_init_3 : (Cond.code objectInit ⟨#[0xb1]⟩ 1 none) ∈ wsX2_init := List.mem_of_getElem? (i := 3) rfl
theorem k_X2_init_4 : (Cond.arrayClass .int) ∈ wsX2_init := List.mem_of_getElem? (i := 4) rfl
theorem k_X2_init_5 : (Cond.fieldLink RX2 9 "Orbitregister$Journal" "kind" "[I") ∈ wsX2_init := List.mem_of_getElem? (i := 5) rfl
theorem b_X2_init_wsX20 : ∀ w ∈ wsX20, w ∈ wsX2_init := fun _ h => List.mem_cons_of_mem _ (List.mem_append_right _ h)
theorem k_X2_init_6 : (Cond.fieldLink RX2 15 "Orbitregister$Journal" "day" "[I") ∈ wsX2_init := List.mem_of_getElem? (i := 6) rfl
theorem k_X2_init_7 : (Cond.fieldLink RX2 18 "Orbitregister$Journal" "subject" "[I") ∈ wsX2_init := List.mem_of_getElem? (i := 7) rfl
theorem k_X2_init_8 : (Cond.fieldLink RX2 21 "Orbitregister$Journal" "detail" "[I") ∈ wsX2_init := List.mem_of_getElem? (i := 8) rfl
set_option maxHeartbeats 4000000 in
set_option maxRecDepth 100000 in
theorem c_X2_init (l : Launch) (D : va_G) (cI cJ cZ : ClassId) (h0 sz : Nat) : Met l yX2_init wsX2_init ({ frames := 1, cells := 4, slots := 2048, locals := 12 }) (va_Pc [.ref h0] (ZP D (zt cI cJ cZ) [(h0, .inr (2, [.null, .null, .null, .null, .int 0]))] sz zT)) (va_Qv (fun a : Nat → Nat => a 23 = h0) (fun a t => va_P D vwCl (wJo cI cJ cZ a z0 z0 z0 z0 0) t.heap ∧ va_D (va_A [(h0, .inr (2, [.null, .null, .null, .null, .int 0]))] sz) (wJo cI cJ cZ a z0 z0 z0 z0 0)) (va_A [(h0, .inr (2, [.null, .null, .null, .null, .int 0]))] sz)) 4 2048 (va_A [(h0, .inr (2, [.null, .null, .null, .null, .int 0]))] sz) := by
  refine Met.ofW (cc := cX2_init) (maxL := 1) (ret := none) (by decide) rfl ?_
  intro p e s m args below meth c s₁ B hml hv
  obtain ⟨rfl, hsz, hP, hK, hD0, hE⟩ := hv
  have hx := B.exec
  have hb := B.bytes
  have hr := B.returns
  have hts := atoms_spec (ws := wsX2_init) B.pre
  have hown : s.vm.findClass RX2 = some m.cls := findClass_of_methodNamed B.named
  have hlocks := B.notSynchronized
  have hin : meth.name = "<init>" := (name_of_methodNamed B.named B.method).1
  subst hsz
  have hD := hD0.self (sz := s.heap.size)
  generalize hAe : va_A [(h0, .inr (2, [.null, .null, .null, .null, .int 0]))] s.heap.size = A at hD ⊢
  have hA : ∀ q : Nat, s.heap.size ≤ q → A q := fun q h => by rw [← hAe]; exact Or.inr h
  have hS : va_S A s.heap s.heap [] := va_S.rf
  have hl := lv_entry ([.ref h0]) (n := 1) (Nat.le_of_ble_eq_true rfl)
  rw [lg_entry_eq]
  generalize (lg_sl ([.ref h0]) ++ List.replicate (1 - (lg_sl ([.ref h0])).length) Slot.unset).toArray = ls at hl ⊢
  have hl : lv_has ls 1 [(0, .ref h0)] := hl
  have hP : va_P D vwCl [(h0, .inr (2, [.null, .null, .null, .null, .int 0]))] s.heap := hP
  refine lv_aload_n hx hb dX2_init_0 rfl (lv_at hl 0 rfl) ?_
  refine W.objInit hx hb hown (hts _ k_X2_init_1) (hts _ k_X2_init_2) (hts _ k_X2_init_3) rfl (by rw [hml]; exact hl.1) rfl dX2_init_1 (Nat.le_of_ble_eq_true rfl) (Nat.le_of_ble_eq_true rfl) ?_
  refine W.eq (g2 := F0 m 4 ls []) rfl ?_
  refine lv_aload_n hx hb dX2_init_4 rfl (lv_at hl 0 rfl) ?_
  refine lv_sipush (v := 512) hx hb dX2_init_5 (by decide) ?_
  refine z_newa (atype := .int) (ty := .int) hx hb (hts _ k_X2_init_4) rfl (fun _ h => va_nm_int h) hK 0 rfl hP hD hS hA (N' := 512) (a0 := (512, .inl z0)) (fun _ => rfl) (by decide) (by decide) (Nat.le_of_ble_eq_true rfl) (Nat.le_of_ble_eq_true rfl) (Nat.le_of_ble_eq_true rfl) dX2_init_8 (fun q8 H hP hD hS => ?_)
  refine va_putF (D := D) (ci := 2) (v := .ref q8) (ty := tyX2 0) (C := RX2) (T := TX2) (N := 5) hx hb hts b_X2_init_wsX20 tyX2 tyX2_ok nmX2 hown hK hP hD hS 0 rfl rfl 0 (by decide) (hts _ k_X2_init_5) (fun _ h9 => h9) rfl hin rfl (by decide +kernel) rfl rfl (Nat.le_of_ble_eq_true rfl) dX2_init_10 (fun H locs hP hD hS => ?_)
  have hP : va_P D vwCl [(h0, .inr (2, [.ref q8, .null, .null, .null, .int 0])), (q8, .inl (cI, 512, .inl z0))] H := hP
  have hD : va_D A [(h0, .inr (2, [.ref q8, .null, .null, .null, .int 0])), (q8, .inl (cI, 512, .inl z0))] := hD
  refine lv_aload_n hx hb dX2_init_13 rfl (lv_at hl 0 rfl) ?_
  refine lv_sipush (v := 512) hx hb dX2_init_14 (by decide) ?_
  refine z_newa (atype := .int) (ty := .int) hx hb (hts _ k_X2_init_4) rfl (fun _ h => va_nm_int h) hK 0 rfl hP hD hS hA (N' := 512) (a0 := (512, .inl z0)) (fun _ => rfl) (by decide) (by decide) (Nat.le_of_ble_eq_true rfl) (Nat.le_of_ble_eq_true rfl) (Nat.le_of_ble_eq_true rfl) dX2_init_17 (fun q17 H hP hD hS => ?_)
  refine va_putF (D := D) (ci := 2) (v := .ref q17) (ty := tyX2 1) (C := RX2) (T := TX2) (N := 5) hx hb hts b_X2_init_wsX20 tyX2 tyX2_ok nmX2 hown hK hP hD hS 0 rfl rfl 1 (by decide) (hts _ k_X2_init_6) (fun _ h9 => h9) rfl hin rfl (by decide +kernel) rfl rfl (Nat.le_of_ble_eq_true rfl) dX2_init_19 (fun H locs hP hD hS => ?_)
  have hP : va_P D vwCl [(h0, .inr (2, [.ref q8, .ref q17, .null, .null, .int 0])), (q8, .inl (cI, 512, .inl z0)), (q17, .inl (cI, 512, .inl z0))] H := hP
  have hD : va_D A [(h0, .inr (2, [.ref q8, .ref q17, .null, .null, .int 0])), (q8, .inl (cI, 512, .inl z0)), (q17, .inl (cI, 512, .inl z0))] := hD
  refine lv_aload_n hx hb dX2_init_22 rfl (lv_at hl 0 rfl) ?_
  refine lv_sipush (v := 512) hx hb dX2_init_23 (by decide) ?_
  refine z_newa (atype := .int) (ty := .int) hx hb (hts _ k_X2_init_4) rfl (fun _ h => va_nm_int h) hK 0 rfl hP hD hS hA (N' := 512) (a0 := (512, .inl z0)) (fun _ => rfl) (by decide) (by decide) (Nat.le_of_ble_eq_true rfl) (Nat.le_of_ble_eq_true rfl) (Nat.le_of_ble_eq_true rfl) dX2_init_26 (fun q26 H hP hD hS => ?_)
  refine va_putF (D := D) (ci := 2) (v := .ref q26) (ty := tyX2 2) (C := RX2) (T := TX2) (N := 5) hx hb hts b_X2_init_wsX20 tyX2 tyX2_ok nmX2 hown hK hP hD hS 0 rfl rfl 2 (by decide) (hts _ k_X2_init_7) (fun _ h9 => h9) rfl hin rfl (by decide +kernel) rfl rfl (Nat.le_of_ble_eq_true rfl) dX2_init_28 (fun H locs hP hD hS => ?_)
  have hP : va_P D vwCl [(h0, .inr (2, [.ref q8, .ref q17, .ref q26, .null, .int 0])), (q8, .inl (cI, 512, .inl z0)), (q17, .inl (cI, 512, .inl z0)), (q26, .inl (cI, 512, .inl z0))] H := hP
  have hD : va_D A [(h0, .inr (2, [.ref q8, .ref q17, .ref q26, .null, .int 0])), (q8, .inl (cI, 512, .inl z0)), (q17, .inl (cI, 512, .inl z0)), (q26, .inl (cI, 512, .inl z0))] := hD
  refine lv_aload_n hx hb dX2_init_31 rfl (lv_at hl 0 rfl) ?_
  refine lv_sipush (v := 512) hx hb dX2_init_32 (by decide) ?_
  refine z_newa (atype := .int) (ty := .int) hx hb (hts _ k_X2_init_4) rfl (fun _ h => va_nm_int h) hK 0 rfl hP hD hS hA (N' := 512) (a0 := (512, .inl z0)) (fun _ => rfl) (by decide) (by decide) (Nat.le_of_ble_eq_true rfl) (Nat.le_of_ble_eq_true rfl) (Nat.le_of_ble_eq_true rfl) dX2_init_35 (fun q35 H hP hD hS => ?_)
  refine va_putF (D := D) (ci := 2) (v := .ref q35) (ty := tyX2 3) (C := RX2) (T := TX2) (N := 5) hx hb hts b_X2_init_wsX20 tyX2 tyX2_ok nmX2 hown hK hP hD hS 0 rfl rfl 3 (by decide) (hts _ k_X2_init_8) (fun _ h9 => h9) rfl hin rfl (by decide +kernel) rfl rfl (Nat.le_of_ble_eq_true rfl) dX2_init_37 (fun H locs hP hD hS => ?_)
  have hP : va_P D vwCl [(h0, .inr (2, [.ref q8, .ref q17, .ref q26, .ref q35, .int 0])), (q8, .inl (cI, 512, .inl z0)), (q17, .inl (cI, 512, .inl z0)), (q26, .inl (cI, 512, .inl z0)), (q35, .inl (cI, 512, .inl z0))] H := hP
  have hD : va_D A [(h0, .inr (2, [.ref q8, .ref q17, .ref q26, .ref q35, .int 0])), (q8, .inl (cI, 512, .inl z0)), (q17, .inl (cI, 512, .inl z0)), (q26, .inl (cI, 512, .inl z0)), (q35, .inl (cI, 512, .inl z0))] := hD
  have hP9 : va_P D vwCl (wJo cI cJ cZ (fun k => List.getD [h0, q8, q17, q26, q35] (k - 23) 0) z0 z0 z0 z0 0) H := hP
  have hD9 : va_D A (wJo cI cJ cZ (fun k => List.getD [h0, q8, q17, q26, q35] (k - 23) 0) z0 z0 z0 z0 0) := hD
  exact W.vret hx hb hr (fun t ht hW => ⟨⟨(fun k => List.getD [h0, q8, q17, q26, q35] (k - 23) 0), rfl, rfl, z_at ht hP9, hD9⟩, hS.F ht⟩) hS.2.2 dX2_init_40
theorem k_X3_init_1 : (Cond.methodLink RX3 3 objectInit) ∈ wsX3_init := List.mem_of_getElem? (i := 1) rfl
theorem k_X3_init_2 : (Cond.instanceMethod objectInit) ∈ wsX3_init := List.mem_of_getElem? (i := 2) rfl
theorem k_X3_init_3 : (Cond.code objectInit ⟨#[0xb1]⟩ 1 none) ∈ wsX3_init := List.mem_of_getElem? (i := 3) rfl
theorem k_X3_init_4 : (Cond.arrayClass .int) ∈ wsX3_init := List.mem_of_getElem? (i := 4) rfl
theorem k_X3_init_5 : (Cond.fieldLink RX3 9 "Orbitregister$Satellites" "states" "[I") ∈ wsX3_init := List.mem_of_getElem? (i := 5) rfl
theorem b_X3_init_wsX30 : ∀ w ∈ wsX30, w ∈ wsX3_init := fun _ h => List.mem_cons_of_mem _ (List.mem_append_right _ h)
theorem k_X3_init_6 : (Cond.fieldLink RX3 15 "Orbitregister$Satellites" "registrar" "[I") ∈ wsX3_init := List.mem_of_getElem? (i := 6) rfl
theorem k_X3_init_7 : (Cond.fieldLink RX3 18 "Orbitregister$Satellites" "state" "[I") ∈ wsX3_init := List.mem_of_getElem? (i := 7) rfl
theorem k_X3_init_8 : (Cond.fieldLink RX3 21 "Orbitregister$Satellites" "slot" "[I") ∈ wsX3_init := List.mem_of_getElem? (i := 8) rfl
theorem k_X3_init_9 : (Cond.fieldLink RX3 24 "Orbitregister$Satellites" "fuel" "[I") ∈ wsX3_init := List.mem_of_getElem? (i := 9) rfl
theorem k_X3_init_10 : (Cond.fieldLink RX3 27 "Orbitregister$Satellites" "since" "[I") ∈ wsX3_init := List.mem_of_getElem? (i := 10) rfl
theorem k_X3_init_11 : (Cond.arrayClass .boolean) ∈ wsX3_init := List.mem_of_getElem? (i := 11) rfl
theorem k_X3_init_12 : (Cond.fieldLink RX3 30 "Orbitregister$Satellites" "isAuto" "[Z") ∈ wsX3_init := List.mem_of_getElem? (i := 12) rfl
set_option maxHeartbeats 4000000 in
set_option maxRecDepth 100000 in
theorem c_X3_init (l : Launch) (D : va_G) (cI cJ cZ : ClassId) (h0 sz : Nat) : Met l yX3_init wsX3_init ({ frames := 1, cells := 7, slots := 112, locals := 12 }) (va_Pc [.ref h0] (ZP D (zt cI cJ cZ) [(h0, .inr (3, [.null, .null, .null, .null, .null, .null, .null, .int 0]))] sz zT)) (va_Qv (fun a : Nat → Nat => a 15 = h0) (fun a t => va_P D vwCl (wSa cI cJ cZ a z0 z0 z0 z0 z0 z0 z0 0) t.heap ∧ va_D (va_A [(h0, .inr (3, [.null, .null, .null, .null, .null, .null, .null, .int 0]))] sz) (wSa cI cJ cZ a z0 z0 z0 z0 z0 z0 z0 0)) (va_A [(h0, .inr (3, [.null, .null, .null, .null, .null, .null, .null, .int 0]))] sz)) 7 112 (va_A [(h0, .inr (3, [.null, .null, .null, .null, .null, .null, .null, .int 0]))] sz) := by
  refine Met.ofW (cc := cX3_init) (maxL := 1) (ret := none) (by decide) rfl ?_
  intro p e s m args below meth c s₁ B hml hv
  obtain ⟨rfl, hsz, hP, hK, hD0, hE⟩ := hv
  have hx := B.exec
  have hb := B.bytes
  have hr := B.returns
  have hts := atoms_spec (ws := wsX3_init) B.pre
  have hown : s.vm.findClass RX3 = some m.cls := findClass_of_methodNamed B.named
  have hlocks := B.notSynchronized
  have hin : meth.name = "<init>" := (name_of_methodNamed B.named B.method).1
  subst hsz
  have hD := hD0.self (sz := s.heap.size)
  generalize hAe : va_A [(h0, .inr (3, [.null, .null, .null, .null, .null, .null, .null, .int 0]))] s.heap.size = A at hD ⊢
  have hA : ∀ q : Nat, s.heap.size ≤ q → A q := fun q h => by rw [← hAe]; exact Or.inr h
  have hS : va_S A s.heap s.heap [] := va_S.rf
  have hl := lv_entry ([.ref h0]) (n := 1) (Nat.le_of_ble_eq_true rfl)
  rw [lg_entry_eq]
  generalize (lg_sl ([.ref h0]) ++ List.replicate (1 - (lg_sl ([.ref h0])).length) Slot.unset).toArray = ls at hl ⊢
  have hl : lv_has ls 1 [(0, .ref h0)] := hl
  have hP : va_P D vwCl [(h0, .inr (3, [.null, .null, .null, .null, .null, .null, .null, .int 0]))] s.heap := hP
  refine lv_aload_n hx hb dX3_init_0 rfl (lv_at hl 0 rfl) ?_
  refine W.objInit hx hb hown (hts _ k_X3_init_1) (hts _ k_X3_init_2) (hts _ k_X3_init_3) rfl (by rw [hml]; exact hl.1) rfl dX3_init_1 (Nat.le_of_ble_eq_true rfl) (Nat.le_of_ble_eq_true rfl) ?_
  refine W.eq (g2 := F0 m 4 ls []) rfl ?_
  refine lv_aload_n hx hb dX3_init_4 rfl (lv_at hl 0 rfl) ?_
  refine lv_bipush (v := 16) hx hb dX3_init_5 (by decide) ?_
  refine z_newa (atype := .int) (ty := .int) hx hb (hts _ k_X3_init_4) rfl (fun _ h => va_nm_int h) hK 0 rfl hP hD hS hA (N' := 16) (a0 := (16, .inl z0)) (fun _ => rfl) (by decide) (by decide) (Nat.le_of_ble_eq_true rfl) (Nat.le_of_ble_eq_true rfl) (Nat.le_of_ble_eq_true rfl) dX3_init_7 (fun q7 H hP hD hS => ?_)
  refine va_putF (D := D) (ci := 3) (v := .ref q7) (ty := tyX3 0) (C := RX3) (T := TX3) (N := 8) hx hb hts b_X3_init_wsX30 tyX3 tyX3_ok nmX3 hown hK hP hD hS 0 rfl rfl 0 (by decide) (hts _ k_X3_init_5) (fun _ h9 => h9) rfl hin rfl (by decide +kernel) rfl rfl (Nat.le_of_ble_eq_true rfl) dX3_init_9 (fun H locs hP hD hS => ?_)
  have hP : va_P D vwCl [(h0, .inr (3, [.ref q7, .null, .null, .null, .null, .null, .null, .int 0])), (q7, .inl (cI, 16, .inl z0))] H := hP
  have hD : va_D A [(h0, .inr (3, [.ref q7, .null, .null, .null, .null, .null, .null, .int 0])), (q7, .inl (cI, 16, .inl z0))] := hD
  refine lv_aload_n hx hb dX3_init_12 rfl (lv_at hl 0 rfl) ?_
  refine lv_bipush (v := 16) hx hb dX3_init_13 (by decide) ?_
  refine z_newa (atype := .int) (ty := .int) hx hb (hts _ k_X3_init_4) rfl (fun _ h => va_nm_int h) hK 0 rfl hP hD hS hA (N' := 16) (a0 := (16, .inl z0)) (fun _ => rfl) (by decide) (by decide) (Nat.le_of_ble_eq_true rfl) (Nat.le_of_ble_eq_true rfl) (Nat.le_of_ble_eq_true rfl) dX3_init_15 (fun q15 H hP hD hS => ?_)
  refine va_putF (D := D) (ci := 3) (v := .ref q15) (ty := tyX3 1) (C := RX3) (T := TX3) (N := 8) hx hb hts b_X3_init_wsX30 tyX3 tyX3_ok nmX3 hown hK hP hD hS 0 rfl rfl 1 (by decide) (hts _ k_X3_init_6) (fun _ h9 => h9) rfl hin rfl (by decide +kernel) rfl rfl (Nat.le_of_ble_eq_true rfl) dX3_init_17 (fun H locs hP hD hS => ?_)
  have hP : va_P D vwCl [(h0, .inr (3, [.ref q7, .ref q15, .null, .null, .null, .null, .null, .int 0])), (q7, .inl (cI, 16, .inl z0)), (q15, .inl (cI, 16, .inl z0))] H := hP
  have hD : va_D A [(h0, .inr (3, [.ref q7, .ref q15, .null, .null, .null, .null, .null, .int 0])), (q7, .inl (cI, 16, .inl z0)), (q15, .inl (cI, 16, .inl z0))] := hD
  refine lv_aload_n hx hb dX3_init_20 rfl (lv_at hl 0 rfl) ?_
  refine lv_bipush (v := 16) hx hb dX3_init_21 (by decide) ?_
  refine z_newa (atype := .int) (ty := .int) hx hb (hts _ k_X3_init_4) rfl (fun _ h => va_nm_int h) hK 0 rfl hP hD hS hA (N' := 16) (a0 := (16, .inl z0)) (fun _ => rfl) (by decide) (by decide) (Nat.le_of_ble_eq_true rfl) (Nat.le_of_ble_eq_true rfl) (Nat.le_of_ble_eq_true rfl) dX3_init_23 (fun q23 H hP hD hS => ?_)
  refine va_putF (D := D) (ci := 3) (v := .ref q23) (ty := tyX3 2) (C := RX3) (T := TX3) (N := 8) hx hb hts b_X3_init_wsX30 tyX3 tyX3_ok nmX3 hown hK hP hD hS 0 rfl rfl 2 (by decide) (hts _ k_X3_init_7) (fun _ h9 => h9) rfl hin rfl (by decide +kernel) rfl rfl (Nat.le_of_ble_eq_true rfl) dX3_init_25 (fun H locs hP hD hS => ?_)
  have hP : va_P D vwCl [(h0, .inr (3, [.ref q7, .ref q15, .ref q23, .null, .null, .null, .null, .int 0])), (q7, .inl (cI, 16, .inl z0)), (q15, .inl (cI, 16, .inl z0)), (q23, .inl (cI, 16, .inl z0))] H := hP
  have hD : va_D A [(h0, .inr (3, [.ref q7, .ref q15, .ref q23, .null, .null, .null, .null, .int 0])), (q7, .inl (cI, 16, .inl z0)), (q15, .inl (cI, 16, .inl z0)), (q23, .inl (cI, 16, .inl z0))] := hD
  refine lv_aload_n hx hb dX3_init_28 rfl (lv_at hl 0 rfl) ?_
  refine lv_bipush (v := 16) hx hb dX3_init_29 (by decide) ?_
  refine z_newa (atype := .int) (ty := .int) hx hb (hts _ k_X3_init_4) rfl (fun _ h => va_nm_int h) hK 0 rfl hP hD hS hA (N' := 16) (a0 := (16, .inl z0)) (fun _ => rfl) (by decide) (by decide) (Nat.le_of_ble_eq_true rfl) (Nat.le_of_ble_eq_true rfl) (Nat.le_of_ble_eq_true rfl) dX3_init_31 (fun q31 H hP hD hS => ?_)
  refine va_putF (D := D) (ci := 3) (v := .ref q31) (ty := tyX3 3) (C := RX3) (T := TX3) (N := 8) hx hb hts b_X3_init_wsX30 tyX3 tyX3_ok nmX3 hown hK hP hD hS 0 rfl rfl 3 (by decide) (hts _ k_X3_init_8) (fun _ h9 => h9) rfl hin rfl (by decide +kernel) rfl rfl (Nat.le_of_ble_eq_true rfl) dX3_init_33 (fun H locs hP hD hS => ?_)
  have hP : va_P D vwCl [(h0, .inr (3, [.ref q7, .ref q15, .ref q23, .ref q31, .null, .null, .null, .int 0])), (q7, .inl (cI, 16, .inl z0)), (q15, .inl (cI, 16, .inl z0)), (q23, .inl (cI, 16, .inl z0)), (q31, .inl (cI, 16, .inl z0))] H := hP
  have hD : va_D A [(h0, .inr (3, [.ref q7, .ref q15, .ref q23, .ref q31, .null, .null, .null, .int 0])), (q7, .inl (cI, 16, .inl z0)), (q15, .inl (cI, 16, .inl z0)), (q23, .inl (cI, 16, .inl z0)), (q31, .inl (cI, 16, .inl z0))] := hD
  refine lv_aload_n hx hb dX3_init_36 rfl (lv_at hl 0 rfl) ?_
  refine lv_bipush (v := 16) hx hb dX3_init_37 (by decide) ?_
  refine z_newa (atype := .int) (ty := .int) hx hb (hts _ k_X3_init_4) rfl (fun _ h => va_nm_int h) hK 0 rfl hP hD hS hA (N' := 16) (a0 := (16, .inl z0)) (fun _ => rfl) (by decide) (by decide) (Nat.le_of_ble_eq_true rfl) (Nat.le_of_ble_eq_true rfl) (Nat.le_of_ble_eq_true rfl) dX3_init_39 (fun q39 H hP hD hS => ?_)
  refine va_putF (D := D) (ci := 3) (v := .ref q39) (ty := tyX3 4) (C := RX3) (T := TX3) (N := 8) hx hb hts b_X3_init_wsX30 tyX3 tyX3_ok nmX3 hown hK hP hD hS 0 rfl rfl 4 (by decide) (hts _ k_X3_init_9) (fun _ h9 => h9) rfl hin rfl (by decide +kernel) rfl rfl (Nat.le_of_ble_eq_true rfl) dX3_init_41 (fun H locs hP hD hS => ?_)
  have hP : va_P D vwCl [(h0, .inr (3, [.ref q7, .ref q15, .ref q23, .ref q31, .ref q39, .null, .null, .int 0])), (q7, .inl (cI, 16, .inl z0)), (q15, .inl (cI, 16, .inl z0)), (q23, .inl (cI, 16, .inl z0)), (q31, .inl (cI, 16, .inl z0)), (q39, .inl (cI, 16, .inl z0))] H := hP
  have hD : va_D A [(h0, .inr (3, [.ref q7, .ref q15, .ref q23, .ref q31, .ref q39, .null, .null, .int 0])), (q7, .inl (cI, 16, .inl z0)), (q15, .inl (cI, 16, .inl z0)), (q23, .inl (cI, 16, .inl z0)), (q31, .inl (cI, 16, .inl z0)), (q39, .inl (cI, 16, .inl z0))] := hD
  refine lv_aload_n hx hb dX3_init_44 rfl (lv_at hl 0 rfl) ?_
  refine lv_bipush (v := 16) hx hb dX3_init_45 (by decide) ?_
  refine z_newa (atype := .int) (ty := .int) hx hb (hts _ k_X3_init_4) rfl (fun _ h => va_nm_int h) hK 0 rfl hP hD hS hA (N' := 16) (a0 := (16, .inl z0)) (fun _ => rfl) (by decide) (by decide) (Nat.le_of_ble_eq_true rfl) (Nat.le_of_ble_eq_true rfl) (Nat.le_of_ble_eq_true rfl) dX3_init_47 (fun q47 H hP hD hS => ?_)
  refine va_putF (D := D) (ci := 3) (v := .ref q47) (ty := tyX3 5) (C := RX3) (T := TX3) (N := 8) hx hb hts b_X3_init_wsX30 tyX3 tyX3_ok nmX3 hown hK hP hD hS 0 rfl rfl 5 (by decide) (hts _ k_X3_init_10) (fun _ h9 => h9) rfl hin rfl (by decide +kernel) rfl rfl (Nat.le_of_ble_eq_true rfl) dX3_init_49 (fun H locs hP hD hS => ?_)
  have hP : va_P D vwCl [(h0, .inr (3, [.ref q7, .ref q15, .ref q23, .ref q31, .ref q39, .ref q47, .null, .int 0])), (q7, .inl (cI, 16, .inl z0)), (q15, .inl (cI, 16, .inl z0)), (q23, .inl (cI, 16, .inl z0)), (q31, .inl (cI, 16, .inl z0)), (q39, .inl (cI, 16, .inl z0)), (q47, .inl (cI, 16, .inl z0))] H := hP
  have hD : va_D A [(h0, .inr (3, [.ref q7, .ref q15, .ref q23, .ref q31, .ref q39, .ref q47, .null, .int 0])), (q7, .inl (cI, 16, .inl z0)), (q15, .inl (cI, 16, .inl z0)), (q23, .inl (cI, 16, .inl z0)), (q31, .inl (cI, 16, .inl z0)), (q39, .inl (cI, 16, .inl z0)), (q47, .inl (cI, 16, .inl z0))] := hD
  refine lv_aload_n hx hb dX3_init_52 rfl (lv_at hl 0 rfl) ?_
  refine lv_bipush (v := 16) hx hb dX3_init_53 (by decide) ?_
  refine z_newa (atype := .boolean) (ty := .boolean) hx hb (hts _ k_X3_init_11) rfl (fun _ h => va_nm_boolean h) hK 2 rfl hP hD hS hA (N' := 16) (a0 := (16, .inl z0)) (fun _ => rfl) (by decide) (by decide) (Nat.le_of_ble_eq_true rfl) (Nat.le_of_ble_eq_true rfl) (Nat.le_of_ble_eq_true rfl) dX3_init_55 (fun q55 H hP hD hS => ?_)
  refine va_putF (D := D) (ci := 3) (v := .ref q55) (ty := tyX3 6) (C := RX3) (T := TX3) (N := 8) hx hb hts b_X3_init_wsX30 tyX3 tyX3_ok nmX3 hown hK hP hD hS 0 rfl rfl 6 (by decide) (hts _ k_X3_init_12) (fun _ h9 => h9) rfl hin rfl (by decide +kernel) rfl rfl (Nat.le_of_ble_eq_true rfl) dX3_init_57 (fun H locs hP hD hS => ?_)
  have hP : va_P D vwCl [(h0, .inr (3, [.ref q7, .ref q15, .ref q23, .ref q31, .ref q39, .ref q47, .ref q55, .int 0])), (q7, .inl (cI, 16, .inl z0)), (q15, .inl (cI, 16, .inl z0)), (q23, .inl (cI, 16, .inl z0)), (q31, .inl (cI, 16, .inl z0)), (q39, .inl (cI, 16, .inl z0)), (q47, .inl (cI, 16, .inl z0)), (q55, .inl (cZ, 16, .inl z0))] H := hP
  have hD : va_D A [(h0, .inr (3, [.ref q7, .ref q15, .ref q23, .ref q31, .ref q39, .ref q47, .ref q55, .int 0])), (q7, .inl (cI, 16, .inl z0)), (q15, .inl (cI, 16, .inl z0)), (q23, .inl (cI, 16, .inl z0)), (q31, .inl (cI, 16, .inl z0)), (q39, .inl (cI, 16, .inl z0)), (q47, .inl (cI, 16, .inl z0)), (q55, .inl (cZ, 16, .inl z0))] := hD
  have hP9 : va_P D vwCl (wSa cI cJ cZ (fun k => List.getD [h0, q7, q15, q23, q31, q39, q47, q55] (k - 15) 0) z0 z0 z0 z0 z0 z0 z0 0) H := hP
  have hD9 : va_D A (wSa cI cJ cZ (fun k => List.getD [h0, q7, q15, q23, q31, q39, q47, q55] (k - 15) 0) z0 z0 z0 z0 z0 z0 z0 0) := hD
  exact W.vret hx hb hr (fun t ht hW => ⟨⟨(fun k => List.getD [h0, q7, q15, q23, q31, q39, q47, q55] (k - 15) 0), rfl, rfl, z_at ht hP9, hD9⟩, hS.F ht⟩) hS.2.2 dX3_init_60
theorem k_X0_init_1 : (Cond.methodLink RX0 3 objectInit) ∈ wsX0_init := List.mem_of_getElem? (i := 1) rfl
theorem k_X0_init_2 : (Cond.instanceMethod objectInit) ∈ wsX0_init := List.mem_of_getElem? (i := 2) rfl
theorem k_X0_init_3 : (Cond.code objectInit ⟨#[0xb1]⟩ 1 none) ∈ wsX0_init := List.mem_of_getElem? (i := 3) rfl
set_option maxHeartbeats 4000000 in
set_option maxRecDepth 100000 in
theorem c_X0_init (l : Launch) (D : va_G) (cI cJ cZ : ClassId) (h0 sz : Nat) : Met l yX0_init wsX0_init ({ frames := 1, cells := 0, slots := 0, locals := 12 }) (va_Pc [.ref h0] (ZP D (zt cI cJ cZ) [(h0, .inr (0, [.int 0, .int 0, .int 0, .int 0, .int 0, .int 0]))] sz zT)) (va_Qv (fun a : Nat → Nat => a 28 = h0) (fun a t => va_P D vwCl (wEx cI cJ cZ a 0 0 0 0 0 0) t.heap ∧ va_D (va_A [(h0, .inr (0, [.int 0, .int 0, .int 0, .int 0, .int 0, .int 0]))] sz) (wEx cI cJ cZ a 0 0 0 0 0 0)) (va_A [(h0, .inr (0, [.int 0, .int 0, .int 0, .int 0, .int 0, .int 0]))] sz)) 0 0 (va_A [(h0, .inr (0, [.int 0, .int 0, .int 0, .int 0, .int 0, .int 0]))] sz) := by
  refine Met.ofW (cc := cX0_init) (maxL := 1) (ret := none) (by decide) rfl ?_
  intro p e s m args below meth c s₁ B hml hv
  obtain ⟨rfl, hsz, hP, hK, hD0, hE⟩ := hv
  have hx := B.exec
  have hb := B.bytes
  have hr := B.returns
  have hts := atoms_spec (ws := wsX0_init) B.pre
  have hown : s.vm.findClass RX0 = some m.cls := findClass_of_methodNamed B.named
  have hlocks := B.notSynchronized
  have hin : meth.name = "<init>" := (name_of_methodNamed B.named B.method).1
  subst hsz
  have hD := hD0.self (sz := s.heap.size)
  generalize hAe : va_A [(h0, .inr (0, [.int 0, .int 0, .int 0, .int 0, .int 0, .int 0]))] s.heap.size = A at hD ⊢
  have hA : ∀ q : Nat, s.heap.size ≤ q → A q := fun q h => by rw [← hAe]; exact Or.inr h
  have hS : va_S A s.heap s.heap [] := va_S.rf
  have hl := lv_entry ([.ref h0]) (n := 1) (Nat.le_of_ble_eq_true rfl)
  rw [lg_entry_eq]
  generalize (lg_sl ([.ref h0]) ++ List.replicate (1 - (lg_sl ([.ref h0])).length) Slot.unset).toArray = ls at hl ⊢
  have hl : lv_has ls 1 [(0, .ref h0)] := hl
  have hP : va_P D vwCl [(h0, .inr (0, [.int 0, .int 0, .int 0, .int 0, .int 0, .int 0]))] s.heap := hP
  refine lv_aload_n hx hb dX0_init_0 rfl (lv_at hl 0 rfl) ?_
  refine W.objInit hx hb hown (hts _ k_X0_init_1) (hts _ k_X0_init_2) (hts _ k_X0_init_3) rfl (by rw [hml]; exact hl.1) rfl dX0_init_1 (Nat.le_of_ble_eq_true rfl) (Nat.le_of_ble_eq_true rfl) ?_
  refine W.eq (g2 := F0 m 4 ls []) rfl ?_
  have hP9 : va_P D vwCl (wEx cI cJ cZ (fun k => List.getD [h0] (k - 28) 0) 0 0 0 0 0 0) s.heap := hP
  have hD9 : va_D A (wEx cI cJ cZ (fun k => List.getD [h0] (k - 28) 0) 0 0 0 0 0 0) := hD
  exact W.vret hx hb hr (fun t ht hW => ⟨⟨(fun k => List.getD [h0] (k - 28) 0), rfl, rfl, z_at ht hP9, hD9⟩, hS.F ht⟩) hS.2.2 dX0_init_4
theorem k_X5_init_1 : (Cond.methodLink RX5 1 objectInit) ∈ wsX5_init := List.mem_of_getElem? (i := 1) rfl
theorem k_X5_init_2 : (Cond.instanceMethod objectInit) ∈ wsX5_init := List.mem_of_getElem? (i := 2) rfl
theorem k_X5_init_3 : (Cond.code objectInit ⟨#[0xb1]⟩ 1 none) ∈ wsX5_init := List.mem_of_getElem? (i := 3) rfl
theorem k_X5_init_4 : (Cond.arrayClass .int) ∈ wsX5_init := List.mem_of_getElem? (i := 4) rfl
theorem k_X5_init_5 : (Cond.fieldLink RX5 7 "OrbitregisterModel" "land" "[I") ∈ wsX5_init := List.mem_of_getElem? (i := 5) rfl
theorem b_X5_init_wsX50 : ∀ w ∈ wsX50, w ∈ wsX5_init := fun _ h => List.mem_cons_of_mem _ (List.mem_append_right _ h)
theorem k_X5_init_6 : (Cond.fieldLink RX5 13 "OrbitregisterModel" "slot" "[I") ∈ wsX5_init := List.mem_of_getElem? (i := 6) rfl
theorem k_X5_init_7 : (Cond.fieldLink RX5 16 "OrbitregisterModel" "band" "[I") ∈ wsX5_init := List.mem_of_getElem? (i := 7) rfl
theorem k_X5_init_8 : (Cond.fieldLink RX5 19 "OrbitregisterModel" "power" "[I") ∈ wsX5_init := List.mem_of_getElem? (i := 8) rfl
theorem k_X5_init_9 : (Cond.fieldLink RX5 22 "OrbitregisterModel" "date" "[I") ∈ wsX5_init := List.mem_of_getElem? (i := 9) rfl
theorem k_X5_init_10 : (Cond.fieldLink RX5 25 "OrbitregisterModel" "state" "[I") ∈ wsX5_init := List.mem_of_getElem? (i := 10) rfl
theorem k_X5_init_11 : (Cond.arrayClass .boolean) ∈ wsX5_init := List.mem_of_getElem? (i := 11) rfl
theorem k_X5_init_12 : (Cond.fieldLink RX5 28 "OrbitregisterModel" "wasUnclear" "[Z") ∈ wsX5_init := List.mem_of_getElem? (i := 12) rfl
theorem k_X5_init_13 : (Cond.fieldLink RX5 32 "OrbitregisterModel" "servedBy" "[I") ∈ wsX5_init := List.mem_of_getElem? (i := 13) rfl
theorem k_X5_init_14 : (Cond.fieldLink RX5 35 "OrbitregisterModel" "told" "[I") ∈ wsX5_init := List.mem_of_getElem? (i := 14) rfl
theorem k_X5_init_15 : (Cond.fieldLink RX5 38 "OrbitregisterModel" "suspended" "[I") ∈ wsX5_init := List.mem_of_getElem? (i := 15) rfl
theorem k_X5_init_16 : (Cond.fieldLink RX5 41 "OrbitregisterModel" "agreed" "[I") ∈ wsX5_init := List.mem_of_getElem? (i := 16) rfl
theorem k_X5_init_17 : (Cond.fieldLink RX5 44 "OrbitregisterModel" "states" "[I") ∈ wsX5_init := List.mem_of_getElem? (i := 17) rfl
theorem k_X5_init_18 : (Cond.fieldLink RX5 47 "OrbitregisterModel" "register" "[I") ∈ wsX5_init := List.mem_of_getElem? (i := 18) rfl
theorem k_X5_init_19 : (Cond.fieldLink RX5 50 "OrbitregisterModel" "how" "[I") ∈ wsX5_init := List.mem_of_getElem? (i := 19) rfl
theorem k_X5_init_20 : (Cond.fieldLink RX5 53 "OrbitregisterModel" "at" "[I") ∈ wsX5_init := List.mem_of_getElem? (i := 20) rfl
theorem k_X5_init_21 : (Cond.fieldLink RX5 56 "OrbitregisterModel" "fuel" "[I") ∈ wsX5_init := List.mem_of_getElem? (i := 21) rfl
theorem k_X5_init_22 : (Cond.fieldLink RX5 59 "OrbitregisterModel" "since" "[I") ∈ wsX5_init := List.mem_of_getElem? (i := 22) rfl
theorem k_X5_init_23 : (Cond.fieldLink RX5 62 "OrbitregisterModel" "isAuto" "[Z") ∈ wsX5_init := List.mem_of_getElem? (i := 23) rfl
theorem k_X5_init_24 : (Cond.fieldLink RX5 65 "OrbitregisterModel" "pieces" "[I") ∈ wsX5_init := List.mem_of_getElem? (i := 24) rfl
theorem k_X5_init_25 : (Cond.fieldLink RX5 68 "OrbitregisterModel" "gone" "[I") ∈ wsX5_init := List.mem_of_getElem? (i := 25) rfl
theorem k_X5_init_26 : (Cond.arrayClass .long) ∈ wsX5_init := List.mem_of_getElem? (i := 26) rfl
theorem k_X5_init_27 : (Cond.fieldLink RX5 71 "OrbitregisterModel" "paid" "[J") ∈ wsX5_init := List.mem_of_getElem? (i := 27) rfl
set_option maxHeartbeats 4000000 in
set_option maxRecDepth 100000 in
theorem c_X5_init (l : Launch) (D : va_G) (cI cJ cZ : ClassId) (h0 sz : Nat) : Met l yX5_init wsX5_init ({ frames := 1, cells := 21, slots := 2192, locals := 12 }) (va_Pc [.ref h0] (ZP D (zt cI cJ cZ) [(h0, .inr (5, [.int 0, .int 0, .int 0, .int 0, .null, .null, .null, .null, .null, .null, .null, .null, .null, .null, .null, .int 0, .null, .null, .null, .null, .null, .null, .null, .null, .null, .null]))] sz zT)) (va_Qv (fun a : Nat → Nat => a 30 = h0) (fun a t => va_P D vwCl (wMo cI cJ cZ a 0 0 0 0 z0 z0 z0 z0 z0 z0 z0 z0 z0 z0 (G_fill 1600) 0 z0 z0 z0 z0 z0 z0 z0 z0 z0 z0L) t.heap ∧ va_D (va_A [(h0, .inr (5, [.int 0, .int 0, .int 0, .int 0, .null, .null, .null, .null, .null, .null, .null, .null, .null, .null, .null, .int 0, .null, .null, .null, .null, .null, .null, .null, .null, .null, .null]))] sz) (wMo cI cJ cZ a 0 0 0 0 z0 z0 z0 z0 z0 z0 z0 z0 z0 z0 (G_fill 1600) 0 z0 z0 z0 z0 z0 z0 z0 z0 z0 z0L)) (va_A [(h0, .inr (5, [.int 0, .int 0, .int 0, .int 0, .null, .null, .null, .null, .null, .null, .null, .null, .null, .null, .null, .int 0, .null, .null, .null, .null, .null, .null, .null, .null, .null, .null]))] sz)) 21 2192 (va_A [(h0, .inr (5, [.int 0, .int 0, .int 0, .int 0, .null, .null, .null, .null, .null, .null, .null, .null, .null, .null, .null, .int 0, .null, .null, .null, .null, .null, .null, .null, .null, .null, .null]))] sz) := by
  refine Met.ofW (cc := cX5_init) (maxL := 2) (ret := none) (by decide) rfl ?_
  intro p e s m args below meth c s₁ B hml hv
  obtain ⟨rfl, hsz, hP, hK, hD0, hE⟩ := hv
  have hx := B.exec
  have hb := B.bytes
  have hr := B.returns
  have hts := atoms_spec (ws := wsX5_init) B.pre
  have hown : s.vm.findClass RX5 = some m.cls := findClass_of_methodNamed B.named
  have hlocks := B.notSynchronized
  have hin : meth.name = "<init>" := (name_of_methodNamed B.named B.method).1
  subst hsz
  have hD := hD0.self (sz := s.heap.size)
  generalize hAe : va_A [(h0, .inr (5, [.int 0, .int 0, .int 0, .int 0, .null, .null, .null, .null, .null, .null, .null, .null, .null, .null, .null, .int 0, .null, .null, .null, .null, .null, .null, .null, .null, .null, .null]))] s.heap.size = A at hD ⊢
  have hA : ∀ q : Nat, s.heap.size ≤ q → A q := fun q h => by rw [← hAe]; exact Or.inr h
  have hS : va_S A s.heap s.heap [] := va_S.rf
  have hl := lv_entry ([.ref h0]) (n := 2) (Nat.le_of_ble_eq_true rfl)
  rw [lg_entry_eq]
  generalize (lg_sl ([.ref h0]) ++ List.replicate (2 - (lg_sl ([.ref h0])).length) Slot.unset).toArray = ls at hl ⊢
  have hl : lv_has ls 2 [(0, .ref h0)] := hl
  have hP : va_P D vwCl [(h0, .inr (5, [.int 0, .int 0, .int 0, .int 0, .null, .null, .null, .null, .null, .null, .null, .null, .null, .null, .null, .int 0, .null, .null, .null, .null, .null, .null, .null, .null, .null, .null]))] s.heap := hP
  refine lv_aload_n hx hb dX5_init_0 rfl (lv_at hl 0 rfl) ?_
  refine W.objInit hx hb hown (hts _ k_X5_init_1) (hts _ k_X5_init_2) (hts _ k_X5_init_3) rfl (by rw [hml]; exact hl.1) rfl dX5_init_1 (Nat.le_of_ble_eq_true rfl) (Nat.le_of_ble_eq_true rfl) ?_
  refine W.eq (g2 := F0 m 4 ls []) rfl ?_
  refine lv_aload_n hx hb dX5_init_4 rfl (lv_at hl 0 rfl) ?_
  refine lv_bipush (v := 40) hx hb dX5_init_5 (by decide) ?_
  refine z_newa (atype := .int) (ty := .int) hx hb (hts _ k_X5_init_4) rfl (fun _ h => va_nm_int h) hK 0 rfl hP hD hS hA (N' := 40) (a0 := (40, .inl z0)) (fun _ => rfl) (by decide) (by decide) (Nat.le_of_ble_eq_true rfl) (Nat.le_of_ble_eq_true rfl) (Nat.le_of_ble_eq_true rfl) dX5_init_7 (fun q7 H hP hD hS => ?_)
  refine va_putF (D := D) (ci := 5) (v := .ref q7) (ty := tyX5 4) (C := RX5) (T := TX5) (N := 26) hx hb hts b_X5_init_wsX50 tyX5 tyX5_ok nmX5 hown hK hP hD hS 0 rfl rfl 4 (by decide) (hts _ k_X5_init_5) (fun _ h9 => h9) rfl hin rfl (by decide +kernel) rfl rfl (Nat.le_of_ble_eq_true rfl) dX5_init_9 (fun H locs hP hD hS => ?_)
  have hP : va_P D vwCl [(h0, .inr (5, [.int 0, .int 0, .int 0, .int 0, .ref q7, .null, .null, .null, .null, .null, .null, .null, .null, .null, .null, .int 0, .null, .null, .null, .null, .null, .null, .null, .null, .null, .null])), (q7, .inl (cI, 40, .inl z0))] H := hP
  have hD : va_D A [(h0, .inr (5, [.int 0, .int 0, .int 0, .int 0, .ref q7, .null, .null, .null, .null, .null, .null, .null, .null, .null, .null, .int 0, .null, .null, .null, .null, .null, .null, .null, .null, .null, .null])), (q7, .inl (cI, 40, .inl z0))] := hD
  refine lv_aload_n hx hb dX5_init_12 rfl (lv_at hl 0 rfl) ?_
  refine lv_bipush (v := 40) hx hb dX5_init_13 (by decide) ?_
  refine z_newa (atype := .int) (ty := .int) hx hb (hts _ k_X5_init_4) rfl (fun _ h => va_nm_int h) hK 0 rfl hP hD hS hA (N' := 40) (a0 := (40, .inl z0)) (fun _ => rfl) (by decide) (by decide) (Nat.le_of_ble_eq_true rfl) (Nat.le_of_ble_eq_true rfl) (Nat.le_of_ble_eq_true rfl) dX5_init_15 (fun q15 H hP hD hS => ?_)
  refine va_putF (D := D) (ci := 5) (v := .ref q15) (ty := tyX5 5) (C := RX5) (T := TX5) (N := 26) hx hb hts b_X5_init_wsX50 tyX5 tyX5_ok nmX5 hown hK hP hD hS 0 rfl rfl 5 (by decide) (hts _ k_X5_init_6) (fun _ h9 => h9) rfl hin rfl (by decide +kernel) rfl rfl (Nat.le_of_ble_eq_true rfl) dX5_init_17 (fun H locs hP hD hS => ?_)
  have hP : va_P D vwCl [(h0, .inr (5, [.int 0, .int 0, .int 0, .int 0, .ref q7, .ref q15, .null, .null, .null, .null, .null, .null, .null, .null, .null, .int 0, .null, .null, .null, .null, .null, .null, .null, .null, .null, .null])), (q7, .inl (cI, 40, .inl z0)), (q15, .inl (cI, 40, .inl z0))] H := hP
  have hD : va_D A [(h0, .inr (5, [.int 0, .int 0, .int 0, .int 0, .ref q7, .ref q15, .null, .null, .null, .null, .null, .null, .null, .null, .null, .int 0, .null, .null, .null, .null, .null, .null, .null, .null, .null, .null])), (q7, .inl (cI, 40, .inl z0)), (q15, .inl (cI, 40, .inl z0))] := hD
  refine lv_aload_n hx hb dX5_init_20 rfl (lv_at hl 0 rfl) ?_
  refine lv_bipush (v := 40) hx hb dX5_init_21 (by decide) ?_
  refine z_newa (atype := .int) (ty := .int) hx hb (hts _ k_X5_init_4) rfl (fun _ h => va_nm_int h) hK 0 rfl hP hD hS hA (N' := 40) (a0 := (40, .inl z0)) (fun _ => rfl) (by decide) (by decide) (Nat.le_of_ble_eq_true rfl) (Nat.le_of_ble_eq_true rfl) (Nat.le_of_ble_eq_true rfl) dX5_init_23 (fun q23 H hP hD hS => ?_)
  refine va_putF (D := D) (ci := 5) (v := .ref q23) (ty := tyX5 6) (C := RX5) (T := TX5) (N := 26) hx hb hts b_X5_init_wsX50 tyX5 tyX5_ok nmX5 hown hK hP hD hS 0 rfl rfl 6 (by decide) (hts _ k_X5_init_7) (fun _ h9 => h9) rfl hin rfl (by decide +kernel) rfl rfl (Nat.le_of_ble_eq_true rfl) dX5_init_25 (fun H locs hP hD hS => ?_)
  have hP : va_P D vwCl [(h0, .inr (5, [.int 0, .int 0, .int 0, .int 0, .ref q7, .ref q15, .ref q23, .null, .null, .null, .null, .null, .null, .null, .null, .int 0, .null, .null, .null, .null, .null, .null, .null, .null, .null, .null])), (q7, .inl (cI, 40, .inl z0)), (q15, .inl (cI, 40, .inl z0)), (q23, .inl (cI, 40, .inl z0))] H := hP
  have hD : va_D A [(h0, .inr (5, [.int 0, .int 0, .int 0, .int 0, .ref q7, .ref q15, .ref q23, .null, .null, .null, .null, .null, .null, .null, .null, .int 0, .null, .null, .null, .null, .null, .null, .null, .null, .null, .null])), (q7, .inl (cI, 40, .inl z0)), (q15, .inl (cI, 40, .inl z0)), (q23, .inl (cI, 40, .inl z0))] := hD
  refine lv_aload_n hx hb dX5_init_28 rfl (lv_at hl 0 rfl) ?_
  refine lv_bipush (v := 40) hx hb dX5_init_29 (by decide) ?_
  refine z_newa (atype := .int) (ty := .int) hx hb (hts _ k_X5_init_4) rfl (fun _ h => va_nm_int h) hK 0 rfl hP hD hS hA (N' := 40) (a0 := (40, .inl z0)) (fun _ => rfl) (by decide) (by decide) (Nat.le_of_ble_eq_true rfl) (Nat.le_of_ble_eq_true rfl) (Nat.le_of_ble_eq_true rfl) dX5_init_31 (fun q31 H hP hD hS => ?_)
  refine va_putF (D := D) (ci := 5) (v := .ref q31) (ty := tyX5 7) (C := RX5) (T := TX5) (N := 26) hx hb hts b_X5_init_wsX50 tyX5 tyX5_ok nmX5 hown hK hP hD hS 0 rfl rfl 7 (by decide) (hts _ k_X5_init_8) (fun _ h9 => h9) rfl hin rfl (by decide +kernel) rfl rfl (Nat.le_of_ble_eq_true rfl) dX5_init_33 (fun H locs hP hD hS => ?_)
  have hP : va_P D vwCl [(h0, .inr (5, [.int 0, .int 0, .int 0, .int 0, .ref q7, .ref q15, .ref q23, .ref q31, .null, .null, .null, .null, .null, .null, .null, .int 0, .null, .null, .null, .null, .null, .null, .null, .null, .null, .null])), (q7, .inl (cI, 40, .inl z0)), (q15, .inl (cI, 40, .inl z0)), (q23, .inl (cI, 40, .inl z0)), (q31, .inl (cI, 40, .inl z0))] H := hP
  have hD : va_D A [(h0, .inr (5, [.int 0, .int 0, .int 0, .int 0, .ref q7, .ref q15, .ref q23, .ref q31, .null, .null, .null, .null, .null, .null, .null, .int 0, .null, .null, .null, .null, .null, .null, .null, .null, .null, .null])), (q7, .inl (cI, 40, .inl z0)), (q15, .inl (cI, 40, .inl z0)), (q23, .inl (cI, 40, .inl z0)), (q31, .inl (cI, 40, .inl z0))] := hD
  refine lv_aload_n hx hb dX5_init_36 rfl (lv_at hl 0 rfl) ?_
  refine lv_bipush (v := 40) hx hb dX5_init_37 (by decide) ?_
  refine z_newa (atype := .int) (ty := .int) hx hb (hts _ k_X5_init_4) rfl (fun _ h => va_nm_int h) hK 0 rfl hP hD hS hA (N' := 40) (a0 := (40, .inl z0)) (fun _ => rfl) (by decide) (by decide) (Nat.le_of_ble_eq_true rfl) (Nat.le_of_ble_eq_true rfl) (Nat.le_of_ble_eq_true rfl) dX5_init_39 (fun q39 H hP hD hS => ?_)
  refine va_putF (D := D) (ci := 5) (v := .ref q39) (ty := tyX5 8) (C := RX5) (T := TX5) (N := 26) hx hb hts b_X5_init_wsX50 tyX5 tyX5_ok nmX5 hown hK hP hD hS 0 rfl rfl 8 (by decide) (hts _ k_X5_init_9) (fun _ h9 => h9) rfl hin rfl (by decide +kernel) rfl rfl (Nat.le_of_ble_eq_true rfl) dX5_init_41 (fun H locs hP hD hS => ?_)
  have hP : va_P D vwCl [(h0, .inr (5, [.int 0, .int 0, .int 0, .int 0, .ref q7, .ref q15, .ref q23, .ref q31, .ref q39, .null, .null, .null, .null, .null, .null, .int 0, .null, .null, .null, .null, .null, .null, .null, .null, .null, .null])), (q7, .inl (cI, 40, .inl z0)), (q15, .inl (cI, 40, .inl z0)), (q23, .inl (cI, 40, .inl z0)), (q31, .inl (cI, 40, .inl z0)), (q39, .inl (cI, 40, .inl z0))] H := hP
  have hD : va_D A [(h0, .inr (5, [.int 0, .int 0, .int 0, .int 0, .ref q7, .ref q15, .ref q23, .ref q31, .ref q39, .null, .null, .null, .null, .null, .null, .int 0, .null, .null, .null, .null, .null, .null, .null, .null, .null, .null])), (q7, .inl (cI, 40, .inl z0)), (q15, .inl (cI, 40, .inl z0)), (q23, .inl (cI, 40, .inl z0)), (q31, .inl (cI, 40, .inl z0)), (q39, .inl (cI, 40, .inl z0))] := hD
  refine lv_aload_n hx hb dX5_init_44 rfl (lv_at hl 0 rfl) ?_
  refine lv_bipush (v := 40) hx hb dX5_init_45 (by decide) ?_
  refine z_newa (atype := .int) (ty := .int) hx hb (hts _ k_X5_init_4) rfl (fun _ h => va_nm_int h) hK 0 rfl hP hD hS hA (N' := 40) (a0 := (40, .inl z0)) (fun _ => rfl) (by decide) (by decide) (Nat.le_of_ble_eq_true rfl) (Nat.le_of_ble_eq_true rfl) (Nat.le_of_ble_eq_true rfl) dX5_init_47 (fun q47 H hP hD hS => ?_)
  refine va_putF (D := D) (ci := 5) (v := .ref q47) (ty := tyX5 9) (C := RX5) (T := TX5) (N := 26) hx hb hts b_X5_init_wsX50 tyX5 tyX5_ok nmX5 hown hK hP hD hS 0 rfl rfl 9 (by decide) (hts _ k_X5_init_10) (fun _ h9 => h9) rfl hin rfl (by decide +kernel) rfl rfl (Nat.le_of_ble_eq_true rfl) dX5_init_49 (fun H locs hP hD hS => ?_)
  have hP : va_P D vwCl [(h0, .inr (5, [.int 0, .int 0, .int 0, .int 0, .ref q7, .ref q15, .ref q23, .ref q31, .ref q39, .ref q47, .null, .null, .null, .null, .null, .int 0, .null, .null, .null, .null, .null, .null, .null, .null, .null, .null])), (q7, .inl (cI, 40, .inl z0)), (q15, .inl (cI, 40, .inl z0)), (q23, .inl (cI, 40, .inl z0)), (q31, .inl (cI, 40, .inl z0)), (q39, .inl (cI, 40, .inl z0)), (q47, .inl (cI, 40, .inl z0))] H := hP
  have hD : va_D A [(h0, .inr (5, [.int 0, .int 0, .int 0, .int 0, .ref q7, .ref q15, .ref q23, .ref q31, .ref q39, .ref q47, .null, .null, .null, .null, .null, .int 0, .null, .null, .null, .null, .null, .null, .null, .null, .null, .null])), (q7, .inl (cI, 40, .inl z0)), (q15, .inl (cI, 40, .inl z0)), (q23, .inl (cI, 40, .inl z0)), (q31, .inl (cI, 40, .inl z0)), (q39, .inl (cI, 40, .inl z0)), (q47, .inl (cI, 40, .inl z0))] := hD
  refine lv_aload_n hx hb dX5_init_52 rfl (lv_at hl 0 rfl) ?_
  refine lv_bipush (v := 40) hx hb dX5_init_53 (by decide) ?_
  refine z_newa (atype := .boolean) (ty := .boolean) hx hb (hts _ k_X5_init_11) rfl (fun _ h => va_nm_boolean h) hK 2 rfl hP hD hS hA (N' := 40) (a0 := (40, .inl z0)) (fun _ => rfl) (by decide) (by decide) (Nat.le_of_ble_eq_true rfl) (Nat.le_of_ble_eq_true rfl) (Nat.le_of_ble_eq_true rfl) dX5_init_55 (fun q55 H hP hD hS => ?_)
  refine va_putF (D := D) (ci := 5) (v := .ref q55) (ty := tyX5 10) (C := RX5) (T := TX5) (N := 26) hx hb hts b_X5_init_wsX50 tyX5 tyX5_ok nmX5 hown hK hP hD hS 0 rfl rfl 10 (by decide) (hts _ k_X5_init_12) (fun _ h9 => h9) rfl hin rfl (by decide +kernel) rfl rfl (Nat.le_of_ble_eq_true rfl) dX5_init_57 (fun H locs hP hD hS => ?_)
  have hP : va_P D vwCl [(h0, .inr (5, [.int 0, .int 0, .int 0, .int 0, .ref q7, .ref q15, .ref q23, .ref q31, .ref q39, .ref q47, .ref q55, .null, .null, .null, .null, .int 0, .null, .null, .null, .null, .null, .null, .null, .null, .null, .null])), (q7, .inl (cI, 40, .inl z0)), (q15, .inl (cI, 40, .inl z0)), (q23, .inl (cI, 40, .inl z0)), (q31, .inl (cI, 40, .inl z0)), (q39, .inl (cI, 40, .inl z0)), (q47, .inl (cI, 40, .inl z0)), (q55, .inl (cZ, 40, .inl z0))] H := hP
  have hD : va_D A [(h0, .inr (5, [.int 0, .int 0, .int 0, .int 0, .ref q7, .ref q15, .ref q23, .ref q31, .ref q39, .ref q47, .ref q55, .null, .null, .null, .null, .int 0, .null, .null, .null, .null, .null, .null, .null, .null, .null, .null])), (q7, .inl (cI, 40, .inl z0)), (q15, .inl (cI, 40, .inl z0)), (q23, .inl (cI, 40, .inl z0)), (q31, .inl (cI, 40, .inl z0)), (q39, .inl (cI, 40, .inl z0)), (q47, .inl (cI, 40, .inl z0)), (q55, .inl (cZ, 40, .inl z0))] := hD
  refine lv_aload_n hx hb dX5_init_60 rfl (lv_at hl 0 rfl) ?_
  refine lv_bipush (v := 40) hx hb dX5_init_61 (by decide) ?_
  refine z_newa (atype := .int) (ty := .int) hx hb (hts _ k_X5_init_4) rfl (fun _ h => va_nm_int h) hK 0 rfl hP hD hS hA (N' := 40) (a0 := (40, .inl z0)) (fun _ => rfl) (by decide) (by decide) (Nat.le_of_ble_eq_true rfl) (Nat.le_of_ble_eq_true rfl) (Nat.le_of_ble_eq_true rfl) dX5_init_63 (fun q63 H hP hD hS => ?_)
  refine va_putF (D := D) (ci := 5) (v := .ref q63) (ty := tyX5 11) (C := RX5) (T := TX5) (N := 26) hx hb hts b_X5_init_wsX50 tyX5 tyX5_ok nmX5 hown hK hP hD hS 0 rfl rfl 11 (by decide) (hts _ k_X5_init_13) (fun _ h9 => h9) rfl hin rfl (by decide +kernel) rfl rfl (Nat.le_of_ble_eq_true rfl) dX5_init_65 (fun H locs hP hD hS => ?_)
  have hP : va_P D vwCl [(h0, .inr (5, [.int 0, .int 0, .int 0, .int 0, .ref q7, .ref q15, .ref q23, .ref q31, .ref q39, .ref q47, .ref q55, .ref q63, .null, .null, .null, .int 0, .null, .null, .null, .null, .null, .null, .null, .null, .null, .null])), (q7, .inl (cI, 40, .inl z0)), (q15, .inl (cI, 40, .inl z0)), (q23, .inl (cI, 40, .inl z0)), (q31, .inl (cI, 40, .inl z0)), (q39, .inl (cI, 40, .inl z0)), (q47, .inl (cI, 40, .inl z0)), (q55, .inl (cZ, 40, .inl z0)), (q63, .inl (cI, 40, .inl z0))] H := hP
  have hD : va_D A [(h0, .inr (5, [.int 0, .int 0, .int 0, .int 0, .ref q7, .ref q15, .ref q23, .ref q31, .ref q39, .ref q47, .ref q55, .ref q63, .null, .null, .null, .int 0, .null, .null, .null, .null, .null, .null, .null, .null, .null, .null])), (q7, .inl (cI, 40, .inl z0)), (q15, .inl (cI, 40, .inl z0)), (q23, .inl (cI, 40, .inl z0)), (q31, .inl (cI, 40, .inl z0)), (q39, .inl (cI, 40, .inl z0)), (q47, .inl (cI, 40, .inl z0)), (q55, .inl (cZ, 40, .inl z0)), (q63, .inl (cI, 40, .inl z0))] := hD
  refine lv_aload_n hx hb dX5_init_68 rfl (lv_at hl 0 rfl) ?_
  refine lv_bipush (v := 40) hx hb dX5_init_69 (by decide) ?_
  refine z_newa (atype := .int) (ty := .int) hx hb (hts _ k_X5_init_4) rfl (fun _ h => va_nm_int h) hK 0 rfl hP hD hS hA (N' := 40) (a0 := (40, .inl z0)) (fun _ => rfl) (by decide) (by decide) (Nat.le_of_ble_eq_true rfl) (Nat.le_of_ble_eq_true rfl) (Nat.le_of_ble_eq_true rfl) dX5_init_71 (fun q71 H hP hD hS => ?_)
  refine va_putF (D := D) (ci := 5) (v := .ref q71) (ty := tyX5 12) (C := RX5) (T := TX5) (N := 26) hx hb hts b_X5_init_wsX50 tyX5 tyX5_ok nmX5 hown hK hP hD hS 0 rfl rfl 12 (by decide) (hts _ k_X5_init_14) (fun _ h9 => h9) rfl hin rfl (by decide +kernel) rfl rfl (Nat.le_of_ble_eq_true rfl) dX5_init_73 (fun H locs hP hD hS => ?_)
  have hP : va_P D vwCl [(h0, .inr (5, [.int 0, .int 0, .int 0, .int 0, .ref q7, .ref q15, .ref q23, .ref q31, .ref q39, .ref q47, .ref q55, .ref q63, .ref q71, .null, .null, .int 0, .null, .null, .null, .null, .null, .null, .null, .null, .null, .null])), (q7, .inl (cI, 40, .inl z0)), (q15, .inl (cI, 40, .inl z0)), (q23, .inl (cI, 40, .inl z0)), (q31, .inl (cI, 40, .inl z0)), (q39, .inl (cI, 40, .inl z0)), (q47, .inl (cI, 40, .inl z0)), (q55, .inl (cZ, 40, .inl z0)), (q63, .inl (cI, 40, .inl z0)), (q71, .inl (cI, 40, .inl z0))] H := hP
  have hD : va_D A [(h0, .inr (5, [.int 0, .int 0, .int 0, .int 0, .ref q7, .ref q15, .ref q23, .ref q31, .ref q39, .ref q47, .ref q55, .ref q63, .ref q71, .null, .null, .int 0, .null, .null, .null, .null, .null, .null, .null, .null, .null, .null])), (q7, .inl (cI, 40, .inl z0)), (q15, .inl (cI, 40, .inl z0)), (q23, .inl (cI, 40, .inl z0)), (q31, .inl (cI, 40, .inl z0)), (q39, .inl (cI, 40, .inl z0)), (q47, .inl (cI, 40, .inl z0)), (q55, .inl (cZ, 40, .inl z0)), (q63, .inl (cI, 40, .inl z0)), (q71, .inl (cI, 40, .inl z0))] := hD
  refine lv_aload_n hx hb dX5_init_76 rfl (lv_at hl 0 rfl) ?_
  refine lv_bipush (v := 40) hx hb dX5_init_77 (by decide) ?_
  refine z_newa (atype := .int) (ty := .int) hx hb (hts _ k_X5_init_4) rfl (fun _ h => va_nm_int h) hK 0 rfl hP hD hS hA (N' := 40) (a0 := (40, .inl z0)) (fun _ => rfl) (by decide) (by decide) (Nat.le_of_ble_eq_true rfl) (Nat.le_of_ble_eq_true rfl) (Nat.le_of_ble_eq_true rfl) dX5_init_79 (fun q79 H hP hD hS => ?_)
  refine va_putF (D := D) (ci := 5) (v := .ref q79) (ty := tyX5 13) (C := RX5) (T := TX5) (N := 26) hx hb hts b_X5_init_wsX50 tyX5 tyX5_ok nmX5 hown hK hP hD hS 0 rfl rfl 13 (by decide) (hts _ k_X5_init_15) (fun _ h9 => h9) rfl hin rfl (by decide +kernel) rfl rfl (Nat.le_of_ble_eq_true rfl) dX5_init_81 (fun H locs hP hD hS => ?_)
  have hP : va_P D vwCl [(h0, .inr (5, [.int 0, .int 0, .int 0, .int 0, .ref q7, .ref q15, .ref q23, .ref q31, .ref q39, .ref q47, .ref q55, .ref q63, .ref q71, .ref q79, .null, .int 0, .null, .null, .null, .null, .null, .null, .null, .null, .null, .null])), (q7, .inl (cI, 40, .inl z0)), (q15, .inl (cI, 40, .inl z0)), (q23, .inl (cI, 40, .inl z0)), (q31, .inl (cI, 40, .inl z0)), (q39, .inl (cI, 40, .inl z0)), (q47, .inl (cI, 40, .inl z0)), (q55, .inl (cZ, 40, .inl z0)), (q63, .inl (cI, 40, .inl z0)), (q71, .inl (cI, 40, .inl z0)), (q79, .inl (cI, 40, .inl z0))] H := hP
  have hD : va_D A [(h0, .inr (5, [.int 0, .int 0, .int 0, .int 0, .ref q7, .ref q15, .ref q23, .ref q31, .ref q39, .ref q47, .ref q55, .ref q63, .ref q71, .ref q79, .null, .int 0, .null, .null, .null, .null, .null, .null, .null, .null, .null, .null])), (q7, .inl (cI, 40, .inl z0)), (q15, .inl (cI, 40, .inl z0)), (q23, .inl (cI, 40, .inl z0)), (q31, .inl (cI, 40, .inl z0)), (q39, .inl (cI, 40, .inl z0)), (q47, .inl (cI, 40, .inl z0)), (q55, .inl (cZ, 40, .inl z0)), (q63, .inl (cI, 40, .inl z0)), (q71, .inl (cI, 40, .inl z0)), (q79, .inl (cI, 40, .inl z0))] := hD
  refine lv_aload_n hx hb dX5_init_84 rfl (lv_at hl 0 rfl) ?_
  refine lv_sipush (v := 1600) hx hb dX5_init_85 (by decide) ?_
  refine z_newa (atype := .int) (ty := .int) hx hb (hts _ k_X5_init_4) rfl (fun _ h => va_nm_int h) hK 0 rfl hP hD hS hA (N' := 1600) (a0 := (1600, .inl z0)) (fun _ => rfl) (by decide) (by decide) (Nat.le_of_ble_eq_true rfl) (Nat.le_of_ble_eq_true rfl) (Nat.le_of_ble_eq_true rfl) dX5_init_88 (fun q88 H hP hD hS => ?_)
  refine va_putF (D := D) (ci := 5) (v := .ref q88) (ty := tyX5 14) (C := RX5) (T := TX5) (N := 26) hx hb hts b_X5_init_wsX50 tyX5 tyX5_ok nmX5 hown hK hP hD hS 0 rfl rfl 14 (by decide) (hts _ k_X5_init_16) (fun _ h9 => h9) rfl hin rfl (by decide +kernel) rfl rfl (Nat.le_of_ble_eq_true rfl) dX5_init_90 (fun H locs hP hD hS => ?_)
  have hP : va_P D vwCl [(h0, .inr (5, [.int 0, .int 0, .int 0, .int 0, .ref q7, .ref q15, .ref q23, .ref q31, .ref q39, .ref q47, .ref q55, .ref q63, .ref q71, .ref q79, .ref q88, .int 0, .null, .null, .null, .null, .null, .null, .null, .null, .null, .null])), (q7, .inl (cI, 40, .inl z0)), (q15, .inl (cI, 40, .inl z0)), (q23, .inl (cI, 40, .inl z0)), (q31, .inl (cI, 40, .inl z0)), (q39, .inl (cI, 40, .inl z0)), (q47, .inl (cI, 40, .inl z0)), (q55, .inl (cZ, 40, .inl z0)), (q63, .inl (cI, 40, .inl z0)), (q71, .inl (cI, 40, .inl z0)), (q79, .inl (cI, 40, .inl z0)), (q88, .inl (cI, 1600, .inl z0))] H := hP
  have hD : va_D A [(h0, .inr (5, [.int 0, .int 0, .int 0, .int 0, .ref q7, .ref q15, .ref q23, .ref q31, .ref q39, .ref q47, .ref q55, .ref q63, .ref q71, .ref q79, .ref q88, .int 0, .null, .null, .null, .null, .null, .null, .null, .null, .null, .null])), (q7, .inl (cI, 40, .inl z0)), (q15, .inl (cI, 40, .inl z0)), (q23, .inl (cI, 40, .inl z0)), (q31, .inl (cI, 40, .inl z0)), (q39, .inl (cI, 40, .inl z0)), (q47, .inl (cI, 40, .inl z0)), (q55, .inl (cZ, 40, .inl z0)), (q63, .inl (cI, 40, .inl z0)), (q71, .inl (cI, 40, .inl z0)), (q79, .inl (cI, 40, .inl z0)), (q88, .inl (cI, 1600, .inl z0))] := hD
  refine lv_aload_n hx hb dX5_init_93 rfl (lv_at hl 0 rfl) ?_
  refine lv_bipush (v := 16) hx hb dX5_init_94 (by decide) ?_
  refine z_newa (atype := .int) (ty := .int) hx hb (hts _ k_X5_init_4) rfl (fun _ h => va_nm_int h) hK 0 rfl hP hD hS hA (N' := 16) (a0 := (16, .inl z0)) (fun _ => rfl) (by decide) (by decide) (Nat.le_of_ble_eq_true rfl) (Nat.le_of_ble_eq_true rfl) (Nat.le_of_ble_eq_true rfl) dX5_init_96 (fun q96 H hP hD hS => ?_)
  refine va_putF (D := D) (ci := 5) (v := .ref q96) (ty := tyX5 16) (C := RX5) (T := TX5) (N := 26) hx hb hts b_X5_init_wsX50 tyX5 tyX5_ok nmX5 hown hK hP hD hS 0 rfl rfl 16 (by decide) (hts _ k_X5_init_17) (fun _ h9 => h9) rfl hin rfl (by decide +kernel) rfl rfl (Nat.le_of_ble_eq_true rfl) dX5_init_98 (fun H locs hP hD hS => ?_)
  have hP : va_P D vwCl [(h0, .inr (5, [.int 0, .int 0, .int 0, .int 0, .ref q7, .ref q15, .ref q23, .ref q31, .ref q39, .ref q47, .ref q55, .ref q63, .ref q71, .ref q79, .ref q88, .int 0, .ref q96, .null, .null, .null, .null, .null, .null, .null, .null, .null])), (q7, .inl (cI, 40, .inl z0)), (q15, .inl (cI, 40, .inl z0)), (q23, .inl (cI, 40, .inl z0)), (q31, .inl (cI, 40, .inl z0)), (q39, .inl (cI, 40, .inl z0)), (q47, .inl (cI, 40, .inl z0)), (q55, .inl (cZ, 40, .inl z0)), (q63, .inl (cI, 40, .inl z0)), (q71, .inl (cI, 40, .inl z0)), (q79, .inl (cI, 40, .inl z0)), (q88, .inl (cI, 1600, .inl z0)), (q96, .inl (cI, 16, .inl z0))] H := hP
  have hD : va_D A [(h0, .inr (5, [.int 0, .int 0, .int 0, .int 0, .ref q7, .ref q15, .ref q23, .ref q31, .ref q39, .ref q47, .ref q55, .ref q63, .ref q71, .ref q79, .ref q88, .int 0, .ref q96, .null, .null, .null, .null, .null, .null, .null, .null, .null])), (q7, .inl (cI, 40, .inl z0)), (q15, .inl (cI, 40, .inl z0)), (q23, .inl (cI, 40, .inl z0)), (q31, .inl (cI, 40, .inl z0)), (q39, .inl (cI, 40, .inl z0)), (q47, .inl (cI, 40, .inl z0)), (q55, .inl (cZ, 40, .inl z0)), (q63, .inl (cI, 40, .inl z0)), (q71, .inl (cI, 40, .inl z0)), (q79, .inl (cI, 40, .inl z0)), (q88, .inl (cI, 1600, .inl z0)), (q96, .inl (cI, 16, .inl z0))] := hD
  refine lv_aload_n hx hb dX5_init_101 rfl (lv_at hl 0 rfl) ?_
  refine lv_bipush (v := 16) hx hb dX5_init_102 (by decide) ?_
  refine z_newa (atype := .int) (ty := .int) hx hb (hts _ k_X5_init_4) rfl (fun _ h => va_nm_int h) hK 0 rfl hP hD hS hA (N' := 16) (a0 := (16, .inl z0)) (fun _ => rfl) (by decide) (by decide) (Nat.le_of_ble_eq_true rfl) (Nat.le_of_ble_eq_true rfl) (Nat.le_of_ble_eq_true rfl) dX5_init_104 (fun q104 H hP hD hS => ?_)
  refine va_putF (D := D) (ci := 5) (v := .ref q104) (ty := tyX5 17) (C := RX5) (T := TX5) (N := 26) hx hb hts b_X5_init_wsX50 tyX5 tyX5_ok nmX5 hown hK hP hD hS 0 rfl rfl 17 (by decide) (hts _ k_X5_init_18) (fun _ h9 => h9) rfl hin rfl (by decide +kernel) rfl rfl (Nat.le_of_ble_eq_true rfl) dX5_init_106 (fun H locs hP hD hS => ?_)
  have hP : va_P D vwCl [(h0, .inr (5, [.int 0, .int 0, .int 0, .int 0, .ref q7, .ref q15, .ref q23, .ref q31, .ref q39, .ref q47, .ref q55, .ref q63, .ref q71, .ref q79, .ref q88, .int 0, .ref q96, .ref q104, .null, .null, .null, .null, .null, .null, .null, .null])), (q7, .inl (cI, 40, .inl z0)), (q15, .inl (cI, 40, .inl z0)), (q23, .inl (cI, 40, .inl z0)), (q31, .inl (cI, 40, .inl z0)), (q39, .inl (cI, 40, .inl z0)), (q47, .inl (cI, 40, .inl z0)), (q55, .inl (cZ, 40, .inl z0)), (q63, .inl (cI, 40, .inl z0)), (q71, .inl (cI, 40, .inl z0)), (q79, .inl (cI, 40, .inl z0)), (q88, .inl (cI, 1600, .inl z0)), (q96, .inl (cI, 16, .inl z0)), (q104, .inl (cI, 16, .inl z0))] H := hP
  have hD : va_D A [(h0, .inr (5, [.int 0, .int 0, .int 0, .int 0, .ref q7, .ref q15, .ref q23, .ref q31, .ref q39, .ref q47, .ref q55, .ref q63, .ref q71, .ref q79, .ref q88, .int 0, .ref q96, .ref q104, .null, .null, .null, .null, .null, .null, .null, .null])), (q7, .inl (cI, 40, .inl z0)), (q15, .inl (cI, 40, .inl z0)), (q23, .inl (cI, 40, .inl z0)), (q31, .inl (cI, 40, .inl z0)), (q39, .inl (cI, 40, .inl z0)), (q47, .inl (cI, 40, .inl z0)), (q55, .inl (cZ, 40, .inl z0)), (q63, .inl (cI, 40, .inl z0)), (q71, .inl (cI, 40, .inl z0)), (q79, .inl (cI, 40, .inl z0)), (q88, .inl (cI, 1600, .inl z0)), (q96, .inl (cI, 16, .inl z0)), (q104, .inl (cI, 16, .inl z0))] := hD
  refine lv_aload_n hx hb dX5_init_109 rfl (lv_at hl 0 rfl) ?_
  refine lv_bipush (v := 16) hx hb dX5_init_110 (by decide) ?_
  refine z_newa (atype := .int) (ty := .int) hx hb (hts _ k_X5_init_4) rfl (fun _ h => va_nm_int h) hK 0 rfl hP hD hS hA (N' := 16) (a0 := (16, .inl z0)) (fun _ => rfl) (by decide) (by decide) (Nat.le_of_ble_eq_true rfl) (Nat.le_of_ble_eq_true rfl) (Nat.le_of_ble_eq_true rfl) dX5_init_112 (fun q112 H hP hD hS => ?_)
  refine va_putF (D := D) (ci := 5) (v := .ref q112) (ty := tyX5 18) (C := RX5) (T := TX5) (N := 26) hx hb hts b_X5_init_wsX50 tyX5 tyX5_ok nmX5 hown hK hP hD hS 0 rfl rfl 18 (by decide) (hts _ k_X5_init_19) (fun _ h9 => h9) rfl hin rfl (by decide +kernel) rfl rfl (Nat.le_of_ble_eq_true rfl) dX5_init_114 (fun H locs hP hD hS => ?_)
  have hP : va_P D vwCl [(h0, .inr (5, [.int 0, .int 0, .int 0, .int 0, .ref q7, .ref q15, .ref q23, .ref q31, .ref q39, .ref q47, .ref q55, .ref q63, .ref q71, .ref q79, .ref q88, .int 0, .ref q96, .ref q104, .ref q112, .null, .null, .null, .null, .null, .null, .null])), (q7, .inl (cI, 40, .inl z0)), (q15, .inl (cI, 40, .inl z0)), (q23, .inl (cI, 40, .inl z0)), (q31, .inl (cI, 40, .inl z0)), (q39, .inl (cI, 40, .inl z0)), (q47, .inl (cI, 40, .inl z0)), (q55, .inl (cZ, 40, .inl z0)), (q63, .inl (cI, 40, .inl z0)), (q71, .inl (cI, 40, .inl z0)), (q79, .inl (cI, 40, .inl z0)), (q88, .inl (cI, 1600, .inl z0)), (q96, .inl (cI, 16, .inl z0)), (q104, .inl (cI, 16, .inl z0)), (q112, .inl (cI, 16, .inl z0))] H := hP
  have hD : va_D A [(h0, .inr (5, [.int 0, .int 0, .int 0, .int 0, .ref q7, .ref q15, .ref q23, .ref q31, .ref q39, .ref q47, .ref q55, .ref q63, .ref q71, .ref q79, .ref q88, .int 0, .ref q96, .ref q104, .ref q112, .null, .null, .null, .null, .null, .null, .null])), (q7, .inl (cI, 40, .inl z0)), (q15, .inl (cI, 40, .inl z0)), (q23, .inl (cI, 40, .inl z0)), (q31, .inl (cI, 40, .inl z0)), (q39, .inl (cI, 40, .inl z0)), (q47, .inl (cI, 40, .inl z0)), (q55, .inl (cZ, 40, .inl z0)), (q63, .inl (cI, 40, .inl z0)), (q71, .inl (cI, 40, .inl z0)), (q79, .inl (cI, 40, .inl z0)), (q88, .inl (cI, 1600, .inl z0)), (q96, .inl (cI, 16, .inl z0)), (q104, .inl (cI, 16, .inl z0)), (q112, .inl (cI, 16, .inl z0))] := hD
  refine lv_aload_n hx hb dX5_init_117 rfl (lv_at hl 0 rfl) ?_
  refine lv_bipush (v := 16) hx hb dX5_init_118 (by decide) ?_
  refine z_newa (atype := .int) (ty := .int) hx hb (hts _ k_X5_init_4) rfl (fun _ h => va_nm_int h) hK 0 rfl hP hD hS hA (N' := 16) (a0 := (16, .inl z0)) (fun _ => rfl) (by decide) (by decide) (Nat.le_of_ble_eq_true rfl) (Nat.le_of_ble_eq_true rfl) (Nat.le_of_ble_eq_true rfl) dX5_init_120 (fun q120 H hP hD hS => ?_)
  refine va_putF (D := D) (ci := 5) (v := .ref q120) (ty := tyX5 19) (C := RX5) (T := TX5) (N := 26) hx hb hts b_X5_init_wsX50 tyX5 tyX5_ok nmX5 hown hK hP hD hS 0 rfl rfl 19 (by decide) (hts _ k_X5_init_20) (fun _ h9 => h9) rfl hin rfl (by decide +kernel) rfl rfl (Nat.le_of_ble_eq_true rfl) dX5_init_122 (fun H locs hP hD hS => ?_)
  have hP : va_P D vwCl [(h0, .inr (5, [.int 0, .int 0, .int 0, .int 0, .ref q7, .ref q15, .ref q23, .ref q31, .ref q39, .ref q47, .ref q55, .ref q63, .ref q71, .ref q79, .ref q88, .int 0, .ref q96, .ref q104, .ref q112, .ref q120, .null, .null, .null, .null, .null, .null])), (q7, .inl (cI, 40, .inl z0)), (q15, .inl (cI, 40, .inl z0)), (q23, .inl (cI, 40, .inl z0)), (q31, .inl (cI, 40, .inl z0)), (q39, .inl (cI, 40, .inl z0)), (q47, .inl (cI, 40, .inl z0)), (q55, .inl (cZ, 40, .inl z0)), (q63, .inl (cI, 40, .inl z0)), (q71, .inl (cI, 40, .inl z0)), (q79, .inl (cI, 40, .inl z0)), (q88, .inl (cI, 1600, .inl z0)), (q96, .inl (cI, 16, .inl z0)), (q104, .inl (cI, 16, .inl z0)), (q112, .inl (cI, 16, .inl z0)), (q120, .inl (cI, 16, .inl z0))] H := hP
  have hD : va_D A [(h0, .inr (5, [.int 0, .int 0, .int 0, .int 0, .ref q7, .ref q15, .ref q23, .ref q31, .ref q39, .ref q47, .ref q55, .ref q63, .ref q71, .ref q79, .ref q88, .int 0, .ref q96, .ref q104, .ref q112, .ref q120, .null, .null, .null, .null, .null, .null])), (q7, .inl (cI, 40, .inl z0)), (q15, .inl (cI, 40, .inl z0)), (q23, .inl (cI, 40, .inl z0)), (q31, .inl (cI, 40, .inl z0)), (q39, .inl (cI, 40, .inl z0)), (q47, .inl (cI, 40, .inl z0)), (q55, .inl (cZ, 40, .inl z0)), (q63, .inl (cI, 40, .inl z0)), (q71, .inl (cI, 40, .inl z0)), (q79, .inl (cI, 40, .inl z0)), (q88, .inl (cI, 1600, .inl z0)), (q96, .inl (cI, 16, .inl z0)), (q104, .inl (cI, 16, .inl z0)), (q112, .inl (cI, 16, .inl z0)), (q120, .inl (cI, 16, .inl z0))] := hD
  refine lv_aload_n hx hb dX5_init_125 rfl (lv_at hl 0 rfl) ?_
  refine lv_bipush (v := 16) hx hb dX5_init_126 (by decide) ?_
  refine z_newa (atype := .int) (ty := .int) hx hb (hts _ k_X5_init_4) rfl (fun _ h => va_nm_int h) hK 0 rfl hP hD hS hA (N' := 16) (a0 := (16, .inl z0)) (fun _ => rfl) (by decide) (by decide) (Nat.le_of_ble_eq_true rfl) (Nat.le_of_ble_eq_true rfl) (Nat.le_of_ble_eq_true rfl) dX5_init_128 (fun q128 H hP hD hS => ?_)
  refine va_putF (D := D) (ci := 5) (v := .ref q128) (ty := tyX5 20) (C := RX5) (T := TX5) (N := 26) hx hb hts b_X5_init_wsX50 tyX5 tyX5_ok nmX5 hown hK hP hD hS 0 rfl rfl 20 (by decide) (hts _ k_X5_init_21) (fun _ h9 => h9) rfl hin rfl (by decide +kernel) rfl rfl (Nat.le_of_ble_eq_true rfl) dX5_init_130 (fun H locs hP hD hS => ?_)
  have hP : va_P D vwCl [(h0, .inr (5, [.int 0, .int 0, .int 0, .int 0, .ref q7, .ref q15, .ref q23, .ref q31, .ref q39, .ref q47, .ref q55, .ref q63, .ref q71, .ref q79, .ref q88, .int 0, .ref q96, .ref q104, .ref q112, .ref q120, .ref q128, .null, .null, .null, .null, .null])), (q7, .inl (cI, 40, .inl z0)), (q15, .inl (cI, 40, .inl z0)), (q23, .inl (cI, 40, .inl z0)), (q31, .inl (cI, 40, .inl z0)), (q39, .inl (cI, 40, .inl z0)), (q47, .inl (cI, 40, .inl z0)), (q55, .inl (cZ, 40, .inl z0)), (q63, .inl (cI, 40, .inl z0)), (q71, .inl (cI, 40, .inl z0)), (q79, .inl (cI, 40, .inl z0)), (q88, .inl (cI, 1600, .inl z0)), (q96, .inl (cI, 16, .inl z0)), (q104, .inl (cI, 16, .inl z0)), (q112, .inl (cI, 16, .inl z0)), (q120, .inl (cI, 16, .inl z0)), (q128, .inl (cI, 16, .inl z0))] H := hP
  have hD : va_D A [(h0, .inr (5, [.int 0, .int 0, .int 0, .int 0, .ref q7, .ref q15, .ref q23, .ref q31, .ref q39, .ref q47, .ref q55, .ref q63, .ref q71, .ref q79, .ref q88, .int 0, .ref q96, .ref q104, .ref q112, .ref q120, .ref q128, .null, .null, .null, .null, .null])), (q7, .inl (cI, 40, .inl z0)), (q15, .inl (cI, 40, .inl z0)), (q23, .inl (cI, 40, .inl z0)), (q31, .inl (cI, 40, .inl z0)), (q39, .inl (cI, 40, .inl z0)), (q47, .inl (cI, 40, .inl z0)), (q55, .inl (cZ, 40, .inl z0)), (q63, .inl (cI, 40, .inl z0)), (q71, .inl (cI, 40, .inl z0)), (q79, .inl (cI, 40, .inl z0)), (q88, .inl (cI, 1600, .inl z0)), (q96, .inl (cI, 16, .inl z0)), (q104, .inl (cI, 16, .inl z0)), (q112, .inl (cI, 16, .inl z0)), (q120, .inl (cI, 16, .inl z0)), (q128, .inl (cI, 16, .inl z0))] := hD
  refine lv_aload_n hx hb dX5_init_133 rfl (lv_at hl 0 rfl) ?_
  refine lv_bipush (v := 16) hx hb dX5_init_134 (by decide) ?_
  refine z_newa (atype := .int) (ty := .int) hx hb (hts _ k_X5_init_4) rfl (fun _ h => va_nm_int h) hK 0 rfl hP hD hS hA (N' := 16) (a0 := (16, .inl z0)) (fun _ => rfl) (by decide) (by decide) (Nat.le_of_ble_eq_true rfl) (Nat.le_of_ble_eq_true rfl) (Nat.le_of_ble_eq_true rfl) dX5_init_136 (fun q136 H hP hD hS => ?_)
  refine va_putF (D := D) (ci := 5) (v := .ref q136) (ty := tyX5 21) (C := RX5) (T := TX5) (N := 26) hx hb hts b_X5_init_wsX50 tyX5 tyX5_ok nmX5 hown hK hP hD hS 0 rfl rfl 21 (by decide) (hts _ k_X5_init_22) (fun _ h9 => h9) rfl hin rfl (by decide +kernel) rfl rfl (Nat.le_of_ble_eq_true rfl) dX5_init_138 (fun H locs hP hD hS => ?_)
  have hP : va_P D vwCl [(h0, .inr (5, [.int 0, .int 0, .int 0, .int 0, .ref q7, .ref q15, .ref q23, .ref q31, .ref q39, .ref q47, .ref q55, .ref q63, .ref q71, .ref q79, .ref q88, .int 0, .ref q96, .ref q104, .ref q112, .ref q120, .ref q128, .ref q136, .null, .null, .null, .null])), (q7, .inl (cI, 40, .inl z0)), (q15, .inl (cI, 40, .inl z0)), (q23, .inl (cI, 40, .inl z0)), (q31, .inl (cI, 40, .inl z0)), (q39, .inl (cI, 40, .inl z0)), (q47, .inl (cI, 40, .inl z0)), (q55, .inl (cZ, 40, .inl z0)), (q63, .inl (cI, 40, .inl z0)), (q71, .inl (cI, 40, .inl z0)), (q79, .inl (cI, 40, .inl z0)), (q88, .inl (cI, 1600, .inl z0)), (q96, .inl (cI, 16, .inl z0)), (q104, .inl (cI, 16, .inl z0)), (q112, .inl (cI, 16, .inl z0)), (q120, .inl (cI, 16, .inl z0)), (q128, .inl (cI, 16, .inl z0)), (q136, .inl (cI, 16, .inl z0))] H := hP
  have hD : va_D A [(h0, .inr (5, [.int 0, .int 0, .int 0, .int 0, .ref q7, .ref q15, .ref q23, .ref q31, .ref q39, .ref q47, .ref q55, .ref q63, .ref q71, .ref q79, .ref q88, .int 0, .ref q96, .ref q104, .ref q112, .ref q120, .ref q128, .ref q136, .null, .null, .null, .null])), (q7, .inl (cI, 40, .inl z0)), (q15, .inl (cI, 40, .inl z0)), (q23, .inl (cI, 40, .inl z0)), (q31, .inl (cI, 40, .inl z0)), (q39, .inl (cI, 40, .inl z0)), (q47, .inl (cI, 40, .inl z0)), (q55, .inl (cZ, 40, .inl z0)), (q63, .inl (cI, 40, .inl z0)), (q71, .inl (cI, 40, .inl z0)), (q79, .inl (cI, 40, .inl z0)), (q88, .inl (cI, 1600, .inl z0)), (q96, .inl (cI, 16, .inl z0)), (q104, .inl (cI, 16, .inl z0)), (q112, .inl (cI, 16, .inl z0)), (q120, .inl (cI, 16, .inl z0)), (q128, .inl (cI, 16, .inl z0)), (q136, .inl (cI, 16, .inl z0))] := hD
  refine lv_aload_n hx hb dX5_init_141 rfl (lv_at hl 0 rfl) ?_
  refine lv_bipush (v := 16) hx hb dX5_init_142 (by decide) ?_
  refine z_newa (atype := .boolean) (ty := .boolean) hx hb (hts _ k_X5_init_11) rfl (fun _ h => va_nm_boolean h) hK 2 rfl hP hD hS hA (N' := 16) (a0 := (16, .inl z0)) (fun _ => rfl) (by decide) (by decide) (Nat.le_of_ble_eq_true rfl) (Nat.le_of_ble_eq_true rfl) (Nat.le_of_ble_eq_true rfl) dX5_init_144 (fun q144 H hP hD hS => ?_)
  refine va_putF (D := D) (ci := 5) (v := .ref q144) (ty := tyX5 22) (C := RX5) (T := TX5) (N := 26) hx hb hts b_X5_init_wsX50 tyX5 tyX5_ok nmX5 hown hK hP hD hS 0 rfl rfl 22 (by decide) (hts _ k_X5_init_23) (fun _ h9 => h9) rfl hin rfl (by decide +kernel) rfl rfl (Nat.le_of_ble_eq_true rfl) dX5_init_146 (fun H locs hP hD hS => ?_)
  have hP : va_P D vwCl [(h0, .inr (5, [.int 0, .int 0, .int 0, .int 0, .ref q7, .ref q15, .ref q23, .ref q31, .ref q39, .ref q47, .ref q55, .ref q63, .ref q71, .ref q79, .ref q88, .int 0, .ref q96, .ref q104, .ref q112, .ref q120, .ref q128, .ref q136, .ref q144, .null, .null, .null])), (q7, .inl (cI, 40, .inl z0)), (q15, .inl (cI, 40, .inl z0)), (q23, .inl (cI, 40, .inl z0)), (q31, .inl (cI, 40, .inl z0)), (q39, .inl (cI, 40, .inl z0)), (q47, .inl (cI, 40, .inl z0)), (q55, .inl (cZ, 40, .inl z0)), (q63, .inl (cI, 40, .inl z0)), (q71, .inl (cI, 40, .inl z0)), (q79, .inl (cI, 40, .inl z0)), (q88, .inl (cI, 1600, .inl z0)), (q96, .inl (cI, 16, .inl z0)), (q104, .inl (cI, 16, .inl z0)), (q112, .inl (cI, 16, .inl z0)), (q120, .inl (cI, 16, .inl z0)), (q128, .inl (cI, 16, .inl z0)), (q136, .inl (cI, 16, .inl z0)), (q144, .inl (cZ, 16, .inl z0))] H := hP
  have hD : va_D A [(h0, .inr (5, [.int 0, .int 0, .int 0, .int 0, .ref q7, .ref q15, .ref q23, .ref q31, .ref q39, .ref q47, .ref q55, .ref q63, .ref q71, .ref q79, .ref q88, .int 0, .ref q96, .ref q104, .ref q112, .ref q120, .ref q128, .ref q136, .ref q144, .null, .null, .null])), (q7, .inl (cI, 40, .inl z0)), (q15, .inl (cI, 40, .inl z0)), (q23, .inl (cI, 40, .inl z0)), (q31, .inl (cI, 40, .inl z0)), (q39, .inl (cI, 40, .inl z0)), (q47, .inl (cI, 40, .inl z0)), (q55, .inl (cZ, 40, .inl z0)), (q63, .inl (cI, 40, .inl z0)), (q71, .inl (cI, 40, .inl z0)), (q79, .inl (cI, 40, .inl z0)), (q88, .inl (cI, 1600, .inl z0)), (q96, .inl (cI, 16, .inl z0)), (q104, .inl (cI, 16, .inl z0)), (q112, .inl (cI, 16, .inl z0)), (q120, .inl (cI, 16, .inl z0)), (q128, .inl (cI, 16, .inl z0)), (q136, .inl (cI, 16, .inl z0)), (q144, .inl (cZ, 16, .inl z0))] := hD
  refine lv_aload_n hx hb dX5_init_149 rfl (lv_at hl 0 rfl) ?_
  refine lv_bipush (v := 36) hx hb dX5_init_150 (by decide) ?_
  refine z_newa (atype := .int) (ty := .int) hx hb (hts _ k_X5_init_4) rfl (fun _ h => va_nm_int h) hK 0 rfl hP hD hS hA (N' := 36) (a0 := (36, .inl z0)) (fun _ => rfl) (by decide) (by decide) (Nat.le_of_ble_eq_true rfl) (Nat.le_of_ble_eq_true rfl) (Nat.le_of_ble_eq_true rfl) dX5_init_152 (fun q152 H hP hD hS => ?_)
  refine va_putF (D := D) (ci := 5) (v := .ref q152) (ty := tyX5 23) (C := RX5) (T := TX5) (N := 26) hx hb hts b_X5_init_wsX50 tyX5 tyX5_ok nmX5 hown hK hP hD hS 0 rfl rfl 23 (by decide) (hts _ k_X5_init_24) (fun _ h9 => h9) rfl hin rfl (by decide +kernel) rfl rfl (Nat.le_of_ble_eq_true rfl) dX5_init_154 (fun H locs hP hD hS => ?_)
  have hP : va_P D vwCl [(h0, .inr (5, [.int 0, .int 0, .int 0, .int 0, .ref q7, .ref q15, .ref q23, .ref q31, .ref q39, .ref q47, .ref q55, .ref q63, .ref q71, .ref q79, .ref q88, .int 0, .ref q96, .ref q104, .ref q112, .ref q120, .ref q128, .ref q136, .ref q144, .ref q152, .null, .null])), (q7, .inl (cI, 40, .inl z0)), (q15, .inl (cI, 40, .inl z0)), (q23, .inl (cI, 40, .inl z0)), (q31, .inl (cI, 40, .inl z0)), (q39, .inl (cI, 40, .inl z0)), (q47, .inl (cI, 40, .inl z0)), (q55, .inl (cZ, 40, .inl z0)), (q63, .inl (cI, 40, .inl z0)), (q71, .inl (cI, 40, .inl z0)), (q79, .inl (cI, 40, .inl z0)), (q88, .inl (cI, 1600, .inl z0)), (q96, .inl (cI, 16, .inl z0)), (q104, .inl (cI, 16, .inl z0)), (q112, .inl (cI, 16, .inl z0)), (q120, .inl (cI, 16, .inl z0)), (q128, .inl (cI, 16, .inl z0)), (q136, .inl (cI, 16, .inl z0)), (q144, .inl (cZ, 16, .inl z0)), (q152, .inl (cI, 36, .inl z0))] H := hP
  have hD : va_D A [(h0, .inr (5, [.int 0, .int 0, .int 0, .int 0, .ref q7, .ref q15, .ref q23, .ref q31, .ref q39, .ref q47, .ref q55, .ref q63, .ref q71, .ref q79, .ref q88, .int 0, .ref q96, .ref q104, .ref q112, .ref q120, .ref q128, .ref q136, .ref q144, .ref q152, .null, .null])), (q7, .inl (cI, 40, .inl z0)), (q15, .inl (cI, 40, .inl z0)), (q23, .inl (cI, 40, .inl z0)), (q31, .inl (cI, 40, .inl z0)), (q39, .inl (cI, 40, .inl z0)), (q47, .inl (cI, 40, .inl z0)), (q55, .inl (cZ, 40, .inl z0)), (q63, .inl (cI, 40, .inl z0)), (q71, .inl (cI, 40, .inl z0)), (q79, .inl (cI, 40, .inl z0)), (q88, .inl (cI, 1600, .inl z0)), (q96, .inl (cI, 16, .inl z0)), (q104, .inl (cI, 16, .inl z0)), (q112, .inl (cI, 16, .inl z0)), (q120, .inl (cI, 16, .inl z0)), (q128, .inl (cI, 16, .inl z0)), (q136, .inl (cI, 16, .inl z0)), (q144, .inl (cZ, 16, .inl z0)), (q152, .inl (cI, 36, .inl z0))] := hD
  refine lv_aload_n hx hb dX5_init_157 rfl (lv_at hl 0 rfl) ?_
  refine lv_bipush (v := 36) hx hb dX5_init_158 (by decide) ?_
  refine z_newa (atype := .int) (ty := .int) hx hb (hts _ k_X5_init_4) rfl (fun _ h => va_nm_int h) hK 0 rfl hP hD hS hA (N' := 36) (a0 := (36, .inl z0)) (fun _ => rfl) (by decide) (by decide) (Nat.le_of_ble_eq_true rfl) (Nat.le_of_ble_eq_true rfl) (Nat.le_of_ble_eq_true rfl) dX5_init_160 (fun q160 H hP hD hS => ?_)
  refine va_putF (D := D) (ci := 5) (v := .ref q160) (ty := tyX5 24) (C := RX5) (T := TX5) (N := 26) hx hb hts b_X5_init_wsX50 tyX5 tyX5_ok nmX5 hown hK hP hD hS 0 rfl rfl 24 (by decide) (hts _ k_X5_init_25) (fun _ h9 => h9) rfl hin rfl (by decide +kernel) rfl rfl (Nat.le_of_ble_eq_true rfl) dX5_init_162 (fun H locs hP hD hS => ?_)
  have hP : va_P D vwCl [(h0, .inr (5, [.int 0, .int 0, .int 0, .int 0, .ref q7, .ref q15, .ref q23, .ref q31, .ref q39, .ref q47, .ref q55, .ref q63, .ref q71, .ref q79, .ref q88, .int 0, .ref q96, .ref q104, .ref q112, .ref q120, .ref q128, .ref q136, .ref q144, .ref q152, .ref q160, .null])), (q7, .inl (cI, 40, .inl z0)), (q15, .inl (cI, 40, .inl z0)), (q23, .inl (cI, 40, .inl z0)), (q31, .inl (cI, 40, .inl z0)), (q39, .inl (cI, 40, .inl z0)), (q47, .inl (cI, 40, .inl z0)), (q55, .inl (cZ, 40, .inl z0)), (q63, .inl (cI, 40, .inl z0)), (q71, .inl (cI, 40, .inl z0)), (q79, .inl (cI, 40, .inl z0)), (q88, .inl (cI, 1600, .inl z0)), (q96, .inl (cI, 16, .inl z0)), (q104, .inl (cI, 16, .inl z0)), (q112, .inl (cI, 16, .inl z0)), (q120, .inl (cI, 16, .inl z0)), (q128, .inl (cI, 16, .inl z0)), (q136, .inl (cI, 16, .inl z0)), (q144, .inl (cZ, 16, .inl z0)), (q152, .inl (cI, 36, .inl z0)), (q160, .inl (cI, 36, .inl z0))] H := hP
  have hD : va_D A [(h0, .inr (5, [.int 0, .int 0, .int 0, .int 0, .ref q7, .ref q15, .ref q23, .ref q31, .ref q39, .ref q47, .ref q55, .ref q63, .ref q71, .ref q79, .ref q88, .int 0, .ref q96, .ref q104, .ref q112, .ref q120, .ref q128, .ref q136, .ref q144, .ref q152, .ref q160, .null])), (q7, .inl (cI, 40, .inl z0)), (q15, .inl (cI, 40, .inl z0)), (q23, .inl (cI, 40, .inl z0)), (q31, .inl (cI, 40, .inl z0)), (q39, .inl (cI, 40, .inl z0)), (q47, .inl (cI, 40, .inl z0)), (q55, .inl (cZ, 40, .inl z0)), (q63, .inl (cI, 40, .inl z0)), (q71, .inl (cI, 40, .inl z0)), (q79, .inl (cI, 40, .inl z0)), (q88, .inl (cI, 1600, .inl z0)), (q96, .inl (cI, 16, .inl z0)), (q104, .inl (cI, 16, .inl z0)), (q112, .inl (cI, 16, .inl z0)), (q120, .inl (cI, 16, .inl z0)), (q128, .inl (cI, 16, .inl z0)), (q136, .inl (cI, 16, .inl z0)), (q144, .inl (cZ, 16, .inl z0)), (q152, .inl (cI, 36, .inl z0)), (q160, .inl (cI, 36, .inl z0))] := hD
  refine lv_aload_n hx hb dX5_init_165 rfl (lv_at hl 0 rfl) ?_
  refine lv_bipush (v := 8) hx hb dX5_init_166 (by decide) ?_
  refine z_newa (atype := .long) (ty := .long) hx hb (hts _ k_X5_init_26) rfl (fun _ h => va_nm_long h) hK 1 rfl hP hD hS hA (N' := 8) (a0 := (8, .inr (.inl z0L))) (fun _ => rfl) (by decide) (by decide) (Nat.le_of_ble_eq_true rfl) (Nat.le_of_ble_eq_true rfl) (Nat.le_of_ble_eq_true rfl) dX5_init_168 (fun q168 H hP hD hS => ?_)
  refine va_putF (D := D) (ci := 5) (v := .ref q168) (ty := tyX5 25) (C := RX5) (T := TX5) (N := 26) hx hb hts b_X5_init_wsX50 tyX5 tyX5_ok nmX5 hown hK hP hD hS 0 rfl rfl 25 (by decide) (hts _ k_X5_init_27) (fun _ h9 => h9) rfl hin rfl (by decide +kernel) rfl rfl (Nat.le_of_ble_eq_true rfl) dX5_init_170 (fun H locs hP hD hS => ?_)
  have hP : va_P D vwCl [(h0, .inr (5, [.int 0, .int 0, .int 0, .int 0, .ref q7, .ref q15, .ref q23, .ref q31, .ref q39, .ref q47, .ref q55, .ref q63, .ref q71, .ref q79, .ref q88, .int 0, .ref q96, .ref q104, .ref q112, .ref q120, .ref q128, .ref q136, .ref q144, .ref q152, .ref q160, .ref q168])), (q7, .inl (cI, 40, .inl z0)), (q15, .inl (cI, 40, .inl z0)), (q23, .inl (cI, 40, .inl z0)), (q31, .inl (cI, 40, .inl z0)), (q39, .inl (cI, 40, .inl z0)), (q47, .inl (cI, 40, .inl z0)), (q55, .inl (cZ, 40, .inl z0)), (q63, .inl (cI, 40, .inl z0)), (q71, .inl (cI, 40, .inl z0)), (q79, .inl (cI, 40, .inl z0)), (q88, .inl (cI, 1600, .inl z0)), (q96, .inl (cI, 16, .inl z0)), (q104, .inl (cI, 16, .inl z0)), (q112, .inl (cI, 16, .inl z0)), (q120, .inl (cI, 16, .inl z0)), (q128, .inl (cI, 16, .inl z0)), (q136, .inl (cI, 16, .inl z0)), (q144, .inl (cZ, 16, .inl z0)), (q152, .inl (cI, 36, .inl z0)), (q160, .inl (cI, 36, .inl z0)), (q168, .inl (cJ, 8, .inr (.inl z0L)))] H := hP
  have hD : va_D A [(h0, .inr (5, [.int 0, .int 0, .int 0, .int 0, .ref q7, .ref q15, .ref q23, .ref q31, .ref q39, .ref q47, .ref q55, .ref q63, .ref q71, .ref q79, .ref q88, .int 0, .ref q96, .ref q104, .ref q112, .ref q120, .ref q128, .ref q136, .ref q144, .ref q152, .ref q160, .ref q168])), (q7, .inl (cI, 40, .inl z0)), (q15, .inl (cI, 40, .inl z0)), (q23, .inl (cI, 40, .inl z0)), (q31, .inl (cI, 40, .inl z0)), (q39, .inl (cI, 40, .inl z0)), (q47, .inl (cI, 40, .inl z0)), (q55, .inl (cZ, 40, .inl z0)), (q63, .inl (cI, 40, .inl z0)), (q71, .inl (cI, 40, .inl z0)), (q79, .inl (cI, 40, .inl z0)), (q88, .inl (cI, 1600, .inl z0)), (q96, .inl (cI, 16, .inl z0)), (q104, .inl (cI, 16, .inl z0)), (q112, .inl (cI, 16, .inl z0)), (q120, .inl (cI, 16, .inl z0)), (q128, .inl (cI, 16, .inl z0)), (q136, .inl (cI, 16, .inl z0)), (q144, .inl (cZ, 16, .inl z0)), (q152, .inl (cI, 36, .inl z0)), (q160, .inl (cI, 36, .inl z0)), (q168, .inl (cJ, 8, .inr (.inl z0L)))] := hD
  obtain ⟨a, h30, hP9, hD9⟩ : ∃ a : Nat → Nat, a 30 = h0 ∧ va_P D vwCl (wMo cI cJ cZ a 0 0 0 0 z0 z0 z0 z0 z0 z0 z0 z0 z0 z0 z0 0 z0 z0 z0 z0 z0 z0 z0 z0 z0 z0L) H ∧ va_D A (wMo cI cJ cZ a 0 0 0 0 z0 z0 z0 z0 z0 z0 z0 z0 z0 z0 z0 0 z0 z0 z0 z0 z0 z0 z0 z0 z0 z0L) := ⟨(fun k => List.getD [h0, q7, q15, q23, q31, q39, q47, q55, q63, q71, q79, q88, q96, q104, q112, q120, q128, q136, q144, q152, q160, q168] (k - 30) 0), rfl, hP, hD⟩
  subst h30
  have hP := hP9
  have hD := hD9
  refine lv_iconst (v := 0) hx hb dX5_init_173 (by decide) ?_
  refine lv_istore_n (lv' := [(1, .int 0), (0, .ref (a 30))]) hx hb dX5_init_174 rfl hl (by decide) rfl (fun ls hl => ?_)
  have e_wag : G_fill 0 = z0 := by first | rfl | exact nI_0
  have hP : va_P D vwCl (wMo cI cJ cZ a 0 0 0 0 z0 z0 z0 z0 z0 z0 z0 z0 z0 z0 (G_fill 0) 0 z0 z0 z0 z0 z0 z0 z0 z0 z0 z0L) H := by rw [e_wag]; exact hP
  have e_l1 : (nI 0) = 0 := by first | rfl | exact nI_0
  have hl : lv_has ls 2 [(1, .int (nI 0)), (0, .ref (a 30))] := by rw [e_l1]; exact lv_sub hl [0, 1] rfl
  refine z_loop (D := D) (A := A) (H0 := s.heap) (N := 1600) (Wf := fun i => (wMo cI cJ cZ a 0 0 0 0 z0 z0 z0 z0 z0 z0 z0 z0 z0 z0 (G_fill i) 0 z0 z0 z0 z0 z0 z0 z0 z0 z0 z0L)) (lvf := fun i => [(1, .int (nI i)), (0, .ref (a 30))]) (Inv := fun i => True) 0 (by omega) trivial hP hS hl (fun i hi hinv H locs ls hP hS hl ih => ?_)
  have hP : va_P D vwCl (wMo cI cJ cZ a 0 0 0 0 z0 z0 z0 z0 z0 z0 z0 z0 z0 z0 (G_fill i) 0 z0 z0 z0 z0 z0 z0 z0 z0 z0 z0L) H := hP
  have hD : va_D A (wMo cI cJ cZ a 0 0 0 0 z0 z0 z0 z0 z0 z0 z0 z0 z0 z0 (G_fill i) 0 z0 z0 z0 z0 z0 z0 z0 z0 z0 z0L) := zD_congr (w1 := (wMo cI cJ cZ a 0 0 0 0 z0 z0 z0 z0 z0 z0 z0 z0 z0 z0 z0 0 z0 z0 z0 z0 z0 z0 z0 z0 z0 z0L)) rfl hD
  have hl : lv_has ls 2 [(1, .int (nI i)), (0, .ref (a 30))] := hl
  have hinv : True := hinv
  refine lv_iload_n hx hb dX5_init_175 rfl (lv_at hl 0 rfl) ?_
  refine lv_sipush (v := 1600) hx hb dX5_init_176 (by decide) ?_
  refine lv_icmp_ge (tgt := 195) hx hb dX5_init_179 (by decide) (fun c_1 => ?_) (fun c_1 => ?_)
  · have f_1 := z_leN (a := 1600) (b := i) c_1 (by decide) rfl (by omega) (by omega)
    have f_1n := Nat.not_lt.mpr f_1
    obtain rfl : 1600 = i := by omega
    have hD : va_D A (wMo cI cJ cZ a 0 0 0 0 z0 z0 z0 z0 z0 z0 z0 z0 z0 z0 (G_fill 1600) 0 z0 z0 z0 z0 z0 z0 z0 z0 z0 z0L) := zD_congr (w1 := (wMo cI cJ cZ a 0 0 0 0 z0 z0 z0 z0 z0 z0 z0 z0 z0 z0 (G_fill 1600) 0 z0 z0 z0 z0 z0 z0 z0 z0 z0 z0L)) rfl hD
    exact W.vret hx hb hr (fun t ht hW => ⟨⟨a, rfl, rfl, z_at ht hP, hD⟩, hS.F ht⟩) hS.2.2 dX5_init_195
  · have f_1 := z_nleN (a := 1600) (b := i) c_1 (by decide) rfl (by omega) (by omega)
    have f_1n := Nat.not_le.mpr f_1
    refine lv_aload_n hx hb dX5_init_182 rfl (lv_at hl 1 rfl) ?_
    refine z_get (ci := 5) (C := RX5) (T := TX5) (N := 26) hx hb hts b_X5_init_wsX50 hown hK hP 0 rfl rfl 14 (by decide) (hts _ k_X5_init_16) rfl (.ref (a 41)) rfl dX5_init_183 ?_
    refine lv_iload_n hx hb dX5_init_186 rfl (lv_at hl 0 rfl) ?_
    refine lv_iconst (v := (-1)) hx hb dX5_init_187 (by decide) ?_
    refine z_iast hx hb hK hP hD hS 11 0 rfl rfl i rfl (by omega) rfl dX5_init_188 (wMo cI cJ cZ a 0 0 0 0 z0 z0 z0 z0 z0 z0 z0 z0 z0 z0 (upd (G_fill i) i (-1)) 0 z0 z0 z0 z0 z0 z0 z0 z0 z0 z0L) rfl (fun H locs hP hD hS => ?_)
    refine lv_iinc (v := nI (i + 1)) (lv' := [(1, .int (nI (i + 1))), (0, .ref (a 30))]) hx hb dX5_init_189 hl (k := 0) rfl (z_inc1 i) (by decide) rfl (fun ls hl => ?_)
    refine lv_goto (tgt := 175) hx hb dX5_init_192 (by decide) ?_
    have e_wag : G_fill (i + 1) = (upd (G_fill i) i (-1)) := by first | with_reducible rfl | (simp only [G_fill, if_neg c_1, if_pos f_1, if_neg f_1n]; done) | (simp +decide only [G_fill, f_1, if_neg c_1, if_pos f_1, if_neg f_1n]; done) | (simp [G_fill, c_1, f_1, f_1n, f_1]; done) | (simp +decide [G_fill, c_1, f_1, f_1n, f_1]; done)
    have hP : va_P D vwCl (wMo cI cJ cZ a 0 0 0 0 z0 z0 z0 z0 z0 z0 z0 z0 z0 z0 (G_fill (i + 1)) 0 z0 z0 z0 z0 z0 z0 z0 z0 z0 z0L) H := by rw [e_wag]; exact hP
    have hl : lv_has ls 2 [(1, .int (nI (i + 1))), (0, .ref (a 30))] := lv_sub hl [0, 1] rfl
    exact ih H locs ls (by omega) trivial hP hS hl
theorem k_X4_init_1 : (Cond.methodLink RX4 1 objectInit) ∈ wsX4_init := List.mem_of_getElem? (i := 1) rfl
theorem k_X4_init_2 : (Cond.instanceMethod objectInit) ∈ wsX4_init := List.mem_of_getElem? (i := 2) rfl
theorem k_X4_init_3 : (Cond.code objectInit ⟨#[0xb1]⟩ 1 none) ∈ wsX4_init := List.mem_of_getElem? (i := 3) rfl
theorem k_X4_init_4 : (Cond.classLink RX4 7 RX1) ∈ wsX4_init := List.mem_of_getElem? (i := 4) rfl
theorem k_X4_init_5 : (Cond.instantiable RX1 13) ∈ wsX4_init := List.mem_of_getElem? (i := 5) rfl
theorem k_X4_init_6 : (Cond.initialized RX1) ∈ wsX4_init := List.mem_of_getElem? (i := 6) rfl
theorem b_X4_init_wsX10 : ∀ w ∈ wsX10, w ∈ wsX4_init := fun _ h => List.mem_cons_of_mem _ (List.mem_append_left _ (List.mem_append_left _ (List.mem_append_left _ (List.mem_append_left _ (List.mem_append_right _ h)))))
theorem k_X4_init_25 : (Cond.instanceMethod yX1_init) ∈ wsX4_init := List.mem_of_getElem? (i := 25) rfl
theorem k_X4_init_7 : (Cond.fieldLink RX4 10 "Orbitregister" "filings" "LOrbitregister$Filings;") ∈ wsX4_init := List.mem_of_getElem? (i := 7) rfl
theorem b_X4_init_wsX40 : ∀ w ∈ wsX40, w ∈ wsX4_init := fun _ h => List.mem_cons_of_mem _ (List.mem_append_left _ (List.mem_append_left _ (List.mem_append_left _ (List.mem_append_right _ h))))
theorem k_X4_init_8 : (Cond.classLink RX4 16 RX3) ∈ wsX4_init := List.mem_of_getElem? (i := 8) rfl
theorem k_X4_init_9 : (Cond.instantiable RX3 8) ∈ wsX4_init := List.mem_of_getElem? (i := 9) rfl
theorem k_X4_init_10 : (Cond.initialized RX3) ∈ wsX4_init := List.mem_of_getElem? (i := 10) rfl
theorem b_X4_init_wsX30 : ∀ w ∈ wsX30, w ∈ wsX4_init := fun _ h => List.mem_cons_of_mem _ (List.mem_append_left _ (List.mem_append_left _ (List.mem_append_right _ h)))
theorem k_X4_init_40 : (Cond.instanceMethod yX3_init) ∈ wsX4_init := List.mem_of_getElem? (i := 40) rfl
theorem k_X4_init_11 : (Cond.fieldLink RX4 19 "Orbitregister" "satellites" "LOrbitregister$Satellites;") ∈ wsX4_init := List.mem_of_getElem? (i := 11) rfl
theorem k_X4_init_12 : (Cond.classLink RX4 23 RX2) ∈ wsX4_init := List.mem_of_getElem? (i := 12) rfl
theorem k_X4_init_13 : (Cond.instantiable RX2 5) ∈ wsX4_init := List.mem_of_getElem? (i := 13) rfl
theorem k_X4_init_14 : (Cond.initialized RX2) ∈ wsX4_init := List.mem_of_getElem? (i := 14) rfl
theorem b_X4_init_wsX20 : ∀ w ∈ wsX20, w ∈ wsX4_init := fun _ h => List.mem_cons_of_mem _ (List.mem_append_left _ (List.mem_append_right _ h))
theorem k_X4_init_50 : (Cond.instanceMethod yX2_init) ∈ wsX4_init := List.mem_of_getElem? (i := 50) rfl
theorem k_X4_init_15 : (Cond.fieldLink RX4 26 "Orbitregister" "journal" "LOrbitregister$Journal;") ∈ wsX4_init := List.mem_of_getElem? (i := 15) rfl
theorem k_X4_init_16 : (Cond.classLink RX4 30 RX0) ∈ wsX4_init := List.mem_of_getElem? (i := 16) rfl
theorem k_X4_init_17 : (Cond.instantiable RX0 6) ∈ wsX4_init := List.mem_of_getElem? (i := 17) rfl
theorem k_X4_init_18 : (Cond.initialized RX0) ∈ wsX4_init := List.mem_of_getElem? (i := 18) rfl
theorem b_X4_init_wsX00 : ∀ w ∈ wsX00, w ∈ wsX4_init := fun _ h => List.mem_cons_of_mem _ (List.mem_append_right _ h)
theorem k_X4_init_57 : (Cond.instanceMethod yX0_init) ∈ wsX4_init := List.mem_of_getElem? (i := 57) rfl
theorem k_X4_init_19 : (Cond.fieldLink RX4 33 "Orbitregister" "examination" "LOrbitregister$Examination;") ∈ wsX4_init := List.mem_of_getElem? (i := 19) rfl
theorem k_X4_init_20 : (Cond.arrayClass .int) ∈ wsX4_init := List.mem_of_getElem? (i := 20) rfl
theorem k_X4_init_21 : (Cond.fieldLink RX4 37 "Orbitregister" "piecesIn" "[I") ∈ wsX4_init := List.mem_of_getElem? (i := 21) rfl
theorem k_X4_init_22 : (Cond.arrayClass .long) ∈ wsX4_init := List.mem_of_getElem? (i := 22) rfl
theorem k_X4_init_23 : (Cond.fieldLink RX4 41 "Orbitregister" "paidBy" "[J") ∈ wsX4_init := List.mem_of_getElem? (i := 23) rfl
theorem k_X4_init_24 : (Cond.fieldLink RX4 45 "Orbitregister" "today" "I") ∈ wsX4_init := List.mem_of_getElem? (i := 24) rfl
set_option maxHeartbeats 4000000 in
set_option maxRecDepth 100000 in
theorem c_X4_init (l : Launch) (D : va_G) (cI cJ cZ : ClassId) (h0 sz : Nat) : Met l yX4_init wsX4_init ({ frames := 2, cells := 28, slots := 4236, locals := 32 }) (va_Pc [.ref h0] (ZP D (zt cI cJ cZ) [(h0, .inr (4, [.null, .null, .null, .null, .null, .null, .int 0]))] sz ZI)) (va_Qv (fun a : Nat → Nat => a 0 = h0) (fun a t => va_P D vwCl (wAll cI cJ cZ a z0 z0L 0 z0 z0 z0 z0 z0 z0 z0 z0 z0 z0 z0 0 0 z0 z0 z0 z0 z0 z0 z0 0 z0 z0 z0 z0 0 0 0 0 0 0 0) t.heap ∧ va_D (va_A [(h0, .inr (4, [.null, .null, .null, .null, .null, .null, .int 0]))] sz) (wAll cI cJ cZ a z0 z0L 0 z0 z0 z0 z0 z0 z0 z0 z0 z0 z0 z0 0 0 z0 z0 z0 z0 z0 z0 z0 0 z0 z0 z0 z0 0 0 0 0 0 0 0)) (va_A [(h0, .inr (4, [.null, .null, .null, .null, .null, .null, .int 0]))] sz)) 28 4236 (va_A [(h0, .inr (4, [.null, .null, .null, .null, .null, .null, .int 0]))] sz) := by
  refine Met.ofW (cc := cX4_init) (maxL := 1) (ret := none) (by decide) rfl ?_
  intro p e s m args below meth c s₁ B hml hv
  obtain ⟨rfl, hsz, hP, hK, hD0, hE⟩ := hv
  have hx := B.exec
  have hb := B.bytes
  have hr := B.returns
  have hts := atoms_spec (ws := wsX4_init) B.pre
  have hown : s.vm.findClass RX4 = some m.cls := findClass_of_methodNamed B.named
  have hlocks := B.notSynchronized
  have hin : meth.name = "<init>" := (name_of_methodNamed B.named B.method).1
  subst hsz
  have hD := hD0.self (sz := s.heap.size)
  generalize hAe : va_A [(h0, .inr (4, [.null, .null, .null, .null, .null, .null, .int 0]))] s.heap.size = A at hD ⊢
  have hA : ∀ q : Nat, s.heap.size ≤ q → A q := fun q h => by rw [← hAe]; exact Or.inr h
  have hS : va_S A s.heap s.heap [] := va_S.rf
  have hl := lv_entry ([.ref h0]) (n := 1) (Nat.le_of_ble_eq_true rfl)
  rw [lg_entry_eq]
  generalize (lg_sl ([.ref h0]) ++ List.replicate (1 - (lg_sl ([.ref h0])).length) Slot.unset).toArray = ls at hl ⊢
  have hl : lv_has ls 1 [(0, .ref h0)] := hl
  have hP : va_P D vwCl [(h0, .inr (4, [.null, .null, .null, .null, .null, .null, .int 0]))] s.heap := hP
  refine lv_aload_n hx hb dX4_init_0 rfl (lv_at hl 0 rfl) ?_
  refine W.objInit hx hb hown (hts _ k_X4_init_1) (hts _ k_X4_init_2) (hts _ k_X4_init_3) rfl (by rw [hml]; exact hl.1) rfl dX4_init_1 (Nat.le_of_ble_eq_true rfl) (Nat.le_of_ble_eq_true rfl) ?_
  refine W.eq (g2 := F0 m 4 ls []) rfl ?_
  refine lv_aload_n hx hb dX4_init_4 rfl (lv_at hl 0 rfl) ?_
  refine va_new (ci := 1) (fs := [.null, .null, .null, .null, .null, .null, .null, .null, .null, .null, .null, .int 0, .int 0]) (C := RX1) (T := TX1) (N := 13) hx hb hts b_X4_init_wsX10 tyX1 tyX1_ok hown (hts _ k_X4_init_4) (hts _ k_X4_init_5) (hts _ k_X4_init_6) hK hP hD hS hA rfl (fun j hj => by rcases (show j = 0 ∨ j = 1 ∨ j = 2 ∨ j = 3 ∨ j = 4 ∨ j = 5 ∨ j = 6 ∨ j = 7 ∨ j = 8 ∨ j = 9 ∨ j = 10 ∨ j = 11 ∨ j = 12 by omega) with rfl | rfl | rfl | rfl | rfl | rfl | rfl | rfl | rfl | rfl | rfl | rfl | rfl <;> rfl) (Nat.le_of_ble_eq_true rfl) (Nat.le_of_ble_eq_true rfl) dX4_init_5 (fun q5 H hP hD hS => ?_)
  have hP : va_P D vwCl ([(h0, .inr (4, [.null, .null, .null, .null, .null, .null, .int 0]))] ++ [(q5, .inr (1, [.null, .null, .null, .null, .null, .null, .null, .null, .null, .null, .null, .int 0, .int 0]))]) H := hP
  have hD : va_D A ([(h0, .inr (4, [.null, .null, .null, .null, .null, .null, .int 0]))] ++ [(q5, .inr (1, [.null, .null, .null, .null, .null, .null, .null, .null, .null, .null, .null, .int 0, .int 0]))]) := hD
  refine lv_dup hx hb dX4_init_8 rfl ?_
  have hPc := hP.sub (ws' := [(q5, .inr (1, [.null, .null, .null, .null, .null, .null, .null, .null, .null, .null, .null, .int 0, .int 0]))]) [1] rfl
  have hDc := hD.sub (ws' := [(q5, .inr (1, [.null, .null, .null, .null, .null, .null, .null, .null, .null, .null, .null, .int 0, .int 0]))]) [1] (by decide) rfl
  have hFc := va_free (wc := [(q5, .inr (1, [.null, .null, .null, .null, .null, .null, .null, .null, .null, .null, .null, .int 0, .int 0]))]) hD hS hA [1] rfl
  refine va_callv (va_runIN (As := []) (rest := [.ref q5, .ref h0]) ⟨hx, hb, hml, hown, hts⟩ (c_X1_init l D cI cJ cZ q5 H.size) ⟨va_cnB 0 hts gX4_init_X1_init_n9 rfl rfl rfl hE.1.1 (hts _ k_X4_init_6) (by decide +kernel) ⟨Nat.le_of_ble_eq_true rfl, Nat.le_of_ble_eq_true rfl⟩, rfl, (hts _ k_X4_init_25)⟩ (z_pI hK hPc hDc zT_b zT_m) rfl rfl hl.1 rfl (lv_room (Nat.le_of_ble_eq_true rfl)) dX4_init_9 ⟨Nat.le_of_ble_eq_true rfl, Nat.le_of_ble_eq_true rfl⟩) hS (fun q _ h => hFc q h) hFc (fun u1 t H1 locs ht hvm hw hB hz1 hk1 hS => ?_)
  obtain ⟨hP1, hD1⟩ := hB
  rw [ht] at hP1
  have hw1 : u1 3 = q5 := hw
  obtain ⟨hP, hD⟩ := va_join (wr := [(h0, .inr (4, [.null, .null, .null, .null, .null, .null, .int 0]))]) (w1 := (wFi cI cJ cZ u1 z0 z0 z0 z0 z0 z0 z0 z0 z0 z0 z0 0 0)) hP hD [1] [0] rfl rfl (by decide) (by decide) hk1 hFc hP1 hD1
  generalize H1 = H at hP hS ⊢
  have hP : va_P D vwCl ([(h0, .inr (4, [.null, .null, .null, .null, .null, .null, .int 0]))] ++ (wFi cI cJ cZ u1 z0 z0 z0 z0 z0 z0 z0 z0 z0 z0 z0 0 0)) H := hP
  have hD : va_D A ([(h0, .inr (4, [.null, .null, .null, .null, .null, .null, .int 0]))] ++ (wFi cI cJ cZ u1 z0 z0 z0 z0 z0 z0 z0 z0 z0 z0 z0 0 0)) := hD
  refine va_putF (D := D) (ci := 4) (v := .ref q5) (ty := tyX4 0) (C := RX4) (T := TX4) (N := 7) hx hb hts b_X4_init_wsX40 tyX4 tyX4_ok nmX4 hown hK hP hD hS 0 rfl rfl 0 (by decide) (hts _ k_X4_init_7) (fun _ h9 => h9) rfl hin rfl (by decide +kernel) rfl rfl (Nat.le_of_ble_eq_true rfl) dX4_init_12 (fun H locs hP hD hS => ?_)
  have hP : va_P D vwCl ([(h0, .inr (4, [.ref q5, .null, .null, .null, .null, .null, .int 0]))] ++ (wFi cI cJ cZ u1 z0 z0 z0 z0 z0 z0 z0 z0 z0 z0 z0 0 0)) H := hP
  have hD : va_D A ([(h0, .inr (4, [.ref q5, .null, .null, .null, .null, .null, .int 0]))] ++ (wFi cI cJ cZ u1 z0 z0 z0 z0 z0 z0 z0 z0 z0 z0 z0 0 0)) := hD
  refine lv_aload_n hx hb dX4_init_15 rfl (lv_at hl 0 rfl) ?_
  refine va_new (ci := 3) (fs := [.null, .null, .null, .null, .null, .null, .null, .int 0]) (C := RX3) (T := TX3) (N := 8) hx hb hts b_X4_init_wsX30 tyX3 tyX3_ok hown (hts _ k_X4_init_8) (hts _ k_X4_init_9) (hts _ k_X4_init_10) hK hP hD hS hA rfl (fun j hj => by rcases (show j = 0 ∨ j = 1 ∨ j = 2 ∨ j = 3 ∨ j = 4 ∨ j = 5 ∨ j = 6 ∨ j = 7 by omega) with rfl | rfl | rfl | rfl | rfl | rfl | rfl | rfl <;> rfl) (Nat.le_of_ble_eq_true rfl) (Nat.le_of_ble_eq_true rfl) dX4_init_16 (fun q16 H hP hD hS => ?_)
  have hP : va_P D vwCl (([(h0, .inr (4, [.ref q5, .null, .null, .null, .null, .null, .int 0]))] ++ (wFi cI cJ cZ u1 z0 z0 z0 z0 z0 z0 z0 z0 z0 z0 z0 0 0)) ++ [(q16, .inr (3, [.null, .null, .null, .null, .null, .null, .null, .int 0]))]) H := hP
  have hD : va_D A (([(h0, .inr (4, [.ref q5, .null, .null, .null, .null, .null, .int 0]))] ++ (wFi cI cJ cZ u1 z0 z0 z0 z0 z0 z0 z0 z0 z0 z0 z0 0 0)) ++ [(q16, .inr (3, [.null, .null, .null, .null, .null, .null, .null, .int 0]))]) := hD
  refine lv_dup hx hb dX4_init_19 rfl ?_
  have hPc := hP.sub (ws' := [(q16, .inr (3, [.null, .null, .null, .null, .null, .null, .null, .int 0]))]) [13] rfl
  have hDc := hD.sub (ws' := [(q16, .inr (3, [.null, .null, .null, .null, .null, .null, .null, .int 0]))]) [13] (by decide) rfl
  have hFc := va_free (wc := [(q16, .inr (3, [.null, .null, .null, .null, .null, .null, .null, .int 0]))]) hD hS hA [13] rfl
  refine va_callv (va_runIN (As := []) (rest := [.ref q16, .ref h0]) ⟨hx, hb, hml, hown, hts⟩ (c_X3_init l D cI cJ cZ q16 H.size) ⟨va_cnB 0 hts gX4_init_X3_init_n18 rfl rfl rfl hE.1.2 (hts _ k_X4_init_10) (by decide +kernel) ⟨Nat.le_of_ble_eq_true rfl, Nat.le_of_ble_eq_true rfl⟩, rfl, (hts _ k_X4_init_40)⟩ (z_pI hK hPc hDc zT_b zT_m) rfl rfl hl.1 rfl (lv_room (Nat.le_of_ble_eq_true rfl)) dX4_init_20 ⟨Nat.le_of_ble_eq_true rfl, Nat.le_of_ble_eq_true rfl⟩) hS (fun q _ h => hFc q h) hFc (fun u3 t H1 locs ht hvm hw hB hz1 hk1 hS => ?_)
  obtain ⟨hP1, hD1⟩ := hB
  rw [ht] at hP1
  have hw3 : u3 15 = q16 := hw
  obtain ⟨hP, hD⟩ := va_join (wr := ([(h0, .inr (4, [.ref q5, .null, .null, .null, .null, .null, .int 0]))] ++ (wFi cI cJ cZ u1 z0 z0 z0 z0 z0 z0 z0 z0 z0 z0 z0 0 0))) (w1 := (wSa cI cJ cZ u3 z0 z0 z0 z0 z0 z0 z0 0)) hP hD [13] [0, 1, 2, 3, 4, 5, 6, 7, 8, 9, 10, 11, 12] rfl rfl (by decide) (by decide) hk1 hFc hP1 hD1
  generalize H1 = H at hP hS ⊢
  have hP : va_P D vwCl (([(h0, .inr (4, [.ref q5, .null, .null, .null, .null, .null, .int 0]))] ++ (wFi cI cJ cZ u1 z0 z0 z0 z0 z0 z0 z0 z0 z0 z0 z0 0 0)) ++ (wSa cI cJ cZ u3 z0 z0 z0 z0 z0 z0 z0 0)) H := hP
  have hD : va_D A (([(h0, .inr (4, [.ref q5, .null, .null, .null, .null, .null, .int 0]))] ++ (wFi cI cJ cZ u1 z0 z0 z0 z0 z0 z0 z0 z0 z0 z0 z0 0 0)) ++ (wSa cI cJ cZ u3 z0 z0 z0 z0 z0 z0 z0 0)) := hD
  refine va_putF (D := D) (ci := 4) (v := .ref q16) (ty := tyX4 1) (C := RX4) (T := TX4) (N := 7) hx hb hts b_X4_init_wsX40 tyX4 tyX4_ok nmX4 hown hK hP hD hS 0 rfl rfl 1 (by decide) (hts _ k_X4_init_11) (fun _ h9 => h9) rfl hin rfl (by decide +kernel) rfl rfl (Nat.le_of_ble_eq_true rfl) dX4_init_23 (fun H locs hP hD hS => ?_)
  have hP : va_P D vwCl (([(h0, .inr (4, [.ref q5, .ref q16, .null, .null, .null, .null, .int 0]))] ++ (wFi cI cJ cZ u1 z0 z0 z0 z0 z0 z0 z0 z0 z0 z0 z0 0 0)) ++ (wSa cI cJ cZ u3 z0 z0 z0 z0 z0 z0 z0 0)) H := hP
  have hD : va_D A (([(h0, .inr (4, [.ref q5, .ref q16, .null, .null, .null, .null, .int 0]))] ++ (wFi cI cJ cZ u1 z0 z0 z0 z0 z0 z0 z0 z0 z0 z0 z0 0 0)) ++ (wSa cI cJ cZ u3 z0 z0 z0 z0 z0 z0 z0 0)) := hD
  refine lv_aload_n hx hb dX4_init_26 rfl (lv_at hl 0 rfl) ?_
  refine va_new (ci := 2) (fs := [.null, .null, .null, .null, .int 0]) (C := RX2) (T := TX2) (N := 5) hx hb hts b_X4_init_wsX20 tyX2 tyX2_ok hown (hts _ k_X4_init_12) (hts _ k_X4_init_13) (hts _ k_X4_init_14) hK hP hD hS hA rfl (fun j hj => by rcases (show j = 0 ∨ j = 1 ∨ j = 2 ∨ j = 3 ∨ j = 4 by omega) with rfl | rfl | rfl | rfl | rfl <;> rfl) (Nat.le_of_ble_eq_true rfl) (Nat.le_of_ble_eq_true rfl) dX4_init_27 (fun q27 H hP hD hS => ?_)
  have hP : va_P D vwCl ((([(h0, .inr (4, [.ref q5, .ref q16, .null, .null, .null, .null, .int 0]))] ++ (wFi cI cJ cZ u1 z0 z0 z0 z0 z0 z0 z0 z0 z0 z0 z0 0 0)) ++ (wSa cI cJ cZ u3 z0 z0 z0 z0 z0 z0 z0 0)) ++ [(q27, .inr (2, [.null, .null, .null, .null, .int 0]))]) H := hP
  have hD : va_D A ((([(h0, .inr (4, [.ref q5, .ref q16, .null, .null, .null, .null, .int 0]))] ++ (wFi cI cJ cZ u1 z0 z0 z0 z0 z0 z0 z0 z0 z0 z0 z0 0 0)) ++ (wSa cI cJ cZ u3 z0 z0 z0 z0 z0 z0 z0 0)) ++ [(q27, .inr (2, [.null, .null, .null, .null, .int 0]))]) := hD
  refine lv_dup hx hb dX4_init_30 rfl ?_
  have hPc := hP.sub (ws' := [(q27, .inr (2, [.null, .null, .null, .null, .int 0]))]) [21] rfl
  have hDc := hD.sub (ws' := [(q27, .inr (2, [.null, .null, .null, .null, .int 0]))]) [21] (by decide) rfl
  have hFc := va_free (wc := [(q27, .inr (2, [.null, .null, .null, .null, .int 0]))]) hD hS hA [21] rfl
  refine va_callv (va_runIN (As := []) (rest := [.ref q27, .ref h0]) ⟨hx, hb, hml, hown, hts⟩ (c_X2_init l D cI cJ cZ q27 H.size) ⟨va_cnB 0 hts gX4_init_X2_init_n25 rfl rfl rfl hE.2.1 (hts _ k_X4_init_14) (by decide +kernel) ⟨Nat.le_of_ble_eq_true rfl, Nat.le_of_ble_eq_true rfl⟩, rfl, (hts _ k_X4_init_50)⟩ (z_pI hK hPc hDc zT_b zT_m) rfl rfl hl.1 rfl (lv_room (Nat.le_of_ble_eq_true rfl)) dX4_init_31 ⟨Nat.le_of_ble_eq_true rfl, Nat.le_of_ble_eq_true rfl⟩) hS (fun q _ h => hFc q h) hFc (fun u2 t H1 locs ht hvm hw hB hz1 hk1 hS => ?_)
  obtain ⟨hP1, hD1⟩ := hB
  rw [ht] at hP1
  have hw2 : u2 23 = q27 := hw
  obtain ⟨hP, hD⟩ := va_join (wr := (([(h0, .inr (4, [.ref q5, .ref q16, .null, .null, .null, .null, .int 0]))] ++ (wFi cI cJ cZ u1 z0 z0 z0 z0 z0 z0 z0 z0 z0 z0 z0 0 0)) ++ (wSa cI cJ cZ u3 z0 z0 z0 z0 z0 z0 z0 0))) (w1 := (wJo cI cJ cZ u2 z0 z0 z0 z0 0)) hP hD [21] [0, 1, 2, 3, 4, 5, 6, 7, 8, 9, 10, 11, 12, 13, 14, 15, 16, 17, 18, 19, 20] rfl rfl (by decide) (by decide) hk1 hFc hP1 hD1
  generalize H1 = H at hP hS ⊢
  have hP : va_P D vwCl ((([(h0, .inr (4, [.ref q5, .ref q16, .null, .null, .null, .null, .int 0]))] ++ (wFi cI cJ cZ u1 z0 z0 z0 z0 z0 z0 z0 z0 z0 z0 z0 0 0)) ++ (wSa cI cJ cZ u3 z0 z0 z0 z0 z0 z0 z0 0)) ++ (wJo cI cJ cZ u2 z0 z0 z0 z0 0)) H := hP
  have hD : va_D A ((([(h0, .inr (4, [.ref q5, .ref q16, .null, .null, .null, .null, .int 0]))] ++ (wFi cI cJ cZ u1 z0 z0 z0 z0 z0 z0 z0 z0 z0 z0 z0 0 0)) ++ (wSa cI cJ cZ u3 z0 z0 z0 z0 z0 z0 z0 0)) ++ (wJo cI cJ cZ u2 z0 z0 z0 z0 0)) := hD
  refine va_putF (D := D) (ci := 4) (v := .ref q27) (ty := tyX4 2) (C := RX4) (T := TX4) (N := 7) hx hb hts b_X4_init_wsX40 tyX4 tyX4_ok nmX4 hown hK hP hD hS 0 rfl rfl 2 (by decide) (hts _ k_X4_init_15) (fun _ h9 => h9) rfl hin rfl (by decide +kernel) rfl rfl (Nat.le_of_ble_eq_true rfl) dX4_init_34 (fun H locs hP hD hS => ?_)
  have hP : va_P D vwCl ((([(h0, .inr (4, [.ref q5, .ref q16, .ref q27, .null, .null, .null, .int 0]))] ++ (wFi cI cJ cZ u1 z0 z0 z0 z0 z0 z0 z0 z0 z0 z0 z0 0 0)) ++ (wSa cI cJ cZ u3 z0 z0 z0 z0 z0 z0 z0 0)) ++ (wJo cI cJ cZ u2 z0 z0 z0 z0 0)) H := hP
  have hD : va_D A ((([(h0, .inr (4, [.ref q5, .ref q16, .ref q27, .null, .null, .null, .int 0]))] ++ (wFi cI cJ cZ u1 z0 z0 z0 z0 z0 z0 z0 z0 z0 z0 z0 0 0)) ++ (wSa cI cJ cZ u3 z0 z0 z0 z0 z0 z0 z0 0)) ++ (wJo cI cJ cZ u2 z0 z0 z0 z0 0)) := hD
  refine lv_aload_n hx hb dX4_init_37 rfl (lv_at hl 0 rfl) ?_
  refine va_new (ci := 0) (fs := [.int 0, .int 0, .int 0, .int 0, .int 0, .int 0]) (C := RX0) (T := TX0) (N := 6) hx hb hts b_X4_init_wsX00 tyX0 tyX0_ok hown (hts _ k_X4_init_16) (hts _ k_X4_init_17) (hts _ k_X4_init_18) hK hP hD hS hA rfl (fun j hj => by rcases (show j = 0 ∨ j = 1 ∨ j = 2 ∨ j = 3 ∨ j = 4 ∨ j = 5 by omega) with rfl | rfl | rfl | rfl | rfl | rfl <;> rfl) (Nat.le_of_ble_eq_true rfl) (Nat.le_of_ble_eq_true rfl) dX4_init_38 (fun q38 H hP hD hS => ?_)
  have hP : va_P D vwCl (((([(h0, .inr (4, [.ref q5, .ref q16, .ref q27, .null, .null, .null, .int 0]))] ++ (wFi cI cJ cZ u1 z0 z0 z0 z0 z0 z0 z0 z0 z0 z0 z0 0 0)) ++ (wSa cI cJ cZ u3 z0 z0 z0 z0 z0 z0 z0 0)) ++ (wJo cI cJ cZ u2 z0 z0 z0 z0 0)) ++ [(q38, .inr (0, [.int 0, .int 0, .int 0, .int 0, .int 0, .int 0]))]) H := hP
  have hD : va_D A (((([(h0, .inr (4, [.ref q5, .ref q16, .ref q27, .null, .null, .null, .int 0]))] ++ (wFi cI cJ cZ u1 z0 z0 z0 z0 z0 z0 z0 z0 z0 z0 z0 0 0)) ++ (wSa cI cJ cZ u3 z0 z0 z0 z0 z0 z0 z0 0)) ++ (wJo cI cJ cZ u2 z0 z0 z0 z0 0)) ++ [(q38, .inr (0, [.int 0, .int 0, .int 0, .int 0, .int 0, .int 0]))]) := hD
  refine lv_dup hx hb dX4_init_41 rfl ?_
  have hPc := hP.sub (ws' := [(q38, .inr (0, [.int 0, .int 0, .int 0, .int 0, .int 0, .int 0]))]) [26] rfl
  have hDc := hD.sub (ws' := [(q38, .inr (0, [.int 0, .int 0, .int 0, .int 0, .int 0, .int 0]))]) [26] (by decide) rfl
  have hFc := va_free (wc := [(q38, .inr (0, [.int 0, .int 0, .int 0, .int 0, .int 0, .int 0]))]) hD hS hA [26] rfl
  refine va_callv (va_runIN (As := []) (rest := [.ref q38, .ref h0]) ⟨hx, hb, hml, hown, hts⟩ (c_X0_init l D cI cJ cZ q38 H.size) ⟨va_cnB 0 hts gX4_init_X0_init_n32 rfl rfl rfl hE.2.2 (hts _ k_X4_init_18) (by decide +kernel) ⟨Nat.le_of_ble_eq_true rfl, Nat.le_of_ble_eq_true rfl⟩, rfl, (hts _ k_X4_init_57)⟩ (z_pI hK hPc hDc zT_b zT_m) rfl rfl hl.1 rfl (lv_room (Nat.le_of_ble_eq_true rfl)) dX4_init_42 ⟨Nat.le_of_ble_eq_true rfl, Nat.le_of_ble_eq_true rfl⟩) hS (fun q _ h => hFc q h) hFc (fun u0 t H1 locs ht hvm hw hB hz1 hk1 hS => ?_)
  obtain ⟨hP1, hD1⟩ := hB
  rw [ht] at hP1
  have hw0 : u0 28 = q38 := hw
  obtain ⟨hP, hD⟩ := va_join (wr := ((([(h0, .inr (4, [.ref q5, .ref q16, .ref q27, .null, .null, .null, .int 0]))] ++ (wFi cI cJ cZ u1 z0 z0 z0 z0 z0 z0 z0 z0 z0 z0 z0 0 0)) ++ (wSa cI cJ cZ u3 z0 z0 z0 z0 z0 z0 z0 0)) ++ (wJo cI cJ cZ u2 z0 z0 z0 z0 0))) (w1 := (wEx cI cJ cZ u0 0 0 0 0 0 0)) hP hD [26] [0, 1, 2, 3, 4, 5, 6, 7, 8, 9, 10, 11, 12, 13, 14, 15, 16, 17, 18, 19, 20, 21, 22, 23, 24, 25] rfl rfl (by decide) (by decide) hk1 hFc hP1 hD1
  generalize H1 = H at hP hS ⊢
  have hP : va_P D vwCl (((([(h0, .inr (4, [.ref q5, .ref q16, .ref q27, .null, .null, .null, .int 0]))] ++ (wFi cI cJ cZ u1 z0 z0 z0 z0 z0 z0 z0 z0 z0 z0 z0 0 0)) ++ (wSa cI cJ cZ u3 z0 z0 z0 z0 z0 z0 z0 0)) ++ (wJo cI cJ cZ u2 z0 z0 z0 z0 0)) ++ (wEx cI cJ cZ u0 0 0 0 0 0 0)) H := hP
  have hD : va_D A (((([(h0, .inr (4, [.ref q5, .ref q16, .ref q27, .null, .null, .null, .int 0]))] ++ (wFi cI cJ cZ u1 z0 z0 z0 z0 z0 z0 z0 z0 z0 z0 z0 0 0)) ++ (wSa cI cJ cZ u3 z0 z0 z0 z0 z0 z0 z0 0)) ++ (wJo cI cJ cZ u2 z0 z0 z0 z0 0)) ++ (wEx cI cJ cZ u0 0 0 0 0 0 0)) := hD
  refine va_putF (D := D) (ci := 4) (v := .ref q38) (ty := tyX4 3) (C := RX4) (T := TX4) (N := 7) hx hb hts b_X4_init_wsX40 tyX4 tyX4_ok nmX4 hown hK hP hD hS 0 rfl rfl 3 (by decide) (hts _ k_X4_init_19) (fun _ h9 => h9) rfl hin rfl (by decide +kernel) rfl rfl (Nat.le_of_ble_eq_true rfl) dX4_init_45 (fun H locs hP hD hS => ?_)
  have hP : va_P D vwCl (((([(h0, .inr (4, [.ref q5, .ref q16, .ref q27, .ref q38, .null, .null, .int 0]))] ++ (wFi cI cJ cZ u1 z0 z0 z0 z0 z0 z0 z0 z0 z0 z0 z0 0 0)) ++ (wSa cI cJ cZ u3 z0 z0 z0 z0 z0 z0 z0 0)) ++ (wJo cI cJ cZ u2 z0 z0 z0 z0 0)) ++ (wEx cI cJ cZ u0 0 0 0 0 0 0)) H := hP
  have hD : va_D A (((([(h0, .inr (4, [.ref q5, .ref q16, .ref q27, .ref q38, .null, .null, .int 0]))] ++ (wFi cI cJ cZ u1 z0 z0 z0 z0 z0 z0 z0 z0 z0 z0 z0 0 0)) ++ (wSa cI cJ cZ u3 z0 z0 z0 z0 z0 z0 z0 0)) ++ (wJo cI cJ cZ u2 z0 z0 z0 z0 0)) ++ (wEx cI cJ cZ u0 0 0 0 0 0 0)) := hD
  refine lv_aload_n hx hb dX4_init_48 rfl (lv_at hl 0 rfl) ?_
  refine lv_bipush (v := 36) hx hb dX4_init_49 (by decide) ?_
  refine z_newa (atype := .int) (ty := .int) hx hb (hts _ k_X4_init_20) rfl (fun _ h => va_nm_int h) hK 0 rfl hP hD hS hA (N' := 36) (a0 := (36, .inl z0)) (fun _ => rfl) (by decide) (by decide) (Nat.le_of_ble_eq_true rfl) (Nat.le_of_ble_eq_true rfl) (Nat.le_of_ble_eq_true rfl) dX4_init_51 (fun q51 H hP hD hS => ?_)
  refine va_putF (D := D) (ci := 4) (v := .ref q51) (ty := tyX4 4) (C := RX4) (T := TX4) (N := 7) hx hb hts b_X4_init_wsX40 tyX4 tyX4_ok nmX4 hown hK hP hD hS 0 rfl rfl 4 (by decide) (hts _ k_X4_init_21) (fun _ h9 => h9) rfl hin rfl (by decide +kernel) rfl rfl (Nat.le_of_ble_eq_true rfl) dX4_init_53 (fun H locs hP hD hS => ?_)
  have hP : va_P D vwCl ((((([(h0, .inr (4, [.ref q5, .ref q16, .ref q27, .ref q38, .ref q51, .null, .int 0]))] ++ (wFi cI cJ cZ u1 z0 z0 z0 z0 z0 z0 z0 z0 z0 z0 z0 0 0)) ++ (wSa cI cJ cZ u3 z0 z0 z0 z0 z0 z0 z0 0)) ++ (wJo cI cJ cZ u2 z0 z0 z0 z0 0)) ++ (wEx cI cJ cZ u0 0 0 0 0 0 0)) ++ [(q51, .inl (cI, 36, .inl z0))]) H := hP
  have hD : va_D A ((((([(h0, .inr (4, [.ref q5, .ref q16, .ref q27, .ref q38, .ref q51, .null, .int 0]))] ++ (wFi cI cJ cZ u1 z0 z0 z0 z0 z0 z0 z0 z0 z0 z0 z0 0 0)) ++ (wSa cI cJ cZ u3 z0 z0 z0 z0 z0 z0 z0 0)) ++ (wJo cI cJ cZ u2 z0 z0 z0 z0 0)) ++ (wEx cI cJ cZ u0 0 0 0 0 0 0)) ++ [(q51, .inl (cI, 36, .inl z0))]) := hD
  refine lv_aload_n hx hb dX4_init_56 rfl (lv_at hl 0 rfl) ?_
  refine lv_bipush (v := 8) hx hb dX4_init_57 (by decide) ?_
  refine z_newa (atype := .long) (ty := .long) hx hb (hts _ k_X4_init_22) rfl (fun _ h => va_nm_long h) hK 1 rfl hP hD hS hA (N' := 8) (a0 := (8, .inr (.inl z0L))) (fun _ => rfl) (by decide) (by decide) (Nat.le_of_ble_eq_true rfl) (Nat.le_of_ble_eq_true rfl) (Nat.le_of_ble_eq_true rfl) dX4_init_59 (fun q59 H hP hD hS => ?_)
  refine va_putF (D := D) (ci := 4) (v := .ref q59) (ty := tyX4 5) (C := RX4) (T := TX4) (N := 7) hx hb hts b_X4_init_wsX40 tyX4 tyX4_ok nmX4 hown hK hP hD hS 0 rfl rfl 5 (by decide) (hts _ k_X4_init_23) (fun _ h9 => h9) rfl hin rfl (by decide +kernel) rfl rfl (Nat.le_of_ble_eq_true rfl) dX4_init_61 (fun H locs hP hD hS => ?_)
  have hP : va_P D vwCl (((((([(h0, .inr (4, [.ref q5, .ref q16, .ref q27, .ref q38, .ref q51, .ref q59, .int 0]))] ++ (wFi cI cJ cZ u1 z0 z0 z0 z0 z0 z0 z0 z0 z0 z0 z0 0 0)) ++ (wSa cI cJ cZ u3 z0 z0 z0 z0 z0 z0 z0 0)) ++ (wJo cI cJ cZ u2 z0 z0 z0 z0 0)) ++ (wEx cI cJ cZ u0 0 0 0 0 0 0)) ++ [(q51, .inl (cI, 36, .inl z0))]) ++ [(q59, .inl (cJ, 8, .inr (.inl z0L)))]) H := hP
  have hD : va_D A (((((([(h0, .inr (4, [.ref q5, .ref q16, .ref q27, .ref q38, .ref q51, .ref q59, .int 0]))] ++ (wFi cI cJ cZ u1 z0 z0 z0 z0 z0 z0 z0 z0 z0 z0 z0 0 0)) ++ (wSa cI cJ cZ u3 z0 z0 z0 z0 z0 z0 z0 0)) ++ (wJo cI cJ cZ u2 z0 z0 z0 z0 0)) ++ (wEx cI cJ cZ u0 0 0 0 0 0 0)) ++ [(q51, .inl (cI, 36, .inl z0))]) ++ [(q59, .inl (cJ, 8, .inr (.inl z0L)))]) := hD
  refine lv_aload_n hx hb dX4_init_64 rfl (lv_at hl 0 rfl) ?_
  refine lv_iconst (v := 0) hx hb dX4_init_65 (by decide) ?_
  refine z_put (ci := 4) (C := RX4) (T := TX4) (N := 7) hx hb hts b_X4_init_wsX40 tyX4 tyX4_ok nmX4 hown hK hP hD hS 0 rfl rfl 6 (by decide) (hts _ k_X4_init_24) rfl rfl (by decide +kernel) (Nat.le_of_ble_eq_true rfl) dX4_init_66 (((((([(h0, .inr (4, [.ref q5, .ref q16, .ref q27, .ref q38, .ref q51, .ref q59, .int 0]))] ++ (wFi cI cJ cZ u1 z0 z0 z0 z0 z0 z0 z0 z0 z0 z0 z0 0 0)) ++ (wSa cI cJ cZ u3 z0 z0 z0 z0 z0 z0 z0 0)) ++ (wJo cI cJ cZ u2 z0 z0 z0 z0 0)) ++ (wEx cI cJ cZ u0 0 0 0 0 0 0)) ++ [(q51, .inl (cI, 36, .inl z0))]) ++ [(q59, .inl (cJ, 8, .inr (.inl z0L)))]) rfl (fun H locs hP hD hS => ?_)
  subst hw1; subst hw3; subst hw2; subst hw0
  have hP9 : va_P D vwCl (wAll cI cJ cZ (fun k => List.getD [h0, q51, q59, u1 3, u1 4, u1 5, u1 6, u1 7, u1 8, u1 9, u1 10, u1 11, u1 12, u1 13, u1 14, u3 15, u3 16, u3 17, u3 18, u3 19, u3 20, u3 21, u3 22, u2 23, u2 24, u2 25, u2 26, u2 27, u0 28] k 0) z0 z0L 0 z0 z0 z0 z0 z0 z0 z0 z0 z0 z0 z0 0 0 z0 z0 z0 z0 z0 z0 z0 0 z0 z0 z0 z0 0 0 0 0 0 0 0) H := hP.sub [0, 27, 28, 1, 2, 3, 4, 5, 6, 7, 8, 9, 10, 11, 12, 13, 14, 15, 16, 17, 18, 19, 20, 21, 22, 23, 24, 25, 26] rfl
  have hD9 : va_D A (wAll cI cJ cZ (fun k => List.getD [h0, q51, q59, u1 3, u1 4, u1 5, u1 6, u1 7, u1 8, u1 9, u1 10, u1 11, u1 12, u1 13, u1 14, u3 15, u3 16, u3 17, u3 18, u3 19, u3 20, u3 21, u3 22, u2 23, u2 24, u2 25, u2 26, u2 27, u0 28] k 0) z0 z0L 0 z0 z0 z0 z0 z0 z0 z0 z0 z0 z0 z0 0 0 z0 z0 z0 z0 z0 z0 z0 0 z0 z0 z0 z0 0 0 0 0 0 0 0) := hD.sub [0, 27, 28, 1, 2, 3, 4, 5, 6, 7, 8, 9, 10, 11, 12, 13, 14, 15, 16, 17, 18, 19, 20, 21, 22, 23, 24, 25, 26] (by decide) rfl
  exact W.vret hx hb hr (fun t ht hW => ⟨⟨(fun k => List.getD [h0, q51, q59, u1 3, u1 4, u1 5, u1 6, u1 7, u1 8, u1 9, u1 10, u1 11, u1 12, u1 13, u1 14, u3 15, u3 16, u3 17, u3 18, u3 19, u3 20, u3 21, u3 22, u2 23, u2 24, u2 25, u2 26, u2 27, u0 28] k 0), rfl, rfl, z_at ht hP9, hD9⟩, hS.F ht⟩) hS.2.2 dX4_init_69
