theorem F_in_natL {x lo hi : Int32} (N : Nat) (h : ¬ F_in x lo hi = 0) (hlo : 0 ≤ lo.toInt) (hN : hi.toInt < N) : x = nI (ix x) ∧ ix x < N ∧ lo.toInt ≤ (ix x : Int) := by
  have h1 : ¬ x < lo := fun q => h (F_in_0a q)
  have h2 : ¬ hi < x := fun q => h (F_in_0b q)
  have h0 : ¬ x < 0 := by
    rw [z_lt] at h1 ⊢
    have : (0 : Int32).toInt = 0 := by decide
    omega
  obtain ⟨j, hj, rfl⟩ := nI_of h0
  rw [z_lt, nI_toInt hj] at h1 h2
  rw [ix_nI hj]
  exact ⟨rfl, by omega, by omega⟩

theorem k_J6_bitCount_0f7a4_1 : (Cond.constant RJ6 265 (1431655765)) ∈ wsJ6_bitCount_0f7a4 := List.mem_of_getElem? (i := 1) rfl
theorem k_J6_bitCount_0f7a4_2 : (Cond.constant RJ6 266 (858993459)) ∈ wsJ6_bitCount_0f7a4 := List.mem_of_getElem? (i := 2) rfl
theorem k_J6_bitCount_0f7a4_3 : (Cond.constant RJ6 267 (252645135)) ∈ wsJ6_bitCount_0f7a4 := List.mem_of_getElem? (i := 3) rfl
set_option maxHeartbeats 4000000 in
set_option maxRecDepth 100000 in
theorem c_J6_bitCount_0f7a4 (l : Launch) (D : va_G) (cI cJ cZ : ClassId) (a : Nat → Nat) (sz : Nat)  (x1 : Int32) : Met l yJ6_bitCount_0f7a4 wsJ6_bitCount_0f7a4 ({ frames := 0, cells := 0, slots := 0, locals := 0 }) (va_Pc [.int x1] (ZP D (zt cI cJ cZ) ([] : va_W) sz zT)) (va_Qi (fun (r : Int32) (_ : Unit) => r = F_bit x1) (fun _ _ => True) (va_A [] sz)) 0 0 (va_A [] sz) := by
  refine Met.ofW (cc := cJ6_bitCount_0f7a4) (maxL := 1) (ret := (some .int)) (by decide) rfl ?_
  intro p e s m args below meth c s₁ B hml hv
  obtain ⟨rfl, hsz, hP, hK, hD0, hE⟩ := hv
  have hx := B.exec
  have hb := B.bytes
  have hr := B.returns
  have hts := atoms_spec (ws := wsJ6_bitCount_0f7a4) B.pre
  have hown : s.vm.findClass RJ6 = some m.cls := findClass_of_methodNamed B.named
  have hlocks := B.notSynchronized
  subst hsz
  have hD := hD0
  generalize hAe : va_A [] s.heap.size = A at ⊢
  have hA : ∀ q : Nat, s.heap.size ≤ q → A q := fun q h => by rw [← hAe]; exact Or.inr h
  have hS : va_S A s.heap s.heap [] := va_S.rf
  have hl := lv_entry ([.int x1]) (n := 1) (Nat.le_of_ble_eq_true rfl)
  rw [lg_entry_eq]
  generalize (lg_sl ([.int x1]) ++ List.replicate (1 - (lg_sl ([.int x1])).length) Slot.unset).toArray = ls at hl ⊢
  have hl : lv_has ls 1 [(0, .int x1)] := hl
  have hP : va_P D vwCl ([] : va_W) s.heap := hP
  refine lv_iload_n hx hb dJ6_bitCount_0f7a4_0 rfl (lv_at hl 0 rfl) ?_
  refine lv_iload_n hx hb dJ6_bitCount_0f7a4_1 rfl (lv_at hl 0 rfl) ?_
  refine lv_iconst (v := 1) hx hb dJ6_bitCount_0f7a4_2 (by decide) ?_
  refine lv_iushr (v := (x1.toUInt32 >>> ((1 : Int32).toUInt32 &&& Int32.toUInt32 31)).toInt32) hx hb dJ6_bitCount_0f7a4_3 rfl ?_
  refine lv_ldcw (v := 1431655765) hx hb hown (hts _ k_J6_bitCount_0f7a4_1) dJ6_bitCount_0f7a4_4 ?_
  refine lv_iand hx hb dJ6_bitCount_0f7a4_7 ?_
  refine lv_isub hx hb dJ6_bitCount_0f7a4_8 ?_
  refine W.eq (g2 := F0 m 9 ls [.int (F_b1 x1)]) rfl ?_
  refine lv_istore_n (lv' := [(0, .int (F_b1 x1))]) hx hb dJ6_bitCount_0f7a4_9 rfl hl (by decide) rfl (fun ls hl => ?_)
  refine lv_iload_n hx hb dJ6_bitCount_0f7a4_10 rfl (lv_at hl 0 rfl) ?_
  refine lv_ldcw (v := 858993459) hx hb hown (hts _ k_J6_bitCount_0f7a4_2) dJ6_bitCount_0f7a4_11 ?_
  refine lv_iand hx hb dJ6_bitCount_0f7a4_14 ?_
  refine lv_iload_n hx hb dJ6_bitCount_0f7a4_15 rfl (lv_at hl 0 rfl) ?_
  refine lv_iconst (v := 2) hx hb dJ6_bitCount_0f7a4_16 (by decide) ?_
  refine lv_iushr (v := ((F_b1 x1).toUInt32 >>> ((2 : Int32).toUInt32 &&& Int32.toUInt32 31)).toInt32) hx hb dJ6_bitCount_0f7a4_17 rfl ?_
  refine lv_ldcw (v := 858993459) hx hb hown (hts _ k_J6_bitCount_0f7a4_2) dJ6_bitCount_0f7a4_18 ?_
  refine lv_iand hx hb dJ6_bitCount_0f7a4_21 ?_
  refine lv_iadd hx hb dJ6_bitCount_0f7a4_22 ?_
  refine W.eq (g2 := F0 m 23 ls [.int (F_b2 (F_b1 x1))]) rfl ?_
  refine lv_istore_n (lv' := [(0, .int (F_b2 (F_b1 x1)))]) hx hb dJ6_bitCount_0f7a4_23 rfl hl (by decide) rfl (fun ls hl => ?_)
  refine lv_iload_n hx hb dJ6_bitCount_0f7a4_24 rfl (lv_at hl 0 rfl) ?_
  refine lv_iload_n hx hb dJ6_bitCount_0f7a4_25 rfl (lv_at hl 0 rfl) ?_
  refine lv_iconst (v := 4) hx hb dJ6_bitCount_0f7a4_26 (by decide) ?_
  refine lv_iushr (v := ((F_b2 (F_b1 x1)).toUInt32 >>> ((4 : Int32).toUInt32 &&& Int32.toUInt32 31)).toInt32) hx hb dJ6_bitCount_0f7a4_27 rfl ?_
  refine lv_iadd hx hb dJ6_bitCount_0f7a4_28 ?_
  refine lv_ldcw (v := 252645135) hx hb hown (hts _ k_J6_bitCount_0f7a4_3) dJ6_bitCount_0f7a4_29 ?_
  refine lv_iand hx hb dJ6_bitCount_0f7a4_32 ?_
  refine W.eq (g2 := F0 m 33 ls [.int (F_b3 (F_b2 (F_b1 x1)))]) rfl ?_
  refine lv_istore_n (lv' := [(0, .int (F_b3 (F_b2 (F_b1 x1))))]) hx hb dJ6_bitCount_0f7a4_33 rfl hl (by decide) rfl (fun ls hl => ?_)
  refine lv_iload_n hx hb dJ6_bitCount_0f7a4_34 rfl (lv_at hl 0 rfl) ?_
  refine lv_iload_n hx hb dJ6_bitCount_0f7a4_35 rfl (lv_at hl 0 rfl) ?_
  refine lv_bipush (v := 8) hx hb dJ6_bitCount_0f7a4_36 (by decide) ?_
  refine lv_iushr (v := ((F_b3 (F_b2 (F_b1 x1))).toUInt32 >>> ((8 : Int32).toUInt32 &&& Int32.toUInt32 31)).toInt32) hx hb dJ6_bitCount_0f7a4_38 rfl ?_
  refine lv_iadd hx hb dJ6_bitCount_0f7a4_39 ?_
  refine W.eq (g2 := F0 m 40 ls [.int (F_b4 (F_b3 (F_b2 (F_b1 x1))))]) rfl ?_
  refine lv_istore_n (lv' := [(0, .int (F_b4 (F_b3 (F_b2 (F_b1 x1)))))]) hx hb dJ6_bitCount_0f7a4_40 rfl hl (by decide) rfl (fun ls hl => ?_)
  refine lv_iload_n hx hb dJ6_bitCount_0f7a4_41 rfl (lv_at hl 0 rfl) ?_
  refine lv_iload_n hx hb dJ6_bitCount_0f7a4_42 rfl (lv_at hl 0 rfl) ?_
  refine lv_bipush (v := 16) hx hb dJ6_bitCount_0f7a4_43 (by decide) ?_
  refine lv_iushr (v := ((F_b4 (F_b3 (F_b2 (F_b1 x1)))).toUInt32 >>> ((16 : Int32).toUInt32 &&& Int32.toUInt32 31)).toInt32) hx hb dJ6_bitCount_0f7a4_45 rfl ?_
  refine lv_iadd hx hb dJ6_bitCount_0f7a4_46 ?_
  refine W.eq (g2 := F0 m 47 ls [.int (F_b5 (F_b4 (F_b3 (F_b2 (F_b1 x1)))))]) rfl ?_
  refine lv_istore_n (lv' := [(0, .int (F_b5 (F_b4 (F_b3 (F_b2 (F_b1 x1))))))]) hx hb dJ6_bitCount_0f7a4_47 rfl hl (by decide) rfl (fun ls hl => ?_)
  refine lv_iload_n hx hb dJ6_bitCount_0f7a4_48 rfl (lv_at hl 0 rfl) ?_
  refine lv_bipush (v := 63) hx hb dJ6_bitCount_0f7a4_49 (by decide) ?_
  refine lv_iand hx hb dJ6_bitCount_0f7a4_51 ?_
  exact W.iret (v := (F_b5 (F_b4 (F_b3 (F_b2 (F_b1 x1))))) &&& 63) hx hb hr (fun t ht hW => ⟨⟨(F_b5 (F_b4 (F_b3 (F_b2 (F_b1 x1))))) &&& 63, (), rfl, (by first | with_reducible rfl | (simp only [F_bit]; done) | (simp +decide only [F_bit]; done) | (simp [F_bit]; done) | (simp +decide [F_bit]; done)), trivial⟩, hS.F ht⟩) hS.2.2 dJ6_bitCount_0f7a4_52
theorem k_X4_claim_1 : (Cond.classLink RX4 83 "java/lang/IllegalArgumentException") ∈ wsX4_claim := List.mem_of_getElem? (i := 1) rfl
theorem k_X4_claim_2 : (Cond.initialized "java/lang/IllegalArgumentException") ∈ wsX4_claim := List.mem_of_getElem? (i := 2) rfl
theorem b_X4_claim_vx_atSRX487javalangIlleg : ∀ w ∈ (vx_atS RX4 87 "java/lang/IllegalArgumentException" ["java/lang/RuntimeException", "java/lang/Exception"]).filter goodWord, w ∈ wsX4_claim := fun _ h => List.mem_cons_of_mem _ (List.mem_append_left _ (List.mem_append_right _ h))
theorem k_X4_claim_3 : (Cond.constant RX4 219 (1000000)) ∈ wsX4_claim := List.mem_of_getElem? (i := 3) rfl
theorem k_X4_claim_4 : (Cond.fieldLink RX4 19 "Orbitregister" "satellites" "LOrbitregister$Satellites;") ∈ wsX4_claim := List.mem_of_getElem? (i := 4) rfl
theorem b_X4_claim_wsX40 : ∀ w ∈ wsX40, w ∈ wsX4_claim := fun _ h => List.mem_cons_of_mem _ (List.mem_append_left _ (List.mem_append_left _ (List.mem_append_left _ (List.mem_append_right _ h))))
theorem k_X4_claim_5 : (Cond.fieldLink RX4 222 "Orbitregister$Satellites" "states" "[I") ∈ wsX4_claim := List.mem_of_getElem? (i := 5) rfl
theorem b_X4_claim_wsX30 : ∀ w ∈ wsX30, w ∈ wsX4_claim := fun _ h => List.mem_cons_of_mem _ (List.mem_append_left _ (List.mem_append_left _ (List.mem_append_right _ h)))
theorem k_X4_claim_6 : (Cond.fieldLink RX4 41 "Orbitregister" "paidBy" "[J") ∈ wsX4_claim := List.mem_of_getElem? (i := 6) rfl
set_option maxHeartbeats 4000000 in
set_option maxRecDepth 100000 in
theorem c_X4_claim (l : Launch) (hflg : l.stackTraces = false) (D : va_G) (cI cJ cZ : ClassId) (a : Nat → Nat) (sz : Nat) (px : A32) (py : A64) (td : Int32) (ld : A32) (sl : A32) (bd : A32) (pw : A32) (dt : A32) (st : A32) (uc : A32) (sv : A32) (tl : A32) (so : A32) (lm : A32) (n : Nat) (nd : Int32) (ss : A32) (rg : A32) (hw : A32) (ax : A32) (fu : A32) (si : A32) (au : A32) (ns : Nat) (jk : A32) (jd : A32) (js : A32) (jt : A32) (jn : Nat) (ef : Int32) (es : Int32) (el : Int32) (ev : Int32) (et : Int32) (eo : Int32) (x1 : Int32) (x2 : Int32) (x3 : Int32) (x4 : Int32) (hs : ns ≤ 16) : zx_Met l yX4_claim wsX4_claim ({ frames := 7, cells := 1, slots := 6, locals := 103 }) (va_Pc [.ref (a 0), .int x1, .int x2, .int x3, .int x4] (ZP D (zt cI cJ cZ) (wAll cI cJ cZ a px py td ld sl bd pw dt st uc sv tl so lm n nd ss rg hw ax fu si au ns jk jd js jt jn ef es el ev et eo) sz (ZX (va_A (wAll cI cJ cZ a px py td ld sl bd pw dt st uc sv tl so lm n nd ss rg hw ax fu si au ns jk jd js jt jn ef es el ev et eo) sz)))) (va_Qi (fun (r : Int32) (_ : Unit) => E_claim x1 x2 ns = 0 ∧ r = F_ifI (F_claims (ss (ix x1)) x3 x4) 0 ((F_share (ss (ix x1)) x2) * F_bit (ss (ix x1)))) (fun _ t => va_P D vwCl (wAll cI cJ cZ a px (F_if6 (F_claims (ss (ix x1)) x3 x4) py (F_pay (ss (ix x1)) (F_share (ss (ix x1)) x2) py 8)) td ld sl bd pw dt st uc sv tl so lm n nd ss rg hw ax fu si au ns jk jd js jt jn ef es el ev et eo) t.heap) (va_A (wAll cI cJ cZ a px py td ld sl bd pw dt st uc sv tl so lm n nd ss rg hw ax fu si au ns jk jd js jt jn ef es el ev et eo) sz)) (vx_X (fun _ : Unit => True) (fun E _ t => zER zI zA zS (E_claim x1 x2 ns) E ∧ va_P D vwCl (wAll cI cJ cZ a px py td ld sl bd pw dt st uc sv tl so lm n nd ss rg hw ax fu si au ns jk jd js jt jn ef es el ev et eo) t.heap) (va_A (wAll cI cJ cZ a px py td ld sl bd pw dt st uc sv tl so lm n nd ss rg hw ax fu si au ns jk jd js jt jn ef es el ev et eo) sz)) (va_A (wAll cI cJ cZ a px py td ld sl bd pw dt st uc sv tl so lm n nd ss rg hw ax fu si au ns jk jd js jt jn ef es el ev et eo) sz) := by
  refine zx_ofW (cc := cX4_claim) (maxL := 8) (ret := (some .int)) (by decide) rfl ?_
  intro p e s m args below meth c s₁ B hml hno hv
  obtain ⟨rfl, hsz, hP, hK, hD0, hE⟩ := hv
  have hx := B.exec
  have hb := B.bytes
  have hr := B.returns
  have hts := atoms_spec (ws := wsX4_claim) B.pre
  have hown : s.vm.findClass RX4 = some m.cls := findClass_of_methodNamed B.named
  have hlocks := B.notSynchronized
  subst hsz
  have hD := hD0.self (sz := s.heap.size)
  generalize hAe : va_A (wAll cI cJ cZ a px py td ld sl bd pw dt st uc sv tl so lm n nd ss rg hw ax fu si au ns jk jd js jt jn ef es el ev et eo) s.heap.size = A at hD hE ⊢
  have hA : ∀ q : Nat, s.heap.size ≤ q → A q := fun q h => by rw [← hAe]; exact Or.inr h
  have hS : va_S A s.heap s.heap [] := va_S.rf
  have hl := lv_entry ([.ref (a 0), .int x1, .int x2, .int x3, .int x4]) (n := 8) (Nat.le_of_ble_eq_true rfl)
  rw [lg_entry_eq]
  generalize (lg_sl ([.ref (a 0), .int x1, .int x2, .int x3, .int x4]) ++ List.replicate (8 - (lg_sl ([.ref (a 0), .int x1, .int x2, .int x3, .int x4])).length) Slot.unset).toArray = ls at hl ⊢
  have hl : lv_has ls 8 [(0, .ref (a 0)), (1, .int x1), (2, .int x2), (3, .int x3), (4, .int x4)] := hl
  have hP : va_P D vwCl (wAll cI cJ cZ a px py td ld sl bd pw dt st uc sv tl so lm n nd ss rg hw ax fu si au ns jk jd js jt jn ef es el ev et eo) s.heap := hP
  refine lv_aload_n hx hb dX4_claim_0 rfl (lv_at hl 0 rfl) ?_
  refine lv_iload_n hx hb dX4_claim_1 rfl (lv_at hl 1 rfl) ?_
  refine zx_ck (ws := (wAll cI cJ cZ a px py td ld sl bd pw dt st uc sv tl so lm n nd ss rg hw ax fu si au ns jk jd js jt jn ef es el ev et eo)) (cond := F_in x1 0 (nI ns - 1) = 0) (X := zI) (zx_runV (As := [.int x1]) (rest := []) ⟨hx, hb, hml, hown, hts⟩ (c_X4_checkSatellite l hflg D cI cJ cZ a s.heap.size px py td ld sl bd pw dt st uc sv tl so lm n nd ss rg hw ax fu si au ns jk jd js jt jn ef es el ev et eo x1 (by first | assumption | omega)) (cwV 1 hts gX4_claim_X4_checkSatellite rfl rfl rfl (by decide +kernel) ⟨Nat.le_of_ble_eq_true rfl, Nat.le_of_ble_eq_true rfl⟩) (z_pv hK hP hD (q0 := 0) (ci := 4) rfl rfl ZX_b (ZX_m hE hS (z_free0 hS hA))) rfl rfl hl.1 rfl (lv_room (Nat.le_of_ble_eq_true rfl)) dX4_claim_2 ⟨Nat.le_of_ble_eq_true rfl, Nat.le_of_ble_eq_true rfl⟩) hP hS hA hno hlocks rfl rfl (fun c_1 => (z_er1 (by first | with_reducible rfl | (simp only [E_claim, F_claims, F_ifI, F_if6, if_pos c_1]; done) | (simp +decide only [E_claim, F_claims, F_ifI, F_if6, if_pos c_1]; done) | (simp [E_claim, F_claims, F_ifI, F_if6, c_1]; done) | (simp +decide [E_claim, F_claims, F_ifI, F_if6, c_1]; done)))) (fun _ H locs c_1 hP hS => ?_)
  obtain ⟨g_x1, g_x1b⟩ := F_in_ix c_1 (by omega)
  refine lv_iload_n hx hb dX4_claim_5 rfl (lv_at hl 2 rfl) ?_
  refine lv_iconst (v := 1) hx hb dX4_claim_6 (by decide) ?_
  refine lv_icmp_lt (tgt := 16) hx hb dX4_claim_7 (by decide) (fun c_2 => ?_) (fun c_2 => ?_)
  · have q_3 : F_in x2 1 1000000 = 0 := F_in_0a c_2
    exact zx_thrS (X := zA) (text := "amount is out of range") hx hb hflg hts hown (by decide +kernel) k_X4_claim_1 k_X4_claim_2 b_X4_claim_vx_atSRX487javalangIlleg zn_A zg_A hE.2.1.2.1.2.1 (by decide +kernel) hE hS (hl.1.trans hml.symm) dX4_claim_16 dX4_claim_19 dX4_claim_20 dX4_claim_22 dX4_claim_25 hno (Nat.le_of_ble_eq_true rfl) (Nat.le_of_ble_eq_true rfl) (Nat.le_of_ble_eq_true rfl) (Nat.le_of_ble_eq_true rfl) hlocks (fun t ht h1 h2 => ⟨(), trivial, ⟨(z_er2 (by first | with_reducible rfl | (simp only [E_claim, F_claims, F_ifI, F_if6, if_neg c_1, if_pos c_2, if_pos q_3]; done) | (simp +decide only [E_claim, F_claims, F_ifI, F_if6, if_neg c_1, if_pos c_2, if_pos q_3]; done) | (simp [E_claim, F_claims, F_ifI, F_if6, c_1, c_2, q_3]; done) | (simp +decide [E_claim, F_claims, F_ifI, F_if6, c_1, c_2, q_3]; done))), z_keepX hP h1 h2⟩, z_Fx hS h1 h2⟩) hS.2.2 rfl rfl
  · refine lv_iload_n hx hb dX4_claim_10 rfl (lv_at hl 2 rfl) ?_
    refine lv_ldc (v := 1000000) hx hb hown (hts _ k_X4_claim_3) dX4_claim_11 ?_
    refine lv_icmp_le (tgt := 26) hx hb dX4_claim_13 (by decide) (fun c_4 => ?_) (fun c_4 => ?_)
    · have q_5 : ¬ F_in x2 1 1000000 = 0 := F_in_1 c_2 (fun q => z_nle.mpr q c_4)
      refine lv_aload_n hx hb dX4_claim_26 rfl (lv_at hl 0 rfl) ?_
      refine z_get (ci := 4) (C := RX4) (T := TX4) (N := 7) hx hb hts b_X4_claim_wsX40 hown hK hP 0 rfl rfl 1 (by decide) (hts _ k_X4_claim_4) rfl (.ref (a 15)) rfl dX4_claim_27 ?_
      refine z_get (ci := 3) (C := RX3) (T := TX3) (N := 8) hx hb hts b_X4_claim_wsX30 hown hK hP 15 rfl rfl 0 (by decide) (hts _ k_X4_claim_5) rfl (.ref (a 16)) rfl dX4_claim_30 ?_
      refine lv_iload_n hx hb dX4_claim_33 rfl (lv_at hl 1 rfl) ?_
      refine z_iald hx hb hK hP 16 0 rfl rfl (ix x1) g_x1 (by omega) rfl dX4_claim_34 ?_
      refine z_ri (va_runS (As := [.int (ss (ix x1))]) (rest := []) ⟨hx, hb, hml, hown, hts⟩ (c_J6_bitCount_0f7a4 l D cI cJ cZ a H.size (ss (ix x1))) (va_cwS 1 hts gX4_claim_J6_bitCount_0f7a4 rfl rfl rfl (by decide +kernel) ⟨Nat.le_of_ble_eq_true rfl, Nat.le_of_ble_eq_true rfl⟩) (z_ps hK zP_0 zD_0 zT_b zT_m) rfl rfl hl.1 rfl (lv_room (Nat.le_of_ble_eq_true rfl)) dX4_claim_35 ⟨Nat.le_of_ble_eq_true rfl, Nat.le_of_ble_eq_true rfl⟩) hP hS hA (fun r_6 _ H locs hr_6 hP hS => ?_)
      subst hr_6
      refine lv_istore (lv' := [(5, .int (F_bit (ss (ix x1)))), (0, .ref (a 0)), (1, .int x1), (2, .int x2), (3, .int x3), (4, .int x4)]) hx hb dX4_claim_38 hl (by decide) rfl (fun ls hl => ?_)
      refine lv_iload hx hb dX4_claim_40 (lv_at hl 0 rfl) ?_
      refine lv_if_eq (tgt := 54) hx hb dX4_claim_42 (by decide) (fun c_7 => ?_) (fun c_7 => ?_)
      · refine lv_iconst (v := 0) hx hb dX4_claim_54 (by decide) ?_
        have e_wpy : F_if6 (F_claims (ss (ix x1)) x3 x4) py (F_pay (ss (ix x1)) (F_share (ss (ix x1)) x2) py 8) = py := by first | with_reducible rfl | (simp only [E_claim, F_claims, F_ifI, F_if6, if_neg c_1, if_neg c_2, if_pos c_4, if_neg q_5, if_pos c_7]; done) | (simp +decide only [E_claim, F_claims, F_ifI, F_if6, if_neg c_1, if_neg c_2, if_pos c_4, if_neg q_5, if_pos c_7]; done) | (simp [E_claim, F_claims, F_ifI, F_if6, c_1, c_2, c_4, q_5, c_7]; done) | (simp +decide [E_claim, F_claims, F_ifI, F_if6, c_1, c_2, c_4, q_5, c_7]; done)
        have hP : va_P D vwCl (wAll cI cJ cZ a px (F_if6 (F_claims (ss (ix x1)) x3 x4) py (F_pay (ss (ix x1)) (F_share (ss (ix x1)) x2) py 8)) td ld sl bd pw dt st uc sv tl so lm n nd ss rg hw ax fu si au ns jk jd js jt jn ef es el ev et eo) H := by rw [e_wpy]; exact hP
        exact zx_ret (W.iret (v := 0) hx hb hr (fun t ht hW => ⟨⟨0, (), rfl, ⟨(by first | with_reducible rfl | (simp only [E_claim, F_claims, F_ifI, F_if6, if_neg c_1, if_neg c_2, if_pos c_4, if_neg q_5, if_pos c_7]; done) | (simp +decide only [E_claim, F_claims, F_ifI, F_if6, if_neg c_1, if_neg c_2, if_pos c_4, if_neg q_5, if_pos c_7]; done) | (simp [E_claim, F_claims, F_ifI, F_if6, c_1, c_2, c_4, q_5, c_7]; done) | (simp +decide [E_claim, F_claims, F_ifI, F_if6, c_1, c_2, c_4, q_5, c_7]; done)), (by first | with_reducible rfl | (simp only [E_claim, F_claims, F_ifI, F_if6, if_neg c_1, if_neg c_2, if_pos c_4, if_neg q_5, if_pos c_7]; done) | (simp +decide only [E_claim, F_claims, F_ifI, F_if6, if_neg c_1, if_neg c_2, if_pos c_4, if_neg q_5, if_pos c_7]; done) | (simp [E_claim, F_claims, F_ifI, F_if6, c_1, c_2, c_4, q_5, c_7]; done) | (simp +decide [E_claim, F_claims, F_ifI, F_if6, c_1, c_2, c_4, q_5, c_7]; done))⟩, (z_at ht hP)⟩, hS.F ht⟩) hS.2.2 dX4_claim_55)
      · refine lv_iload_n hx hb dX4_claim_45 rfl (lv_at hl 4 rfl) ?_
        refine lv_if_ne (tgt := 56) hx hb dX4_claim_46 (by decide) (fun c_8 => ?_) (fun c_8 => ?_)
        · refine lv_iload_n hx hb dX4_claim_56 rfl (lv_at hl 3 rfl) ?_
          refine lv_iload hx hb dX4_claim_57 (lv_at hl 0 rfl) ?_
          refine lv_iadd hx hb dX4_claim_59 ?_
          refine lv_iconst (v := 1) hx hb dX4_claim_60 (by decide) ?_
          refine lv_isub hx hb dX4_claim_61 ?_
          refine lv_iload hx hb dX4_claim_62 (lv_at hl 0 rfl) ?_
          refine lv_idiv hx hb dX4_claim_64 c_7 ?_
          refine W.eq (g2 := F0 m 65 ls [.int (F_share (ss (ix x1)) x2)]) rfl ?_
          refine lv_istore (lv' := [(6, .int (F_share (ss (ix x1)) x2)), (5, .int (F_bit (ss (ix x1)))), (0, .ref (a 0)), (1, .int x1), (2, .int x2), (3, .int x3), (4, .int x4)]) hx hb dX4_claim_65 hl (by decide) rfl (fun ls hl => ?_)
          refine lv_iconst (v := 0) hx hb dX4_claim_67 (by decide) ?_
          refine lv_istore (lv' := [(7, .int 0), (6, .int (F_share (ss (ix x1)) x2)), (5, .int (F_bit (ss (ix x1)))), (0, .ref (a 0)), (1, .int x1), (2, .int x2), (3, .int x3), (4, .int x4)]) hx hb dX4_claim_68 hl (by decide) rfl (fun ls hl => ?_)
          have e_wpy : F_pay (ss (ix x1)) (F_share (ss (ix x1)) x2) py 0 = py := by first | rfl | exact nI_0
          have hP : va_P D vwCl (wAll cI cJ cZ a px (F_pay (ss (ix x1)) (F_share (ss (ix x1)) x2) py 0) td ld sl bd pw dt st uc sv tl so lm n nd ss rg hw ax fu si au ns jk jd js jt jn ef es el ev et eo) H := by rw [e_wpy]; exact hP
          have e_l7 : (nI 0) = 0 := by first | rfl | exact nI_0
          have hl : lv_has ls 8 [(7, .int (nI 0)), (6, .int (F_share (ss (ix x1)) x2)), (5, .int (F_bit (ss (ix x1)))), (0, .ref (a 0)), (1, .int x1), (2, .int x2), (3, .int x3), (4, .int x4)] := by rw [e_l7]; exact lv_sub hl [0, 1, 2, 3, 4, 5, 6, 7] rfl
          refine z_loop (D := D) (A := A) (H0 := s.heap) (N := 8) (Wf := fun i => (wAll cI cJ cZ a px (F_pay (ss (ix x1)) (F_share (ss (ix x1)) x2) py i) td ld sl bd pw dt st uc sv tl so lm n nd ss rg hw ax fu si au ns jk jd js jt jn ef es el ev et eo)) (lvf := fun i => [(7, .int (nI i)), (6, .int (F_share (ss (ix x1)) x2)), (5, .int (F_bit (ss (ix x1)))), (0, .ref (a 0)), (1, .int x1), (2, .int x2), (3, .int x3), (4, .int x4)]) (Inv := fun i => True) 0 (by omega) trivial hP hS hl (fun i hi hinv H locs ls hP hS hl ih => ?_)
          have hP : va_P D vwCl (wAll cI cJ cZ a px (F_pay (ss (ix x1)) (F_share (ss (ix x1)) x2) py i) td ld sl bd pw dt st uc sv tl so lm n nd ss rg hw ax fu si au ns jk jd js jt jn ef es el ev et eo) H := hP
          have hD : va_D A (wAll cI cJ cZ a px (F_pay (ss (ix x1)) (F_share (ss (ix x1)) x2) py i) td ld sl bd pw dt st uc sv tl so lm n nd ss rg hw ax fu si au ns jk jd js jt jn ef es el ev et eo) := zD_congr (w1 := (wAll cI cJ cZ a px py td ld sl bd pw dt st uc sv tl so lm n nd ss rg hw ax fu si au ns jk jd js jt jn ef es el ev et eo)) rfl hD
          have hl : lv_has ls 8 [(7, .int (nI i)), (6, .int (F_share (ss (ix x1)) x2)), (5, .int (F_bit (ss (ix x1)))), (0, .ref (a 0)), (1, .int x1), (2, .int x2), (3, .int x3), (4, .int x4)] := hl
          have hinv : True := hinv
          refine lv_iload hx hb dX4_claim_70 (lv_at hl 0 rfl) ?_
          refine lv_bipush (v := 8) hx hb dX4_claim_72 (by decide) ?_
          refine lv_icmp_ge (tgt := 109) hx hb dX4_claim_74 (by decide) (fun c_9 => ?_) (fun c_9 => ?_)
          · have f_9 := z_leN (a := 8) (b := i) c_9 (by decide) rfl (by omega) (by omega)
            have f_9n := Nat.not_lt.mpr f_9
            obtain rfl : 8 = i := by omega
            refine lv_iload hx hb dX4_claim_109 (lv_at hl 1 rfl) ?_
            refine lv_iload hx hb dX4_claim_111 (lv_at hl 2 rfl) ?_
            refine lv_imul hx hb dX4_claim_113 ?_
            have e_wpy : F_if6 (F_claims (ss (ix x1)) x3 x4) py (F_pay (ss (ix x1)) (F_share (ss (ix x1)) x2) py 8) = F_pay (ss (ix x1)) (F_share (ss (ix x1)) x2) py 8 := by first | with_reducible rfl | (simp only [E_claim, F_claims, F_ifI, F_if6, if_neg c_1, if_neg c_2, if_pos c_4, if_neg q_5, if_neg c_7, if_neg c_8, if_pos c_9, if_pos f_9, if_neg f_9n]; done) | (simp +decide only [E_claim, F_claims, F_ifI, F_if6, f_9, if_neg c_1, if_neg c_2, if_pos c_4, if_neg q_5, if_neg c_7, if_neg c_8, if_pos c_9, if_pos f_9, if_neg f_9n]; done) | (simp [E_claim, F_claims, F_ifI, F_if6, c_1, c_2, c_4, q_5, c_7, c_8, c_9, f_9, f_9n, f_9]; done) | (simp +decide [E_claim, F_claims, F_ifI, F_if6, c_1, c_2, c_4, q_5, c_7, c_8, c_9, f_9, f_9n, f_9]; done)
            have hP : va_P D vwCl (wAll cI cJ cZ a px (F_if6 (F_claims (ss (ix x1)) x3 x4) py (F_pay (ss (ix x1)) (F_share (ss (ix x1)) x2) py 8)) td ld sl bd pw dt st uc sv tl so lm n nd ss rg hw ax fu si au ns jk jd js jt jn ef es el ev et eo) H := by rw [e_wpy]; exact hP
            exact zx_ret (W.iret (v := (F_share (ss (ix x1)) x2) * (F_bit (ss (ix x1)))) hx hb hr (fun t ht hW => ⟨⟨(F_share (ss (ix x1)) x2) * (F_bit (ss (ix x1))), (), rfl, ⟨(by first | with_reducible rfl | (simp only [E_claim, F_claims, F_ifI, F_if6, if_neg c_1, if_neg c_2, if_pos c_4, if_neg q_5, if_neg c_7, if_neg c_8, if_pos c_9, if_pos f_9, if_neg f_9n]; done) | (simp +decide only [E_claim, F_claims, F_ifI, F_if6, f_9, if_neg c_1, if_neg c_2, if_pos c_4, if_neg q_5, if_neg c_7, if_neg c_8, if_pos c_9, if_pos f_9, if_neg f_9n]; done) | (simp [E_claim, F_claims, F_ifI, F_if6, c_1, c_2, c_4, q_5, c_7, c_8, c_9, f_9, f_9n, f_9]; done) | (simp +decide [E_claim, F_claims, F_ifI, F_if6, c_1, c_2, c_4, q_5, c_7, c_8, c_9, f_9, f_9n, f_9]; done)), (by first | with_reducible rfl | (simp only [E_claim, F_claims, F_ifI, F_if6, if_neg c_1, if_neg c_2, if_pos c_4, if_neg q_5, if_neg c_7, if_neg c_8, if_pos c_9, if_pos f_9, if_neg f_9n]; done) | (simp +decide only [E_claim, F_claims, F_ifI, F_if6, f_9, if_neg c_1, if_neg c_2, if_pos c_4, if_neg q_5, if_neg c_7, if_neg c_8, if_pos c_9, if_pos f_9, if_neg f_9n]; done) | (simp [E_claim, F_claims, F_ifI, F_if6, c_1, c_2, c_4, q_5, c_7, c_8, c_9, f_9, f_9n, f_9]; done) | (simp +decide [E_claim, F_claims, F_ifI, F_if6, c_1, c_2, c_4, q_5, c_7, c_8, c_9, f_9, f_9n, f_9]; done))⟩, (z_at ht hP)⟩, hS.F ht⟩) hS.2.2 dX4_claim_114)
          · have f_9 := z_nleN (a := 8) (b := i) c_9 (by decide) rfl (by omega) (by omega)
            have f_9n := Nat.not_le.mpr f_9
            refine lv_aload_n hx hb dX4_claim_77 rfl (lv_at hl 3 rfl) ?_
            refine z_get (ci := 4) (C := RX4) (T := TX4) (N := 7) hx hb hts b_X4_claim_wsX40 hown hK hP 0 rfl rfl 1 (by decide) (hts _ k_X4_claim_4) rfl (.ref (a 15)) rfl dX4_claim_78 ?_
            refine lv_iload_n hx hb dX4_claim_81 rfl (lv_at hl 4 rfl) ?_
            refine lv_iload hx hb dX4_claim_82 (lv_at hl 0 rfl) ?_
            refine z_ri (va_runV (As := [.int x1, .int (nI i)]) (rest := []) ⟨hx, hb, hml, hown, hts⟩ (c_X3_isLaunchedBy l D cI cJ cZ a H.size ss rg hw ax fu si au ns x1 (ix x1) g_x1 (by omega) (nI i)) (cwV 2 hts gX4_claim_X3_isLaunchedBy rfl rfl rfl (by decide +kernel) ⟨Nat.le_of_ble_eq_true rfl, Nat.le_of_ble_eq_true rfl⟩) (z_pv hK (zP_mid (pre := ((wOr cI cJ cZ a px (F_pay (ss (ix x1)) (F_share (ss (ix x1)) x2) py i) td) ++ (wFi cI cJ cZ a ld sl bd pw dt st uc sv tl so lm n nd))) (wc := (wSa cI cJ cZ a ss rg hw ax fu si au ns)) (suf := ((wJo cI cJ cZ a jk jd js jt jn) ++ (wEx cI cJ cZ a ef es el ev et eo))) hP) (zD_mid (pre := ((wOr cI cJ cZ a px (F_pay (ss (ix x1)) (F_share (ss (ix x1)) x2) py i) td) ++ (wFi cI cJ cZ a ld sl bd pw dt st uc sv tl so lm n nd))) (wc := (wSa cI cJ cZ a ss rg hw ax fu si au ns)) (suf := ((wJo cI cJ cZ a jk jd js jt jn) ++ (wEx cI cJ cZ a ef es el ev et eo))) hD) (q0 := 0) (ci := 3) rfl rfl zT_b zT_m) rfl rfl hl.1 rfl (lv_room (Nat.le_of_ble_eq_true rfl)) dX4_claim_84 ⟨Nat.le_of_ble_eq_true rfl, Nat.le_of_ble_eq_true rfl⟩) hP hS hA (fun r_10 _ H locs hr_10 hP hS => ?_)
            subst hr_10
            refine lv_if_eq (tgt := 103) hx hb dX4_claim_87 (by decide) (fun c_11 => ?_) (fun c_11 => ?_)
            · refine lv_iinc (v := nI (i + 1)) (lv' := [(7, .int (nI (i + 1))), (6, .int (F_share (ss (ix x1)) x2)), (5, .int (F_bit (ss (ix x1)))), (0, .ref (a 0)), (1, .int x1), (2, .int x2), (3, .int x3), (4, .int x4)]) hx hb dX4_claim_103 hl (k := 0) rfl (z_inc1 i) (by decide) rfl (fun ls hl => ?_)
              refine lv_goto (tgt := 70) hx hb dX4_claim_106 (by decide) ?_
              have e_wpy : F_pay (ss (ix x1)) (F_share (ss (ix x1)) x2) py (i + 1) = F_pay (ss (ix x1)) (F_share (ss (ix x1)) x2) py i := by first | with_reducible rfl | (simp only [E_claim, F_claims, F_ifI, F_if6, F_pay, if_neg c_1, if_neg c_2, if_pos c_4, if_neg q_5, if_neg c_7, if_neg c_8, if_neg c_9, if_pos f_9, if_neg f_9n, if_pos c_11]; done) | (simp +decide only [E_claim, F_claims, F_ifI, F_if6, F_pay, f_9, if_neg c_1, if_neg c_2, if_pos c_4, if_neg q_5, if_neg c_7, if_neg c_8, if_neg c_9, if_pos f_9, if_neg f_9n, if_pos c_11]; done) | (simp [E_claim, F_claims, F_ifI, F_if6, F_pay, c_1, c_2, c_4, q_5, c_7, c_8, c_9, f_9, f_9n, c_11, f_9]; done) | (simp +decide [E_claim, F_claims, F_ifI, F_if6, F_pay, c_1, c_2, c_4, q_5, c_7, c_8, c_9, f_9, f_9n, c_11, f_9]; done)
              have hP : va_P D vwCl (wAll cI cJ cZ a px (F_pay (ss (ix x1)) (F_share (ss (ix x1)) x2) py (i + 1)) td ld sl bd pw dt st uc sv tl so lm n nd ss rg hw ax fu si au ns jk jd js jt jn ef es el ev et eo) H := by rw [e_wpy]; exact hP
              have hl : lv_has ls 8 [(7, .int (nI (i + 1))), (6, .int (F_share (ss (ix x1)) x2)), (5, .int (F_bit (ss (ix x1)))), (0, .ref (a 0)), (1, .int x1), (2, .int x2), (3, .int x3), (4, .int x4)] := lv_sub hl [0, 1, 2, 3, 4, 5, 6, 7] rfl
              exact ih H locs ls (by omega) trivial hP hS hl
            · refine lv_aload_n hx hb dX4_claim_90 rfl (lv_at hl 3 rfl) ?_
              refine z_get (ci := 4) (C := RX4) (T := TX4) (N := 7) hx hb hts b_X4_claim_wsX40 hown hK hP 0 rfl rfl 5 (by decide) (hts _ k_X4_claim_6) rfl (.ref (a 2)) rfl dX4_claim_91 ?_
              refine lv_iload hx hb dX4_claim_94 (lv_at hl 0 rfl) ?_
              refine lv_dup2_11 hx hb dX4_claim_96 rfl rfl ?_
              refine z_lald hx hb hK hP 2 1 rfl rfl i rfl (by omega) rfl dX4_claim_97 ?_
              refine lv_iload hx hb dX4_claim_98 (lv_at hl 1 rfl) ?_
              refine lv_i2l (v := (F_share (ss (ix x1)) x2).toInt64) hx hb dX4_claim_100 rfl ?_
              refine lv_ladd hx hb dX4_claim_101 ?_
              refine z_last hx hb hK hP hD hS 2 1 rfl rfl i rfl (by omega) rfl dX4_claim_102 (wAll cI cJ cZ a px (vp_updL (F_pay (ss (ix x1)) (F_share (ss (ix x1)) x2) py i) i (((F_pay (ss (ix x1)) (F_share (ss (ix x1)) x2) py i) i) + ((F_share (ss (ix x1)) x2).toInt64))) td ld sl bd pw dt st uc sv tl so lm n nd ss rg hw ax fu si au ns jk jd js jt jn ef es el ev et eo) rfl (fun H locs hP hD hS => ?_)
              refine lv_iinc (v := nI (i + 1)) (lv' := [(7, .int (nI (i + 1))), (6, .int (F_share (ss (ix x1)) x2)), (5, .int (F_bit (ss (ix x1)))), (0, .ref (a 0)), (1, .int x1), (2, .int x2), (3, .int x3), (4, .int x4)]) hx hb dX4_claim_103 hl (k := 0) rfl (z_inc1 i) (by decide) rfl (fun ls hl => ?_)
              refine lv_goto (tgt := 70) hx hb dX4_claim_106 (by decide) ?_
              have e_wpy : F_pay (ss (ix x1)) (F_share (ss (ix x1)) x2) py (i + 1) = (vp_updL (F_pay (ss (ix x1)) (F_share (ss (ix x1)) x2) py i) i (((F_pay (ss (ix x1)) (F_share (ss (ix x1)) x2) py i) i) + ((F_share (ss (ix x1)) x2).toInt64))) := by first | with_reducible rfl | (simp only [E_claim, F_claims, F_ifI, F_if6, F_pay, if_neg c_1, if_neg c_2, if_pos c_4, if_neg q_5, if_neg c_7, if_neg c_8, if_neg c_9, if_pos f_9, if_neg f_9n, if_neg c_11]; done) | (simp +decide only [E_claim, F_claims, F_ifI, F_if6, F_pay, f_9, if_neg c_1, if_neg c_2, if_pos c_4, if_neg q_5, if_neg c_7, if_neg c_8, if_neg c_9, if_pos f_9, if_neg f_9n, if_neg c_11]; done) | (simp [E_claim, F_claims, F_ifI, F_if6, F_pay, c_1, c_2, c_4, q_5, c_7, c_8, c_9, f_9, f_9n, c_11, f_9]; done) | (simp +decide [E_claim, F_claims, F_ifI, F_if6, F_pay, c_1, c_2, c_4, q_5, c_7, c_8, c_9, f_9, f_9n, c_11, f_9]; done)
              have hP : va_P D vwCl (wAll cI cJ cZ a px (F_pay (ss (ix x1)) (F_share (ss (ix x1)) x2) py (i + 1)) td ld sl bd pw dt st uc sv tl so lm n nd ss rg hw ax fu si au ns jk jd js jt jn ef es el ev et eo) H := by rw [e_wpy]; exact hP
              have hl : lv_has ls 8 [(7, .int (nI (i + 1))), (6, .int (F_share (ss (ix x1)) x2)), (5, .int (F_bit (ss (ix x1)))), (0, .ref (a 0)), (1, .int x1), (2, .int x2), (3, .int x3), (4, .int x4)] := lv_sub hl [0, 1, 2, 3, 4, 5, 6, 7] rfl
              exact ih H locs ls (by omega) trivial hP hS hl
        · refine lv_iload hx hb dX4_claim_49 (lv_at hl 5 rfl) ?_
          refine lv_if_ne (tgt := 56) hx hb dX4_claim_51 (by decide) (fun c_12 => ?_) (fun c_12 => ?_)
          · refine lv_iload_n hx hb dX4_claim_56 rfl (lv_at hl 3 rfl) ?_
            refine lv_iload hx hb dX4_claim_57 (lv_at hl 0 rfl) ?_
            refine lv_iadd hx hb dX4_claim_59 ?_
            refine lv_iconst (v := 1) hx hb dX4_claim_60 (by decide) ?_
            refine lv_isub hx hb dX4_claim_61 ?_
            refine lv_iload hx hb dX4_claim_62 (lv_at hl 0 rfl) ?_
            refine lv_idiv hx hb dX4_claim_64 c_7 ?_
            refine W.eq (g2 := F0 m 65 ls [.int (F_share (ss (ix x1)) x2)]) rfl ?_
            refine lv_istore (lv' := [(6, .int (F_share (ss (ix x1)) x2)), (5, .int (F_bit (ss (ix x1)))), (0, .ref (a 0)), (1, .int x1), (2, .int x2), (3, .int x3), (4, .int x4)]) hx hb dX4_claim_65 hl (by decide) rfl (fun ls hl => ?_)
            refine lv_iconst (v := 0) hx hb dX4_claim_67 (by decide) ?_
            refine lv_istore (lv' := [(7, .int 0), (6, .int (F_share (ss (ix x1)) x2)), (5, .int (F_bit (ss (ix x1)))), (0, .ref (a 0)), (1, .int x1), (2, .int x2), (3, .int x3), (4, .int x4)]) hx hb dX4_claim_68 hl (by decide) rfl (fun ls hl => ?_)
            have e_wpy : F_pay (ss (ix x1)) (F_share (ss (ix x1)) x2) py 0 = py := by first | rfl | exact nI_0
            have hP : va_P D vwCl (wAll cI cJ cZ a px (F_pay (ss (ix x1)) (F_share (ss (ix x1)) x2) py 0) td ld sl bd pw dt st uc sv tl so lm n nd ss rg hw ax fu si au ns jk jd js jt jn ef es el ev et eo) H := by rw [e_wpy]; exact hP
            have e_l7 : (nI 0) = 0 := by first | rfl | exact nI_0
            have hl : lv_has ls 8 [(7, .int (nI 0)), (6, .int (F_share (ss (ix x1)) x2)), (5, .int (F_bit (ss (ix x1)))), (0, .ref (a 0)), (1, .int x1), (2, .int x2), (3, .int x3), (4, .int x4)] := by rw [e_l7]; exact lv_sub hl [0, 1, 2, 3, 4, 5, 6, 7] rfl
            refine z_loop (D := D) (A := A) (H0 := s.heap) (N := 8) (Wf := fun i => (wAll cI cJ cZ a px (F_pay (ss (ix x1)) (F_share (ss (ix x1)) x2) py i) td ld sl bd pw dt st uc sv tl so lm n nd ss rg hw ax fu si au ns jk jd js jt jn ef es el ev et eo)) (lvf := fun i => [(7, .int (nI i)), (6, .int (F_share (ss (ix x1)) x2)), (5, .int (F_bit (ss (ix x1)))), (0, .ref (a 0)), (1, .int x1), (2, .int x2), (3, .int x3), (4, .int x4)]) (Inv := fun i => True) 0 (by omega) trivial hP hS hl (fun i hi hinv H locs ls hP hS hl ih => ?_)
            have hP : va_P D vwCl (wAll cI cJ cZ a px (F_pay (ss (ix x1)) (F_share (ss (ix x1)) x2) py i) td ld sl bd pw dt st uc sv tl so lm n nd ss rg hw ax fu si au ns jk jd js jt jn ef es el ev et eo) H := hP
            have hD : va_D A (wAll cI cJ cZ a px (F_pay (ss (ix x1)) (F_share (ss (ix x1)) x2) py i) td ld sl bd pw dt st uc sv tl so lm n nd ss rg hw ax fu si au ns jk jd js jt jn ef es el ev et eo) := zD_congr (w1 := (wAll cI cJ cZ a px py td ld sl bd pw dt st uc sv tl so lm n nd ss rg hw ax fu si au ns jk jd js jt jn ef es el ev et eo)) rfl hD
            have hl : lv_has ls 8 [(7, .int (nI i)), (6, .int (F_share (ss (ix x1)) x2)), (5, .int (F_bit (ss (ix x1)))), (0, .ref (a 0)), (1, .int x1), (2, .int x2), (3, .int x3), (4, .int x4)] := hl
            have hinv : True := hinv
            refine lv_iload hx hb dX4_claim_70 (lv_at hl 0 rfl) ?_
            refine lv_bipush (v := 8) hx hb dX4_claim_72 (by decide) ?_
            refine lv_icmp_ge (tgt := 109) hx hb dX4_claim_74 (by decide) (fun c_13 => ?_) (fun c_13 => ?_)
            · have f_13 := z_leN (a := 8) (b := i) c_13 (by decide) rfl (by omega) (by omega)
              have f_13n := Nat.not_lt.mpr f_13
              obtain rfl : 8 = i := by omega
              refine lv_iload hx hb dX4_claim_109 (lv_at hl 1 rfl) ?_
              refine lv_iload hx hb dX4_claim_111 (lv_at hl 2 rfl) ?_
              refine lv_imul hx hb dX4_claim_113 ?_
              have e_wpy : F_if6 (F_claims (ss (ix x1)) x3 x4) py (F_pay (ss (ix x1)) (F_share (ss (ix x1)) x2) py 8) = F_pay (ss (ix x1)) (F_share (ss (ix x1)) x2) py 8 := by first | with_reducible rfl | (simp only [E_claim, F_claims, F_ifI, F_if6, if_neg c_1, if_neg c_2, if_pos c_4, if_neg q_5, if_neg c_7, if_pos c_8, if_neg c_12, if_pos c_13, if_pos f_13, if_neg f_13n]; done) | (simp +decide only [E_claim, F_claims, F_ifI, F_if6, f_13, if_neg c_1, if_neg c_2, if_pos c_4, if_neg q_5, if_neg c_7, if_pos c_8, if_neg c_12, if_pos c_13, if_pos f_13, if_neg f_13n]; done) | (simp [E_claim, F_claims, F_ifI, F_if6, c_1, c_2, c_4, q_5, c_7, c_8, c_12, c_13, f_13, f_13n, f_13]; done) | (simp +decide [E_claim, F_claims, F_ifI, F_if6, c_1, c_2, c_4, q_5, c_7, c_8, c_12, c_13, f_13, f_13n, f_13]; done)
              have hP : va_P D vwCl (wAll cI cJ cZ a px (F_if6 (F_claims (ss (ix x1)) x3 x4) py (F_pay (ss (ix x1)) (F_share (ss (ix x1)) x2) py 8)) td ld sl bd pw dt st uc sv tl so lm n nd ss rg hw ax fu si au ns jk jd js jt jn ef es el ev et eo) H := by rw [e_wpy]; exact hP
              exact zx_ret (W.iret (v := (F_share (ss (ix x1)) x2) * (F_bit (ss (ix x1)))) hx hb hr (fun t ht hW => ⟨⟨(F_share (ss (ix x1)) x2) * (F_bit (ss (ix x1))), (), rfl, ⟨(by first | with_reducible rfl | (simp only [E_claim, F_claims, F_ifI, F_if6, if_neg c_1, if_neg c_2, if_pos c_4, if_neg q_5, if_neg c_7, if_pos c_8, if_neg c_12, if_pos c_13, if_pos f_13, if_neg f_13n]; done) | (simp +decide only [E_claim, F_claims, F_ifI, F_if6, f_13, if_neg c_1, if_neg c_2, if_pos c_4, if_neg q_5, if_neg c_7, if_pos c_8, if_neg c_12, if_pos c_13, if_pos f_13, if_neg f_13n]; done) | (simp [E_claim, F_claims, F_ifI, F_if6, c_1, c_2, c_4, q_5, c_7, c_8, c_12, c_13, f_13, f_13n, f_13]; done) | (simp +decide [E_claim, F_claims, F_ifI, F_if6, c_1, c_2, c_4, q_5, c_7, c_8, c_12, c_13, f_13, f_13n, f_13]; done)), (by first | with_reducible rfl | (simp only [E_claim, F_claims, F_ifI, F_if6, if_neg c_1, if_neg c_2, if_pos c_4, if_neg q_5, if_neg c_7, if_pos c_8, if_neg c_12, if_pos c_13, if_pos f_13, if_neg f_13n]; done) | (simp +decide only [E_claim, F_claims, F_ifI, F_if6, f_13, if_neg c_1, if_neg c_2, if_pos c_4, if_neg q_5, if_neg c_7, if_pos c_8, if_neg c_12, if_pos c_13, if_pos f_13, if_neg f_13n]; done) | (simp [E_claim, F_claims, F_ifI, F_if6, c_1, c_2, c_4, q_5, c_7, c_8, c_12, c_13, f_13, f_13n, f_13]; done) | (simp +decide [E_claim, F_claims, F_ifI, F_if6, c_1, c_2, c_4, q_5, c_7, c_8, c_12, c_13, f_13, f_13n, f_13]; done))⟩, (z_at ht hP)⟩, hS.F ht⟩) hS.2.2 dX4_claim_114)
            · have f_13 := z_nleN (a := 8) (b := i) c_13 (by decide) rfl (by omega) (by omega)
              have f_13n := Nat.not_le.mpr f_13
              refine lv_aload_n hx hb dX4_claim_77 rfl (lv_at hl 3 rfl) ?_
              refine z_get (ci := 4) (C := RX4) (T := TX4) (N := 7) hx hb hts b_X4_claim_wsX40 hown hK hP 0 rfl rfl 1 (by decide) (hts _ k_X4_claim_4) rfl (.ref (a 15)) rfl dX4_claim_78 ?_
              refine lv_iload_n hx hb dX4_claim_81 rfl (lv_at hl 4 rfl) ?_
              refine lv_iload hx hb dX4_claim_82 (lv_at hl 0 rfl) ?_
              refine z_ri (va_runV (As := [.int x1, .int (nI i)]) (rest := []) ⟨hx, hb, hml, hown, hts⟩ (c_X3_isLaunchedBy l D cI cJ cZ a H.size ss rg hw ax fu si au ns x1 (ix x1) g_x1 (by omega) (nI i)) (cwV 2 hts gX4_claim_X3_isLaunchedBy rfl rfl rfl (by decide +kernel) ⟨Nat.le_of_ble_eq_true rfl, Nat.le_of_ble_eq_true rfl⟩) (z_pv hK (zP_mid (pre := ((wOr cI cJ cZ a px (F_pay (ss (ix x1)) (F_share (ss (ix x1)) x2) py i) td) ++ (wFi cI cJ cZ a ld sl bd pw dt st uc sv tl so lm n nd))) (wc := (wSa cI cJ cZ a ss rg hw ax fu si au ns)) (suf := ((wJo cI cJ cZ a jk jd js jt jn) ++ (wEx cI cJ cZ a ef es el ev et eo))) hP) (zD_mid (pre := ((wOr cI cJ cZ a px (F_pay (ss (ix x1)) (F_share (ss (ix x1)) x2) py i) td) ++ (wFi cI cJ cZ a ld sl bd pw dt st uc sv tl so lm n nd))) (wc := (wSa cI cJ cZ a ss rg hw ax fu si au ns)) (suf := ((wJo cI cJ cZ a jk jd js jt jn) ++ (wEx cI cJ cZ a ef es el ev et eo))) hD) (q0 := 0) (ci := 3) rfl rfl zT_b zT_m) rfl rfl hl.1 rfl (lv_room (Nat.le_of_ble_eq_true rfl)) dX4_claim_84 ⟨Nat.le_of_ble_eq_true rfl, Nat.le_of_ble_eq_true rfl⟩) hP hS hA (fun r_14 _ H locs hr_14 hP hS => ?_)
              subst hr_14
              refine lv_if_eq (tgt := 103) hx hb dX4_claim_87 (by decide) (fun c_15 => ?_) (fun c_15 => ?_)
              · refine lv_iinc (v := nI (i + 1)) (lv' := [(7, .int (nI (i + 1))), (6, .int (F_share (ss (ix x1)) x2)), (5, .int (F_bit (ss (ix x1)))), (0, .ref (a 0)), (1, .int x1), (2, .int x2), (3, .int x3), (4, .int x4)]) hx hb dX4_claim_103 hl (k := 0) rfl (z_inc1 i) (by decide) rfl (fun ls hl => ?_)
                refine lv_goto (tgt := 70) hx hb dX4_claim_106 (by decide) ?_
                have e_wpy : F_pay (ss (ix x1)) (F_share (ss (ix x1)) x2) py (i + 1) = F_pay (ss (ix x1)) (F_share (ss (ix x1)) x2) py i := by first | with_reducible rfl | (simp only [E_claim, F_claims, F_ifI, F_if6, F_pay, if_neg c_1, if_neg c_2, if_pos c_4, if_neg q_5, if_neg c_7, if_pos c_8, if_neg c_12, if_neg c_13, if_pos f_13, if_neg f_13n, if_pos c_15]; done) | (simp +decide only [E_claim, F_claims, F_ifI, F_if6, F_pay, f_13, if_neg c_1, if_neg c_2, if_pos c_4, if_neg q_5, if_neg c_7, if_pos c_8, if_neg c_12, if_neg c_13, if_pos f_13, if_neg f_13n, if_pos c_15]; done) | (simp [E_claim, F_claims, F_ifI, F_if6, F_pay, c_1, c_2, c_4, q_5, c_7, c_8, c_12, c_13, f_13, f_13n, c_15, f_13]; done) | (simp +decide [E_claim, F_claims, F_ifI, F_if6, F_pay, c_1, c_2, c_4, q_5, c_7, c_8, c_12, c_13, f_13, f_13n, c_15, f_13]; done)
                have hP : va_P D vwCl (wAll cI cJ cZ a px (F_pay (ss (ix x1)) (F_share (ss (ix x1)) x2) py (i + 1)) td ld sl bd pw dt st uc sv tl so lm n nd ss rg hw ax fu si au ns jk jd js jt jn ef es el ev et eo) H := by rw [e_wpy]; exact hP
                have hl : lv_has ls 8 [(7, .int (nI (i + 1))), (6, .int (F_share (ss (ix x1)) x2)), (5, .int (F_bit (ss (ix x1)))), (0, .ref (a 0)), (1, .int x1), (2, .int x2), (3, .int x3), (4, .int x4)] := lv_sub hl [0, 1, 2, 3, 4, 5, 6, 7] rfl
                exact ih H locs ls (by omega) trivial hP hS hl
              · refine lv_aload_n hx hb dX4_claim_90 rfl (lv_at hl 3 rfl) ?_
                refine z_get (ci := 4) (C := RX4) (T := TX4) (N := 7) hx hb hts b_X4_claim_wsX40 hown hK hP 0 rfl rfl 5 (by decide) (hts _ k_X4_claim_6) rfl (.ref (a 2)) rfl dX4_claim_91 ?_
                refine lv_iload hx hb dX4_claim_94 (lv_at hl 0 rfl) ?_
                refine lv_dup2_11 hx hb dX4_claim_96 rfl rfl ?_
                refine z_lald hx hb hK hP 2 1 rfl rfl i rfl (by omega) rfl dX4_claim_97 ?_
                refine lv_iload hx hb dX4_claim_98 (lv_at hl 1 rfl) ?_
                refine lv_i2l (v := (F_share (ss (ix x1)) x2).toInt64) hx hb dX4_claim_100 rfl ?_
                refine lv_ladd hx hb dX4_claim_101 ?_
                refine z_last hx hb hK hP hD hS 2 1 rfl rfl i rfl (by omega) rfl dX4_claim_102 (wAll cI cJ cZ a px (vp_updL (F_pay (ss (ix x1)) (F_share (ss (ix x1)) x2) py i) i (((F_pay (ss (ix x1)) (F_share (ss (ix x1)) x2) py i) i) + ((F_share (ss (ix x1)) x2).toInt64))) td ld sl bd pw dt st uc sv tl so lm n nd ss rg hw ax fu si au ns jk jd js jt jn ef es el ev et eo) rfl (fun H locs hP hD hS => ?_)
                refine lv_iinc (v := nI (i + 1)) (lv' := [(7, .int (nI (i + 1))), (6, .int (F_share (ss (ix x1)) x2)), (5, .int (F_bit (ss (ix x1)))), (0, .ref (a 0)), (1, .int x1), (2, .int x2), (3, .int x3), (4, .int x4)]) hx hb dX4_claim_103 hl (k := 0) rfl (z_inc1 i) (by decide) rfl (fun ls hl => ?_)
                refine lv_goto (tgt := 70) hx hb dX4_claim_106 (by decide) ?_
                have e_wpy : F_pay (ss (ix x1)) (F_share (ss (ix x1)) x2) py (i + 1) = (vp_updL (F_pay (ss (ix x1)) (F_share (ss (ix x1)) x2) py i) i (((F_pay (ss (ix x1)) (F_share (ss (ix x1)) x2) py i) i) + ((F_share (ss (ix x1)) x2).toInt64))) := by first | with_reducible rfl | (simp only [E_claim, F_claims, F_ifI, F_if6, F_pay, if_neg c_1, if_neg c_2, if_pos c_4, if_neg q_5, if_neg c_7, if_pos c_8, if_neg c_12, if_neg c_13, if_pos f_13, if_neg f_13n, if_neg c_15]; done) | (simp +decide only [E_claim, F_claims, F_ifI, F_if6, F_pay, f_13, if_neg c_1, if_neg c_2, if_pos c_4, if_neg q_5, if_neg c_7, if_pos c_8, if_neg c_12, if_neg c_13, if_pos f_13, if_neg f_13n, if_neg c_15]; done) | (simp [E_claim, F_claims, F_ifI, F_if6, F_pay, c_1, c_2, c_4, q_5, c_7, c_8, c_12, c_13, f_13, f_13n, c_15, f_13]; done) | (simp +decide [E_claim, F_claims, F_ifI, F_if6, F_pay, c_1, c_2, c_4, q_5, c_7, c_8, c_12, c_13, f_13, f_13n, c_15, f_13]; done)
                have hP : va_P D vwCl (wAll cI cJ cZ a px (F_pay (ss (ix x1)) (F_share (ss (ix x1)) x2) py (i + 1)) td ld sl bd pw dt st uc sv tl so lm n nd ss rg hw ax fu si au ns jk jd js jt jn ef es el ev et eo) H := by rw [e_wpy]; exact hP
                have hl : lv_has ls 8 [(7, .int (nI (i + 1))), (6, .int (F_share (ss (ix x1)) x2)), (5, .int (F_bit (ss (ix x1)))), (0, .ref (a 0)), (1, .int x1), (2, .int x2), (3, .int x3), (4, .int x4)] := lv_sub hl [0, 1, 2, 3, 4, 5, 6, 7] rfl
                exact ih H locs ls (by omega) trivial hP hS hl
          · refine lv_iconst (v := 0) hx hb dX4_claim_54 (by decide) ?_
            have e_wpy : F_if6 (F_claims (ss (ix x1)) x3 x4) py (F_pay (ss (ix x1)) (F_share (ss (ix x1)) x2) py 8) = py := by first | with_reducible rfl | (simp only [E_claim, F_claims, F_ifI, F_if6, if_neg c_1, if_neg c_2, if_pos c_4, if_neg q_5, if_neg c_7, if_pos c_8, if_pos c_12]; done) | (simp +decide only [E_claim, F_claims, F_ifI, F_if6, if_neg c_1, if_neg c_2, if_pos c_4, if_neg q_5, if_neg c_7, if_pos c_8, if_pos c_12]; done) | (simp [E_claim, F_claims, F_ifI, F_if6, c_1, c_2, c_4, q_5, c_7, c_8, c_12]; done) | (simp +decide [E_claim, F_claims, F_ifI, F_if6, c_1, c_2, c_4, q_5, c_7, c_8, c_12]; done)
            have hP : va_P D vwCl (wAll cI cJ cZ a px (F_if6 (F_claims (ss (ix x1)) x3 x4) py (F_pay (ss (ix x1)) (F_share (ss (ix x1)) x2) py 8)) td ld sl bd pw dt st uc sv tl so lm n nd ss rg hw ax fu si au ns jk jd js jt jn ef es el ev et eo) H := by rw [e_wpy]; exact hP
            exact zx_ret (W.iret (v := 0) hx hb hr (fun t ht hW => ⟨⟨0, (), rfl, ⟨(by first | with_reducible rfl | (simp only [E_claim, F_claims, F_ifI, F_if6, if_neg c_1, if_neg c_2, if_pos c_4, if_neg q_5, if_neg c_7, if_pos c_8, if_pos c_12]; done) | (simp +decide only [E_claim, F_claims, F_ifI, F_if6, if_neg c_1, if_neg c_2, if_pos c_4, if_neg q_5, if_neg c_7, if_pos c_8, if_pos c_12]; done) | (simp [E_claim, F_claims, F_ifI, F_if6, c_1, c_2, c_4, q_5, c_7, c_8, c_12]; done) | (simp +decide [E_claim, F_claims, F_ifI, F_if6, c_1, c_2, c_4, q_5, c_7, c_8, c_12]; done)), (by first | with_reducible rfl | (simp only [E_claim, F_claims, F_ifI, F_if6, if_neg c_1, if_neg c_2, if_pos c_4, if_neg q_5, if_neg c_7, if_pos c_8, if_pos c_12]; done) | (simp +decide only [E_claim, F_claims, F_ifI, F_if6, if_neg c_1, if_neg c_2, if_pos c_4, if_neg q_5, if_neg c_7, if_pos c_8, if_pos c_12]; done) | (simp [E_claim, F_claims, F_ifI, F_if6, c_1, c_2, c_4, q_5, c_7, c_8, c_12]; done) | (simp +decide [E_claim, F_claims, F_ifI, F_if6, c_1, c_2, c_4, q_5, c_7, c_8, c_12]; done))⟩, (z_at ht hP)⟩, hS.F ht⟩) hS.2.2 dX4_claim_55)
    · have q_16 : F_in x2 1 1000000 = 0 := F_in_0b (z_nle.mp c_4)
      exact zx_thrS (X := zA) (text := "amount is out of range") hx hb hflg hts hown (by decide +kernel) k_X4_claim_1 k_X4_claim_2 b_X4_claim_vx_atSRX487javalangIlleg zn_A zg_A hE.2.1.2.1.2.1 (by decide +kernel) hE hS (hl.1.trans hml.symm) dX4_claim_16 dX4_claim_19 dX4_claim_20 dX4_claim_22 dX4_claim_25 hno (Nat.le_of_ble_eq_true rfl) (Nat.le_of_ble_eq_true rfl) (Nat.le_of_ble_eq_true rfl) (Nat.le_of_ble_eq_true rfl) hlocks (fun t ht h1 h2 => ⟨(), trivial, ⟨(z_er2 (by first | with_reducible rfl | (simp only [E_claim, F_claims, F_ifI, F_if6, if_neg c_1, if_neg c_2, if_neg c_4, if_pos q_16]; done) | (simp +decide only [E_claim, F_claims, F_ifI, F_if6, if_neg c_1, if_neg c_2, if_neg c_4, if_pos q_16]; done) | (simp [E_claim, F_claims, F_ifI, F_if6, c_1, c_2, c_4, q_16]; done) | (simp +decide [E_claim, F_claims, F_ifI, F_if6, c_1, c_2, c_4, q_16]; done))), z_keepX hP h1 h2⟩, z_Fx hS h1 h2⟩) hS.2.2 rfl rfl
theorem k_X4_driftPieces_1 : (Cond.fieldLink RX4 37 "Orbitregister" "piecesIn" "[I") ∈ wsX4_driftPieces := List.mem_of_getElem? (i := 1) rfl
theorem b_X4_driftPieces_wsX40 : ∀ w ∈ wsX40, w ∈ wsX4_driftPieces := fun _ h => List.mem_cons_of_mem _ (List.mem_append_right _ h)
set_option maxHeartbeats 4000000 in
set_option maxRecDepth 100000 in
theorem c_X4_driftPieces (l : Launch) (D : va_G) (cI cJ cZ : ClassId) (a : Nat → Nat) (sz : Nat) (px : A32) (py : A64) (td : Int32) : Met l yX4_driftPieces wsX4_driftPieces ({ frames := 0, cells := 0, slots := 0, locals := 0 }) (va_Pc [.ref (a 0)] (ZP D (zt cI cJ cZ) (wOr cI cJ cZ a px py td) sz zT)) (va_Qv (fun (_ : Unit) => True) (fun _ t => va_P D vwCl (wOr cI cJ cZ a (F_drift px) py td) t.heap) (va_A (wOr cI cJ cZ a px py td) sz)) 0 0 (va_A (wOr cI cJ cZ a px py td) sz) := by
  refine Met.ofW (cc := cX4_driftPieces) (maxL := 4) (ret := none) (by decide) rfl ?_
  intro p e s m args below meth c s₁ B hml hv
  obtain ⟨rfl, hsz, hP, hK, hD0, hE⟩ := hv
  have hx := B.exec
  have hb := B.bytes
  have hr := B.returns
  have hts := atoms_spec (ws := wsX4_driftPieces) B.pre
  have hown : s.vm.findClass RX4 = some m.cls := findClass_of_methodNamed B.named
  have hlocks := B.notSynchronized
  subst hsz
  have hD := hD0.self (sz := s.heap.size)
  generalize hAe : va_A (wOr cI cJ cZ a px py td) s.heap.size = A at hD ⊢
  have hA : ∀ q : Nat, s.heap.size ≤ q → A q := fun q h => by rw [← hAe]; exact Or.inr h
  have hS : va_S A s.heap s.heap [] := va_S.rf
  have hl := lv_entry ([.ref (a 0)]) (n := 4) (Nat.le_of_ble_eq_true rfl)
  rw [lg_entry_eq]
  generalize (lg_sl ([.ref (a 0)]) ++ List.replicate (4 - (lg_sl ([.ref (a 0)])).length) Slot.unset).toArray = ls at hl ⊢
  have hl : lv_has ls 4 [(0, .ref (a 0))] := hl
  have hP : va_P D vwCl (wOr cI cJ cZ a px py td) s.heap := hP
  refine lv_aload_n hx hb dX4_driftPieces_0 rfl (lv_at hl 0 rfl) ?_
  refine z_get (ci := 4) (C := RX4) (T := TX4) (N := 7) hx hb hts b_X4_driftPieces_wsX40 hown hK hP 0 rfl rfl 4 (by decide) (hts _ k_X4_driftPieces_1) rfl (.ref (a 1)) rfl dX4_driftPieces_1 ?_
  refine lv_bipush (v := 35) hx hb dX4_driftPieces_4 (by decide) ?_
  refine z_iald hx hb hK hP 1 0 rfl rfl 35 (by decide) (by decide) rfl dX4_driftPieces_6 ?_
  refine lv_bipush (v := 10) hx hb dX4_driftPieces_7 (by decide) ?_
  refine lv_idiv hx hb dX4_driftPieces_9 (by decide) ?_
  refine lv_istore_n (lv' := [(1, .int ((px 35) / 10)), (0, .ref (a 0))]) hx hb dX4_driftPieces_10 rfl hl (by decide) rfl (fun ls hl => ?_)
  refine lv_iconst (v := 0) hx hb dX4_driftPieces_11 (by decide) ?_
  refine lv_istore_n (lv' := [(2, .int 0), (1, .int ((px 35) / 10)), (0, .ref (a 0))]) hx hb dX4_driftPieces_12 rfl hl (by decide) rfl (fun ls hl => ?_)
  have e_wpx : (F_drA px 0).1 = px := by first | rfl | exact nI_0
  have hP : va_P D vwCl (wOr cI cJ cZ a ((F_drA px 0).1) py td) s.heap := by rw [e_wpx]; exact hP
  have e_l1 : ((F_drA px 0).2) = (px 35) / 10 := by first | rfl | exact nI_0
  have e_l2 : (nI 0) = 0 := by first | rfl | exact nI_0
  have hl : lv_has ls 4 [(1, .int ((F_drA px 0).2)), (2, .int (nI 0)), (0, .ref (a 0))] := by rw [e_l1, e_l2]; exact lv_sub hl [1, 0, 2] rfl
  refine z_loop (D := D) (A := A) (H0 := s.heap) (N := 36) (Wf := fun i => (wOr cI cJ cZ a ((F_drA px i).1) py td)) (lvf := fun i => [(1, .int ((F_drA px i).2)), (2, .int (nI i)), (0, .ref (a 0))]) (Inv := fun i => True) 0 (by omega) trivial hP hS hl (fun i hi hinv H locs ls hP hS hl ih => ?_)
  have hP : va_P D vwCl (wOr cI cJ cZ a ((F_drA px i).1) py td) H := hP
  have hD : va_D A (wOr cI cJ cZ a ((F_drA px i).1) py td) := zD_congr (w1 := (wOr cI cJ cZ a px py td)) rfl hD
  have hl : lv_has ls 4 [(1, .int ((F_drA px i).2)), (2, .int (nI i)), (0, .ref (a 0))] := hl
  have hinv : True := hinv
  refine lv_iload_n hx hb dX4_driftPieces_13 rfl (lv_at hl 1 rfl) ?_
  refine lv_bipush (v := 36) hx hb dX4_driftPieces_14 (by decide) ?_
  refine lv_icmp_ge (tgt := 49) hx hb dX4_driftPieces_16 (by decide) (fun c_1 => ?_) (fun c_1 => ?_)
  · have f_1 := z_leN (a := 36) (b := i) c_1 (by decide) rfl (by omega) (by omega)
    have f_1n := Nat.not_lt.mpr f_1
    obtain rfl : 36 = i := by omega
    have e_wpx : F_drift px = (F_drA px 36).1 := by rfl
    have hP : va_P D vwCl (wOr cI cJ cZ a (F_drift px) py td) H := by rw [e_wpx]; exact hP
    exact W.vret hx hb hr (fun t ht hW => ⟨⟨(), rfl, trivial, (z_at ht hP)⟩, hS.F ht⟩) hS.2.2 dX4_driftPieces_49
  · have f_1 := z_nleN (a := 36) (b := i) c_1 (by decide) rfl (by omega) (by omega)
    have f_1n := Nat.not_le.mpr f_1
    refine lv_aload_n hx hb dX4_driftPieces_19 rfl (lv_at hl 2 rfl) ?_
    refine z_get (ci := 4) (C := RX4) (T := TX4) (N := 7) hx hb hts b_X4_driftPieces_wsX40 hown hK hP 0 rfl rfl 4 (by decide) (hts _ k_X4_driftPieces_1) rfl (.ref (a 1)) rfl dX4_driftPieces_20 ?_
    refine lv_iload_n hx hb dX4_driftPieces_23 rfl (lv_at hl 1 rfl) ?_
    refine z_iald hx hb hK hP 1 0 rfl rfl i rfl (by omega) rfl dX4_driftPieces_24 ?_
    refine lv_bipush (v := 10) hx hb dX4_driftPieces_25 (by decide) ?_
    refine lv_idiv hx hb dX4_driftPieces_27 (by decide) ?_
    refine lv_istore_n (lv' := [(3, .int ((((F_drA px i).1) i) / 10)), (1, .int ((F_drA px i).2)), (2, .int (nI i)), (0, .ref (a 0))]) hx hb dX4_driftPieces_28 rfl hl (by decide) rfl (fun ls hl => ?_)
    refine lv_aload_n hx hb dX4_driftPieces_29 rfl (lv_at hl 3 rfl) ?_
    refine z_get (ci := 4) (C := RX4) (T := TX4) (N := 7) hx hb hts b_X4_driftPieces_wsX40 hown hK hP 0 rfl rfl 4 (by decide) (hts _ k_X4_driftPieces_1) rfl (.ref (a 1)) rfl dX4_driftPieces_30 ?_
    refine lv_iload_n hx hb dX4_driftPieces_33 rfl (lv_at hl 2 rfl) ?_
    refine lv_dup2_11 hx hb dX4_driftPieces_34 rfl rfl ?_
    refine z_iald hx hb hK hP 1 0 rfl rfl i rfl (by omega) rfl dX4_driftPieces_35 ?_
    refine lv_iload_n hx hb dX4_driftPieces_36 rfl (lv_at hl 1 rfl) ?_
    refine lv_iload_n hx hb dX4_driftPieces_37 rfl (lv_at hl 0 rfl) ?_
    refine lv_isub hx hb dX4_driftPieces_38 ?_
    refine lv_iadd hx hb dX4_driftPieces_39 ?_
    refine z_iast hx hb hK hP hD hS 1 0 rfl rfl i rfl (by omega) rfl dX4_driftPieces_40 (wOr cI cJ cZ a (upd ((F_drA px i).1) i ((((F_drA px i).1) i) + (((F_drA px i).2) - ((((F_drA px i).1) i) / 10)))) py td) rfl (fun H locs hP hD hS => ?_)
    refine lv_iload_n hx hb dX4_driftPieces_41 rfl (lv_at hl 0 rfl) ?_
    refine lv_istore_n (lv' := [(1, .int ((((F_drA px i).1) i) / 10)), (3, .int ((((F_drA px i).1) i) / 10)), (2, .int (nI i)), (0, .ref (a 0))]) hx hb dX4_driftPieces_42 rfl hl (by decide) rfl (fun ls hl => ?_)
    refine lv_iinc (v := nI (i + 1)) (lv' := [(2, .int (nI (i + 1))), (1, .int ((((F_drA px i).1) i) / 10)), (3, .int ((((F_drA px i).1) i) / 10)), (0, .ref (a 0))]) hx hb dX4_driftPieces_43 hl (k := 2) rfl (z_inc1 i) (by decide) rfl (fun ls hl => ?_)
    refine lv_goto (tgt := 13) hx hb dX4_driftPieces_46 (by decide) ?_
    have e_wpx : (F_drA px (i + 1)).1 = (upd ((F_drA px i).1) i ((((F_drA px i).1) i) + (((F_drA px i).2) - ((((F_drA px i).1) i) / 10)))) := by first | rfl | exact nI_0
    have hP : va_P D vwCl (wOr cI cJ cZ a ((F_drA px (i + 1)).1) py td) H := by rw [e_wpx]; exact hP
    have e_l1 : ((F_drA px (i + 1)).2) = (((F_drA px i).1) i) / 10 := by first | rfl | exact nI_0
    have hl : lv_has ls 4 [(1, .int ((F_drA px (i + 1)).2)), (2, .int (nI (i + 1))), (0, .ref (a 0))] := by rw [e_l1]; exact lv_sub hl [1, 0, 3] rfl
    exact ih H locs ls (by omega) trivial hP hS hl
theorem k_X4_pass_1 : (Cond.classLink RX4 83 "java/lang/IllegalArgumentException") ∈ wsX4_pass := List.mem_of_getElem? (i := 1) rfl
theorem k_X4_pass_2 : (Cond.initialized "java/lang/IllegalArgumentException") ∈ wsX4_pass := List.mem_of_getElem? (i := 2) rfl
theorem b_X4_pass_vx_atSRX487javalangIlleg : ∀ w ∈ (vx_atS RX4 87 "java/lang/IllegalArgumentException" ["java/lang/RuntimeException", "java/lang/Exception"]).filter goodWord, w ∈ wsX4_pass := fun _ h => List.mem_cons_of_mem _ (List.mem_append_left _ (List.mem_append_right _ h))
theorem k_X4_pass_5 : (Cond.fieldLink RX4 45 "Orbitregister" "today" "I") ∈ wsX4_pass := List.mem_of_getElem? (i := 5) rfl
theorem b_X4_pass_wsX40 : ∀ w ∈ wsX40, w ∈ wsX4_pass := fun _ h => List.mem_cons_of_mem _ (List.mem_append_left _ (List.mem_append_left _ (List.mem_append_left _ (List.mem_append_right _ h))))
theorem k_X4_pass_6 : (Cond.fieldLink RX4 10 "Orbitregister" "filings" "LOrbitregister$Filings;") ∈ wsX4_pass := List.mem_of_getElem? (i := 6) rfl
theorem k_X4_pass_3 : (Cond.classLink RX4 65 "java/lang/IllegalStateException") ∈ wsX4_pass := List.mem_of_getElem? (i := 3) rfl
theorem k_X4_pass_4 : (Cond.initialized "java/lang/IllegalStateException") ∈ wsX4_pass := List.mem_of_getElem? (i := 4) rfl
theorem b_X4_pass_vx_atSRX469javalangIlleg : ∀ w ∈ (vx_atS RX4 69 "java/lang/IllegalStateException" ["java/lang/RuntimeException", "java/lang/Exception"]).filter goodWord, w ∈ wsX4_pass := fun _ h => List.mem_cons_of_mem _ (List.mem_append_right _ h)
set_option maxHeartbeats 4000000 in
set_option maxRecDepth 100000 in
theorem c_X4_pass (l : Launch) (hflg : l.stackTraces = false) (D : va_G) (cI cJ cZ : ClassId) (a : Nat → Nat) (sz : Nat) (px : A32) (py : A64) (td : Int32) (ld : A32) (sl : A32) (bd : A32) (pw : A32) (dt : A32) (st : A32) (uc : A32) (sv : A32) (tl : A32) (so : A32) (lm : A32) (n : Nat) (nd : Int32) (ss : A32) (rg : A32) (hw : A32) (ax : A32) (fu : A32) (si : A32) (au : A32) (ns : Nat) (jk : A32) (jd : A32) (js : A32) (jt : A32) (jn : Nat) (ef : Int32) (es : Int32) (el : Int32) (ev : Int32) (et : Int32) (eo : Int32) (x1 : Int32) (hn : n ≤ 40) (tn : Nat) (ht : td = nI tn) (ht5 : tn ≤ 5000) : zx_Met l yX4_pass wsX4_pass ({ frames := 6, cells := 1, slots := 6, locals := 82 }) (va_Pc [.ref (a 0), .int x1] (ZP D (zt cI cJ cZ) (wAll cI cJ cZ a px py td ld sl bd pw dt st uc sv tl so lm n nd ss rg hw ax fu si au ns jk jd js jt jn ef es el ev et eo) sz (ZX (va_A (wAll cI cJ cZ a px py td ld sl bd pw dt st uc sv tl so lm n nd ss rg hw ax fu si au ns jk jd js jt jn ef es el ev et eo) sz)))) (va_Qi (fun (r : Int32) (_ : Unit) => E_pass x1 td = 0 ∧ r = td + x1) (fun _ t => va_P D vwCl (wAll cI cJ cZ a (F_drifts px ((tn + ix x1) / 50 - tn / 50)) py (td + x1) ld sl bd pw dt (F_lapSt st tl so (td + x1) n) uc (F_lapSv st sv tl so (td + x1) n) tl so lm n nd ss rg hw ax fu si au ns jk jd js jt jn ef es el ev et eo) t.heap) (va_A (wAll cI cJ cZ a px py td ld sl bd pw dt st uc sv tl so lm n nd ss rg hw ax fu si au ns jk jd js jt jn ef es el ev et eo) sz)) (vx_X (fun _ : Unit => True) (fun E _ t => zER zA zS zS (E_pass x1 td) E ∧ va_P D vwCl (wAll cI cJ cZ a px py td ld sl bd pw dt st uc sv tl so lm n nd ss rg hw ax fu si au ns jk jd js jt jn ef es el ev et eo) t.heap) (va_A (wAll cI cJ cZ a px py td ld sl bd pw dt st uc sv tl so lm n nd ss rg hw ax fu si au ns jk jd js jt jn ef es el ev et eo) sz)) (va_A (wAll cI cJ cZ a px py td ld sl bd pw dt st uc sv tl so lm n nd ss rg hw ax fu si au ns jk jd js jt jn ef es el ev et eo) sz) := by
  refine zx_ofW (cc := cX4_pass) (maxL := 5) (ret := (some .int)) (by decide) rfl ?_
  intro p e s m args below meth c s₁ B hml hno hv
  obtain ⟨rfl, hsz, hP, hK, hD0, hE⟩ := hv
  have hx := B.exec
  have hb := B.bytes
  have hr := B.returns
  have hts := atoms_spec (ws := wsX4_pass) B.pre
  have hown : s.vm.findClass RX4 = some m.cls := findClass_of_methodNamed B.named
  have hlocks := B.notSynchronized
  subst hsz
  have hD := hD0.self (sz := s.heap.size)
  generalize hAe : va_A (wAll cI cJ cZ a px py td ld sl bd pw dt st uc sv tl so lm n nd ss rg hw ax fu si au ns jk jd js jt jn ef es el ev et eo) s.heap.size = A at hD hE ⊢
  have hA : ∀ q : Nat, s.heap.size ≤ q → A q := fun q h => by rw [← hAe]; exact Or.inr h
  have hS : va_S A s.heap s.heap [] := va_S.rf
  have hl := lv_entry ([.ref (a 0), .int x1]) (n := 5) (Nat.le_of_ble_eq_true rfl)
  rw [lg_entry_eq]
  generalize (lg_sl ([.ref (a 0), .int x1]) ++ List.replicate (5 - (lg_sl ([.ref (a 0), .int x1])).length) Slot.unset).toArray = ls at hl ⊢
  have hl : lv_has ls 5 [(0, .ref (a 0)), (1, .int x1)] := hl
  have hP : va_P D vwCl (wAll cI cJ cZ a px py td ld sl bd pw dt st uc sv tl so lm n nd ss rg hw ax fu si au ns jk jd js jt jn ef es el ev et eo) s.heap := hP
  refine lv_iload_n hx hb dX4_pass_0 rfl (lv_at hl 1 rfl) ?_
  refine lv_iconst (v := 1) hx hb dX4_pass_1 (by decide) ?_
  refine lv_icmp_lt (tgt := 12) hx hb dX4_pass_2 (by decide) (fun c_1 => ?_) (fun c_1 => ?_)
  · have q_2 : F_in x1 1 400 = 0 := F_in_0a c_1
    exact zx_thrS (X := zA) (text := "days are out of range") hx hb hflg hts hown (by decide +kernel) k_X4_pass_1 k_X4_pass_2 b_X4_pass_vx_atSRX487javalangIlleg zn_A zg_A hE.2.1.2.1.2.1 (by decide +kernel) hE hS (hl.1.trans hml.symm) dX4_pass_12 dX4_pass_15 dX4_pass_16 dX4_pass_18 dX4_pass_21 hno (Nat.le_of_ble_eq_true rfl) (Nat.le_of_ble_eq_true rfl) (Nat.le_of_ble_eq_true rfl) (Nat.le_of_ble_eq_true rfl) hlocks (fun t ht h1 h2 => ⟨(), trivial, ⟨(z_er1 (by first | with_reducible rfl | (simp only [E_pass, if_pos c_1, if_pos q_2]; done) | (simp +decide only [E_pass, if_pos c_1, if_pos q_2]; done) | (simp [E_pass, c_1, q_2]; done) | (simp +decide [E_pass, c_1, q_2]; done))), z_keepX hP h1 h2⟩, z_Fx hS h1 h2⟩) hS.2.2 rfl rfl
  · refine lv_iload_n hx hb dX4_pass_5 rfl (lv_at hl 1 rfl) ?_
    refine lv_sipush (v := 400) hx hb dX4_pass_6 (by decide) ?_
    refine lv_icmp_le (tgt := 22) hx hb dX4_pass_9 (by decide) (fun c_3 => ?_) (fun c_3 => ?_)
    · have q_4 : ¬ F_in x1 1 400 = 0 := F_in_1 c_1 (fun q => z_nle.mpr q c_3)
      obtain ⟨g_x1, g_x1b, g_x1c⟩ := F_in_natL 401 q_4 (by decide) (by decide)
      refine lv_aload_n hx hb dX4_pass_22 rfl (lv_at hl 0 rfl) ?_
      refine z_get (ci := 4) (C := RX4) (T := TX4) (N := 7) hx hb hts b_X4_pass_wsX40 hown hK hP 0 rfl rfl 6 (by decide) (hts _ k_X4_pass_5) rfl (.int td) rfl dX4_pass_23 ?_
      refine lv_iload_n hx hb dX4_pass_26 rfl (lv_at hl 1 rfl) ?_
      refine lv_iadd hx hb dX4_pass_27 ?_
      refine lv_sipush (v := 5000) hx hb dX4_pass_28 (by decide) ?_
      refine lv_icmp_le (tgt := 44) hx hb dX4_pass_31 (by decide) (fun c_5 => ?_) (fun c_5 => ?_)
      · have f_5 := z_leN (a := (tn + (ix x1))) (b := 5000) c_5 (z_iadd ht g_x1) (by decide) (by omega) (by omega)
        have f_5n := Nat.not_lt.mpr f_5
        refine lv_aload_n hx hb dX4_pass_44 rfl (lv_at hl 0 rfl) ?_
        refine z_get (ci := 4) (C := RX4) (T := TX4) (N := 7) hx hb hts b_X4_pass_wsX40 hown hK hP 0 rfl rfl 6 (by decide) (hts _ k_X4_pass_5) rfl (.int td) rfl dX4_pass_45 ?_
        refine lv_bipush (v := 50) hx hb dX4_pass_48 (by decide) ?_
        refine lv_idiv hx hb dX4_pass_50 (by decide) ?_
        refine lv_istore_n (lv' := [(2, .int (td / 50)), (0, .ref (a 0)), (1, .int x1)]) hx hb dX4_pass_51 rfl hl (by decide) rfl (fun ls hl => ?_)
        refine lv_aload_n hx hb dX4_pass_52 rfl (lv_at hl 1 rfl) ?_
        refine lv_dup hx hb dX4_pass_53 rfl ?_
        refine z_get (ci := 4) (C := RX4) (T := TX4) (N := 7) hx hb hts b_X4_pass_wsX40 hown hK hP 0 rfl rfl 6 (by decide) (hts _ k_X4_pass_5) rfl (.int td) rfl dX4_pass_54 ?_
        refine lv_iload_n hx hb dX4_pass_57 rfl (lv_at hl 2 rfl) ?_
        refine lv_iadd hx hb dX4_pass_58 ?_
        refine z_put (ci := 4) (C := RX4) (T := TX4) (N := 7) hx hb hts b_X4_pass_wsX40 tyX4 tyX4_ok nmX4 hown hK hP hD hS 0 rfl rfl 6 (by decide) (hts _ k_X4_pass_5) rfl rfl (by decide +kernel) (Nat.le_of_ble_eq_true rfl) dX4_pass_59 (wAll cI cJ cZ a px py (td + x1) ld sl bd pw dt st uc sv tl so lm n nd ss rg hw ax fu si au ns jk jd js jt jn ef es el ev et eo) rfl (fun H locs hP hD hS => ?_)
        refine lv_aload_n hx hb dX4_pass_62 rfl (lv_at hl 1 rfl) ?_
        refine z_get (ci := 4) (C := RX4) (T := TX4) (N := 7) hx hb hts b_X4_pass_wsX40 hown hK hP 0 rfl rfl 6 (by decide) (hts _ k_X4_pass_5) rfl (.int (td + x1)) rfl dX4_pass_63 ?_
        refine lv_bipush (v := 50) hx hb dX4_pass_66 (by decide) ?_
        refine lv_idiv hx hb dX4_pass_68 (by decide) ?_
        refine lv_istore_n (lv' := [(3, .int ((td + x1) / 50)), (2, .int (td / 50)), (0, .ref (a 0)), (1, .int x1)]) hx hb dX4_pass_69 rfl hl (by decide) rfl (fun ls hl => ?_)
        refine lv_iload_n hx hb dX4_pass_70 rfl (lv_at hl 1 rfl) ?_
        refine lv_istore (lv' := [(4, .int (td / 50)), (3, .int ((td + x1) / 50)), (2, .int (td / 50)), (0, .ref (a 0)), (1, .int x1)]) hx hb dX4_pass_71 hl (by decide) rfl (fun ls hl => ?_)
        have e_wpx : F_drifts px 0 = px := by rfl
        have hP : va_P D vwCl (wAll cI cJ cZ a (F_drifts px 0) py (td + x1) ld sl bd pw dt st uc sv tl so lm n nd ss rg hw ax fu si au ns jk jd js jt jn ef es el ev et eo) H := by rw [e_wpx]; exact hP
        have e_l4 : (nI (tn / 50 + 0)) = td / 50 := by rw [Nat.add_zero]; exact (z_idivN (b := 50) ht (by decide) (by omega) (by decide) (by decide)).symm
        have hl : lv_has ls 5 [(4, .int (nI (tn / 50 + 0))), (3, .int ((td + x1) / 50)), (2, .int (td / 50)), (0, .ref (a 0)), (1, .int x1)] := by rw [e_l4]; exact lv_sub hl [0, 1, 2, 3, 4] rfl
        refine z_loop (D := D) (A := A) (H0 := s.heap) (N := ((tn + ix x1) / 50 - tn / 50)) (Wf := fun i => (wAll cI cJ cZ a (F_drifts px i) py (td + x1) ld sl bd pw dt st uc sv tl so lm n nd ss rg hw ax fu si au ns jk jd js jt jn ef es el ev et eo)) (lvf := fun i => [(4, .int (nI (tn / 50 + i))), (3, .int ((td + x1) / 50)), (2, .int (td / 50)), (0, .ref (a 0)), (1, .int x1)]) (Inv := fun i => True) 0 (by omega) trivial hP hS hl (fun i hi hinv H locs ls hP hS hl ih => ?_)
        have hP : va_P D vwCl (wAll cI cJ cZ a (F_drifts px i) py (td + x1) ld sl bd pw dt st uc sv tl so lm n nd ss rg hw ax fu si au ns jk jd js jt jn ef es el ev et eo) H := hP
        have hD : va_D A (wAll cI cJ cZ a (F_drifts px i) py (td + x1) ld sl bd pw dt st uc sv tl so lm n nd ss rg hw ax fu si au ns jk jd js jt jn ef es el ev et eo) := zD_congr (w1 := (wAll cI cJ cZ a px py (td + x1) ld sl bd pw dt st uc sv tl so lm n nd ss rg hw ax fu si au ns jk jd js jt jn ef es el ev et eo)) rfl hD
        have hl : lv_has ls 5 [(4, .int (nI (tn / 50 + i))), (3, .int ((td + x1) / 50)), (2, .int (td / 50)), (0, .ref (a 0)), (1, .int x1)] := hl
        have hinv : True := hinv
        refine lv_iload hx hb dX4_pass_73 (lv_at hl 0 rfl) ?_
        refine lv_iload_n hx hb dX4_pass_75 rfl (lv_at hl 1 rfl) ?_
        refine lv_icmp_ge (tgt := 89) hx hb dX4_pass_76 (by decide) (fun c_6 => ?_) (fun c_6 => ?_)
        · have f_6 := z_leN (a := ((tn + (ix x1)) / 50)) (b := (tn / 50 + i)) c_6 (z_idivN (z_iadd ht g_x1) (by decide) (by omega) (by decide) (by decide)) rfl (by omega) (by omega)
          have f_6n := Nat.not_lt.mpr f_6
          obtain rfl : ((tn + ix x1) / 50 - tn / 50) = i := by omega
          refine lv_aload_n hx hb dX4_pass_89 rfl (lv_at hl 3 rfl) ?_
          refine z_get (ci := 4) (C := RX4) (T := TX4) (N := 7) hx hb hts b_X4_pass_wsX40 hown hK hP 0 rfl rfl 0 (by decide) (hts _ k_X4_pass_6) rfl (.ref (a 3)) rfl dX4_pass_90 ?_
          refine lv_aload_n hx hb dX4_pass_93 rfl (lv_at hl 3 rfl) ?_
          refine z_get (ci := 4) (C := RX4) (T := TX4) (N := 7) hx hb hts b_X4_pass_wsX40 hown hK hP 0 rfl rfl 6 (by decide) (hts _ k_X4_pass_5) rfl (.int (td + x1)) rfl dX4_pass_94 ?_
          refine z_cv (pre := (wOr cI cJ cZ a (F_drifts px ((tn + ix x1) / 50 - tn / 50)) py (td + x1))) (wc := (wFi cI cJ cZ a ld sl bd pw dt st uc sv tl so lm n nd)) (suf := ((wSa cI cJ cZ a ss rg hw ax fu si au ns) ++ ((wJo cI cJ cZ a jk jd js jt jn) ++ (wEx cI cJ cZ a ef es el ev et eo)))) (w1 := fun _ => (wFi cI cJ cZ a ld sl bd pw dt (F_lapSt st tl so (td + x1) n) uc (F_lapSv st sv tl so (td + x1) n) tl so lm n nd)) (va_runV (As := [.int (td + x1)]) (rest := []) ⟨hx, hb, hml, hown, hts⟩ (c_X1_lapseThoseDue l D cI cJ cZ a H.size ld sl bd pw dt st uc sv tl so lm n nd (td + x1) (by first | assumption | omega)) (cwV 1 hts gX4_pass_X1_lapseThoseDue rfl rfl rfl (by decide +kernel) ⟨Nat.le_of_ble_eq_true rfl, Nat.le_of_ble_eq_true rfl⟩) (z_pv hK (zP_mid (pre := (wOr cI cJ cZ a (F_drifts px ((tn + ix x1) / 50 - tn / 50)) py (td + x1))) (wc := (wFi cI cJ cZ a ld sl bd pw dt st uc sv tl so lm n nd)) (suf := ((wSa cI cJ cZ a ss rg hw ax fu si au ns) ++ ((wJo cI cJ cZ a jk jd js jt jn) ++ (wEx cI cJ cZ a ef es el ev et eo)))) hP) (zD_mid (pre := (wOr cI cJ cZ a (F_drifts px ((tn + ix x1) / 50 - tn / 50)) py (td + x1))) (wc := (wFi cI cJ cZ a ld sl bd pw dt st uc sv tl so lm n nd)) (suf := ((wSa cI cJ cZ a ss rg hw ax fu si au ns) ++ ((wJo cI cJ cZ a jk jd js jt jn) ++ (wEx cI cJ cZ a ef es el ev et eo)))) hD) (q0 := 0) (ci := 1) rfl rfl ZN_b (ZN_m hE.1)) rfl rfl hl.1 rfl (lv_room (Nat.le_of_ble_eq_true rfl)) dX4_pass_97 ⟨Nat.le_of_ble_eq_true rfl, Nat.le_of_ble_eq_true rfl⟩) hP hD hS hA (fun _ => rfl) (fun _ H locs hr_7 hP hD hS => ?_)
          have hP : va_P D vwCl (wAll cI cJ cZ a (F_drifts px ((tn + ix x1) / 50 - tn / 50)) py (td + x1) ld sl bd pw dt (F_lapSt st tl so (td + x1) n) uc (F_lapSv st sv tl so (td + x1) n) tl so lm n nd ss rg hw ax fu si au ns jk jd js jt jn ef es el ev et eo) H := hP
          have hD : va_D A (wAll cI cJ cZ a (F_drifts px ((tn + ix x1) / 50 - tn / 50)) py (td + x1) ld sl bd pw dt (F_lapSt st tl so (td + x1) n) uc (F_lapSv st sv tl so (td + x1) n) tl so lm n nd ss rg hw ax fu si au ns jk jd js jt jn ef es el ev et eo) := hD
          refine lv_aload_n hx hb dX4_pass_100 rfl (lv_at hl 3 rfl) ?_
          refine z_get (ci := 4) (C := RX4) (T := TX4) (N := 7) hx hb hts b_X4_pass_wsX40 hown hK hP 0 rfl rfl 6 (by decide) (hts _ k_X4_pass_5) rfl (.int (td + x1)) rfl dX4_pass_101 ?_
          exact zx_ret (W.iret (v := td + x1) hx hb hr (fun t ht hW => ⟨⟨td + x1, (), rfl, ⟨(by first | with_reducible rfl | (simp only [E_pass, if_neg c_1, if_pos c_3, if_neg q_4, if_pos c_5, if_pos f_5, if_neg f_5n, if_pos c_6, if_pos f_6, if_neg f_6n]; done) | (simp +decide only [E_pass, f_5, f_6, if_neg c_1, if_pos c_3, if_neg q_4, if_pos c_5, if_pos f_5, if_neg f_5n, if_pos c_6, if_pos f_6, if_neg f_6n]; done) | (simp [E_pass, c_1, c_3, q_4, c_5, f_5, f_5n, c_6, f_6, f_6n, f_5, f_6]; done) | (simp +decide [E_pass, c_1, c_3, q_4, c_5, f_5, f_5n, c_6, f_6, f_6n, f_5, f_6]; done)), rfl⟩, (z_at ht hP)⟩, hS.F ht⟩) hS.2.2 dX4_pass_104)
        · have f_6 := z_nleN (a := ((tn + (ix x1)) / 50)) (b := (tn / 50 + i)) c_6 (z_idivN (z_iadd ht g_x1) (by decide) (by omega) (by decide) (by decide)) rfl (by omega) (by omega)
          have f_6n := Nat.not_le.mpr f_6
          refine lv_aload_n hx hb dX4_pass_79 rfl (lv_at hl 3 rfl) ?_
          refine z_cv (pre := ([] : va_W)) (wc := (wOr cI cJ cZ a (F_drifts px i) py (td + x1))) (suf := ((wFi cI cJ cZ a ld sl bd pw dt st uc sv tl so lm n nd) ++ ((wSa cI cJ cZ a ss rg hw ax fu si au ns) ++ ((wJo cI cJ cZ a jk jd js jt jn) ++ (wEx cI cJ cZ a ef es el ev et eo))))) (w1 := fun _ => (wOr cI cJ cZ a (F_drift (F_drifts px i)) py (td + x1))) (va_runV (As := []) (rest := []) ⟨hx, hb, hml, hown, hts⟩ (c_X4_driftPieces l D cI cJ cZ a H.size (F_drifts px i) py (td + x1)) (cwV 0 hts gX4_pass_X4_driftPieces rfl rfl rfl (by decide +kernel) ⟨Nat.le_of_ble_eq_true rfl, Nat.le_of_ble_eq_true rfl⟩) (z_pv hK (zP_mid (pre := ([] : va_W)) (wc := (wOr cI cJ cZ a (F_drifts px i) py (td + x1))) (suf := ((wFi cI cJ cZ a ld sl bd pw dt st uc sv tl so lm n nd) ++ ((wSa cI cJ cZ a ss rg hw ax fu si au ns) ++ ((wJo cI cJ cZ a jk jd js jt jn) ++ (wEx cI cJ cZ a ef es el ev et eo))))) hP) (zD_mid (pre := ([] : va_W)) (wc := (wOr cI cJ cZ a (F_drifts px i) py (td + x1))) (suf := ((wFi cI cJ cZ a ld sl bd pw dt st uc sv tl so lm n nd) ++ ((wSa cI cJ cZ a ss rg hw ax fu si au ns) ++ ((wJo cI cJ cZ a jk jd js jt jn) ++ (wEx cI cJ cZ a ef es el ev et eo))))) hD) (q0 := 0) (ci := 4) rfl rfl zT_b zT_m) rfl rfl hl.1 rfl (lv_room (Nat.le_of_ble_eq_true rfl)) dX4_pass_80 ⟨Nat.le_of_ble_eq_true rfl, Nat.le_of_ble_eq_true rfl⟩) hP hD hS hA (fun _ => rfl) (fun _ H locs hr_8 hP hD hS => ?_)
          have hP : va_P D vwCl (wAll cI cJ cZ a (F_drift (F_drifts px i)) py (td + x1) ld sl bd pw dt st uc sv tl so lm n nd ss rg hw ax fu si au ns jk jd js jt jn ef es el ev et eo) H := hP
          have hD : va_D A (wAll cI cJ cZ a (F_drift (F_drifts px i)) py (td + x1) ld sl bd pw dt st uc sv tl so lm n nd ss rg hw ax fu si au ns jk jd js jt jn ef es el ev et eo) := hD
          refine lv_iinc (v := nI ((tn / 50 + i) + 1)) (lv' := [(4, .int (nI ((tn / 50 + i) + 1))), (3, .int ((td + x1) / 50)), (2, .int (td / 50)), (0, .ref (a 0)), (1, .int x1)]) hx hb dX4_pass_83 hl (k := 0) rfl (z_inc1 (tn / 50 + i)) (by decide) rfl (fun ls hl => ?_)
          refine lv_goto (tgt := 73) hx hb dX4_pass_86 (by decide) ?_
          have e_wpx : F_drifts px (i + 1) = F_drift (F_drifts px i) := by rfl
          have hP : va_P D vwCl (wAll cI cJ cZ a (F_drifts px (i + 1)) py (td + x1) ld sl bd pw dt st uc sv tl so lm n nd ss rg hw ax fu si au ns jk jd js jt jn ef es el ev et eo) H := by rw [e_wpx]; exact hP
          have e_l4 : (nI (tn / 50 + (i + 1))) = nI ((tn / 50 + i) + 1) := by rfl
          have hl : lv_has ls 5 [(4, .int (nI (tn / 50 + (i + 1)))), (3, .int ((td + x1) / 50)), (2, .int (td / 50)), (0, .ref (a 0)), (1, .int x1)] := by rw [e_l4]; exact lv_sub hl [0, 1, 2, 3, 4] rfl
          exact ih H locs ls (by omega) trivial hP hS hl
      · have f_5 := z_nleN (a := (tn + (ix x1))) (b := 5000) c_5 (z_iadd ht g_x1) (by decide) (by omega) (by omega)
        have f_5n := Nat.not_le.mpr f_5
        exact zx_thrS (X := zS) (text := "it would be above day 5000") hx hb hflg hts hown (by decide +kernel) k_X4_pass_3 k_X4_pass_4 b_X4_pass_vx_atSRX469javalangIlleg zn_S zg_S hE.2.1.2.1.2.2 (by decide +kernel) hE hS (hl.1.trans hml.symm) dX4_pass_34 dX4_pass_37 dX4_pass_38 dX4_pass_40 dX4_pass_43 hno (Nat.le_of_ble_eq_true rfl) (Nat.le_of_ble_eq_true rfl) (Nat.le_of_ble_eq_true rfl) (Nat.le_of_ble_eq_true rfl) hlocks (fun t ht h1 h2 => ⟨(), trivial, ⟨(z_er2 (by first | with_reducible rfl | (simp only [E_pass, if_neg c_1, if_pos c_3, if_neg q_4, if_neg c_5, if_pos f_5, if_neg f_5n]; done) | (simp +decide only [E_pass, f_5, if_neg c_1, if_pos c_3, if_neg q_4, if_neg c_5, if_pos f_5, if_neg f_5n]; done) | (simp [E_pass, c_1, c_3, q_4, c_5, f_5, f_5n, f_5]; done) | (simp +decide [E_pass, c_1, c_3, q_4, c_5, f_5, f_5n, f_5]; done))), z_keepX hP h1 h2⟩, z_Fx hS h1 h2⟩) hS.2.2 rfl rfl
    · have q_9 : F_in x1 1 400 = 0 := F_in_0b (z_nle.mp c_3)
      exact zx_thrS (X := zA) (text := "days are out of range") hx hb hflg hts hown (by decide +kernel) k_X4_pass_1 k_X4_pass_2 b_X4_pass_vx_atSRX487javalangIlleg zn_A zg_A hE.2.1.2.1.2.1 (by decide +kernel) hE hS (hl.1.trans hml.symm) dX4_pass_12 dX4_pass_15 dX4_pass_16 dX4_pass_18 dX4_pass_21 hno (Nat.le_of_ble_eq_true rfl) (Nat.le_of_ble_eq_true rfl) (Nat.le_of_ble_eq_true rfl) (Nat.le_of_ble_eq_true rfl) hlocks (fun t ht h1 h2 => ⟨(), trivial, ⟨(z_er1 (by first | with_reducible rfl | (simp only [E_pass, if_neg c_1, if_neg c_3, if_pos q_9]; done) | (simp +decide only [E_pass, if_neg c_1, if_neg c_3, if_pos q_9]; done) | (simp [E_pass, c_1, c_3, q_9]; done) | (simp +decide [E_pass, c_1, c_3, q_9]; done))), z_keepX hP h1 h2⟩, z_Fx hS h1 h2⟩) hS.2.2 rfl rfl
theorem k_X4_day_1 : (Cond.fieldLink RX4 45 "Orbitregister" "today" "I") ∈ wsX4_day := List.mem_of_getElem? (i := 1) rfl
theorem b_X4_day_wsX40 : ∀ w ∈ wsX40, w ∈ wsX4_day := fun _ h => List.mem_cons_of_mem _ (List.mem_append_right _ h)
set_option maxHeartbeats 4000000 in
set_option maxRecDepth 100000 in
theorem c_X4_day (l : Launch) (D : va_G) (cI cJ cZ : ClassId) (a : Nat → Nat) (sz : Nat) (px : A32) (py : A64) (td : Int32) (ld : A32) (sl : A32) (bd : A32) (pw : A32) (dt : A32) (st : A32) (uc : A32) (sv : A32) (tl : A32) (so : A32) (lm : A32) (n : Nat) (nd : Int32) (ss : A32) (rg : A32) (hw : A32) (ax : A32) (fu : A32) (si : A32) (au : A32) (ns : Nat) (jk : A32) (jd : A32) (js : A32) (jt : A32) (jn : Nat) (ef : Int32) (es : Int32) (el : Int32) (ev : Int32) (et : Int32) (eo : Int32) : Met l yX4_day wsX4_day ({ frames := 0, cells := 0, slots := 0, locals := 0 }) (va_Pc [.ref (a 0)] (ZP D (zt cI cJ cZ) (wAll cI cJ cZ a px py td ld sl bd pw dt st uc sv tl so lm n nd ss rg hw ax fu si au ns jk jd js jt jn ef es el ev et eo) sz zT)) (va_Qi (fun (r : Int32) (_ : Unit) => r = td) (fun _ _ => True) (va_A [] sz)) 0 0 (va_A [] sz) := by
  refine Met.ofW (cc := cX4_day) (maxL := 1) (ret := (some .int)) (by decide) rfl ?_
  intro p e s m args below meth c s₁ B hml hv
  obtain ⟨rfl, hsz, hP, hK, hD0, hE⟩ := hv
  have hx := B.exec
  have hb := B.bytes
  have hr := B.returns
  have hts := atoms_spec (ws := wsX4_day) B.pre
  have hown : s.vm.findClass RX4 = some m.cls := findClass_of_methodNamed B.named
  have hlocks := B.notSynchronized
  subst hsz
  have hD := hD0
  generalize hAe : va_A [] s.heap.size = A at ⊢
  have hA : ∀ q : Nat, s.heap.size ≤ q → A q := fun q h => by rw [← hAe]; exact Or.inr h
  have hS : va_S A s.heap s.heap [] := va_S.rf
  have hl := lv_entry ([.ref (a 0)]) (n := 1) (Nat.le_of_ble_eq_true rfl)
  rw [lg_entry_eq]
  generalize (lg_sl ([.ref (a 0)]) ++ List.replicate (1 - (lg_sl ([.ref (a 0)])).length) Slot.unset).toArray = ls at hl ⊢
  have hl : lv_has ls 1 [(0, .ref (a 0))] := hl
  have hP : va_P D vwCl (wAll cI cJ cZ a px py td ld sl bd pw dt st uc sv tl so lm n nd ss rg hw ax fu si au ns jk jd js jt jn ef es el ev et eo) s.heap := hP
  refine lv_aload_n hx hb dX4_day_0 rfl (lv_at hl 0 rfl) ?_
  refine z_get (ci := 4) (C := RX4) (T := TX4) (N := 7) hx hb hts b_X4_day_wsX40 hown hK hP 0 rfl rfl 6 (by decide) (hts _ k_X4_day_1) rfl (.int td) rfl dX4_day_1 ?_
  exact W.iret (v := td) hx hb hr (fun t ht hW => ⟨⟨td, (), rfl, rfl, trivial⟩, hS.F ht⟩) hS.2.2 dX4_day_4
theorem k_X4_filingOf_1 : (Cond.classLink RX4 83 "java/lang/IllegalArgumentException") ∈ wsX4_filingOf := List.mem_of_getElem? (i := 1) rfl
theorem k_X4_filingOf_2 : (Cond.initialized "java/lang/IllegalArgumentException") ∈ wsX4_filingOf := List.mem_of_getElem? (i := 2) rfl
theorem b_X4_filingOf_vx_atSRX487javalangIlleg : ∀ w ∈ (vx_atS RX4 87 "java/lang/IllegalArgumentException" ["java/lang/RuntimeException", "java/lang/Exception"]).filter goodWord, w ∈ wsX4_filingOf := fun _ h => List.mem_cons_of_mem _ (List.mem_append_left _ (List.mem_append_right _ h))
theorem k_X4_filingOf_3 : (Cond.fieldLink RX4 10 "Orbitregister" "filings" "LOrbitregister$Filings;") ∈ wsX4_filingOf := List.mem_of_getElem? (i := 3) rfl
theorem b_X4_filingOf_wsX40 : ∀ w ∈ wsX40, w ∈ wsX4_filingOf := fun _ h => List.mem_cons_of_mem _ (List.mem_append_left _ (List.mem_append_left _ (List.mem_append_left _ (List.mem_append_right _ h))))
theorem k_X4_filingOf_4 : (Cond.fieldLink RX4 242 "Orbitregister$Filings" "land" "[I") ∈ wsX4_filingOf := List.mem_of_getElem? (i := 4) rfl
theorem b_X4_filingOf_wsX10 : ∀ w ∈ wsX10, w ∈ wsX4_filingOf := fun _ h => List.mem_cons_of_mem _ (List.mem_append_left _ (List.mem_append_left _ (List.mem_append_right _ h)))
theorem k_X4_filingOf_5 : (Cond.fieldLink RX4 128 "Orbitregister$Filings" "slot" "[I") ∈ wsX4_filingOf := List.mem_of_getElem? (i := 5) rfl
theorem k_X4_filingOf_6 : (Cond.fieldLink RX4 93 "Orbitregister$Filings" "band" "[I") ∈ wsX4_filingOf := List.mem_of_getElem? (i := 6) rfl
theorem k_X4_filingOf_7 : (Cond.fieldLink RX4 135 "Orbitregister$Filings" "power" "[I") ∈ wsX4_filingOf := List.mem_of_getElem? (i := 7) rfl
theorem k_X4_filingOf_8 : (Cond.fieldLink RX4 245 "Orbitregister$Filings" "date" "[I") ∈ wsX4_filingOf := List.mem_of_getElem? (i := 8) rfl
theorem k_X4_filingOf_9 : (Cond.fieldLink RX4 106 "Orbitregister$Filings" "state" "[I") ∈ wsX4_filingOf := List.mem_of_getElem? (i := 9) rfl
theorem k_X4_filingOf_10 : (Cond.fieldLink RX4 117 "Orbitregister$Filings" "isUnclear" "[Z") ∈ wsX4_filingOf := List.mem_of_getElem? (i := 10) rfl
theorem k_X4_filingOf_11 : (Cond.fieldLink RX4 157 "Orbitregister$Filings" "server" "[I") ∈ wsX4_filingOf := List.mem_of_getElem? (i := 11) rfl
theorem k_X4_filingOf_12 : (Cond.fieldLink RX4 248 "Orbitregister$Filings" "toldOn" "[I") ∈ wsX4_filingOf := List.mem_of_getElem? (i := 12) rfl
theorem k_X4_filingOf_13 : (Cond.fieldLink RX4 251 "Orbitregister$Filings" "suspendedOn" "[I") ∈ wsX4_filingOf := List.mem_of_getElem? (i := 13) rfl
set_option maxHeartbeats 4000000 in
set_option maxRecDepth 100000 in
theorem c_X4_filingOf (l : Launch) (hflg : l.stackTraces = false) (D : va_G) (cI cJ cZ : ClassId) (a : Nat → Nat) (sz : Nat) (px : A32) (py : A64) (td : Int32) (ld : A32) (sl : A32) (bd : A32) (pw : A32) (dt : A32) (st : A32) (uc : A32) (sv : A32) (tl : A32) (so : A32) (lm : A32) (n : Nat) (nd : Int32) (ss : A32) (rg : A32) (hw : A32) (ax : A32) (fu : A32) (si : A32) (au : A32) (ns : Nat) (jk : A32) (jd : A32) (js : A32) (jt : A32) (jn : Nat) (ef : Int32) (es : Int32) (el : Int32) (ev : Int32) (et : Int32) (eo : Int32) (x1 : Int32) (x2 : Int32) (hn : n ≤ 40) : zx_Met l yX4_filingOf wsX4_filingOf ({ frames := 7, cells := 1, slots := 6, locals := 103 }) (va_Pc [.ref (a 0), .int x1, .int x2] (ZP D (zt cI cJ cZ) (wAll cI cJ cZ a px py td ld sl bd pw dt st uc sv tl so lm n nd ss rg hw ax fu si au ns jk jd js jt jn ef es el ev et eo) sz (ZX (va_A (wAll cI cJ cZ a px py td ld sl bd pw dt st uc sv tl so lm n nd ss rg hw ax fu si au ns jk jd js jt jn ef es el ev et eo) sz)))) (va_Qi (fun (r : Int32) (_ : Unit) => E_filingOf x1 x2 n = 0 ∧ r = F_fof ld sl bd pw dt st uc sv tl so (ix x1) (ix x2)) (fun _ t => va_P D vwCl (wAll cI cJ cZ a px py td ld sl bd pw dt st uc sv tl so lm n nd ss rg hw ax fu si au ns jk jd js jt jn ef es el ev et eo) t.heap) (va_A (wAll cI cJ cZ a px py td ld sl bd pw dt st uc sv tl so lm n nd ss rg hw ax fu si au ns jk jd js jt jn ef es el ev et eo) sz)) (vx_X (fun _ : Unit => True) (fun E _ t => zER zI zA zS (E_filingOf x1 x2 n) E ∧ va_P D vwCl (wAll cI cJ cZ a px py td ld sl bd pw dt st uc sv tl so lm n nd ss rg hw ax fu si au ns jk jd js jt jn ef es el ev et eo) t.heap) (va_A (wAll cI cJ cZ a px py td ld sl bd pw dt st uc sv tl so lm n nd ss rg hw ax fu si au ns jk jd js jt jn ef es el ev et eo) sz)) (va_A (wAll cI cJ cZ a px py td ld sl bd pw dt st uc sv tl so lm n nd ss rg hw ax fu si au ns jk jd js jt jn ef es el ev et eo) sz) := by
  refine zx_ofW (cc := cX4_filingOf) (maxL := 3) (ret := (some .int)) (by decide) rfl ?_
  intro p e s m args below meth c s₁ B hml hno hv
  obtain ⟨rfl, hsz, hP, hK, hD0, hE⟩ := hv
  have hx := B.exec
  have hb := B.bytes
  have hr := B.returns
  have hts := atoms_spec (ws := wsX4_filingOf) B.pre
  have hown : s.vm.findClass RX4 = some m.cls := findClass_of_methodNamed B.named
  have hlocks := B.notSynchronized
  subst hsz
  have hD := hD0.self (sz := s.heap.size)
  generalize hAe : va_A (wAll cI cJ cZ a px py td ld sl bd pw dt st uc sv tl so lm n nd ss rg hw ax fu si au ns jk jd js jt jn ef es el ev et eo) s.heap.size = A at hD hE ⊢
  have hA : ∀ q : Nat, s.heap.size ≤ q → A q := fun q h => by rw [← hAe]; exact Or.inr h
  have hS : va_S A s.heap s.heap [] := va_S.rf
  have hl := lv_entry ([.ref (a 0), .int x1, .int x2]) (n := 3) (Nat.le_of_ble_eq_true rfl)
  rw [lg_entry_eq]
  generalize (lg_sl ([.ref (a 0), .int x1, .int x2]) ++ List.replicate (3 - (lg_sl ([.ref (a 0), .int x1, .int x2])).length) Slot.unset).toArray = ls at hl ⊢
  have hl : lv_has ls 3 [(0, .ref (a 0)), (1, .int x1), (2, .int x2)] := hl
  have hP : va_P D vwCl (wAll cI cJ cZ a px py td ld sl bd pw dt st uc sv tl so lm n nd ss rg hw ax fu si au ns jk jd js jt jn ef es el ev et eo) s.heap := hP
  refine lv_aload_n hx hb dX4_filingOf_0 rfl (lv_at hl 0 rfl) ?_
  refine lv_iload_n hx hb dX4_filingOf_1 rfl (lv_at hl 1 rfl) ?_
  refine zx_ck (ws := (wAll cI cJ cZ a px py td ld sl bd pw dt st uc sv tl so lm n nd ss rg hw ax fu si au ns jk jd js jt jn ef es el ev et eo)) (cond := F_in x1 0 (nI n - 1) = 0) (X := zI) (zx_runV (As := [.int x1]) (rest := []) ⟨hx, hb, hml, hown, hts⟩ (c_X4_checkFiling l hflg D cI cJ cZ a s.heap.size px py td ld sl bd pw dt st uc sv tl so lm n nd ss rg hw ax fu si au ns jk jd js jt jn ef es el ev et eo x1 (by first | assumption | omega)) (cwV 1 hts gX4_filingOf_X4_checkFiling rfl rfl rfl (by decide +kernel) ⟨Nat.le_of_ble_eq_true rfl, Nat.le_of_ble_eq_true rfl⟩) (z_pv hK hP hD (q0 := 0) (ci := 4) rfl rfl ZX_b (ZX_m hE hS (z_free0 hS hA))) rfl rfl hl.1 rfl (lv_room (Nat.le_of_ble_eq_true rfl)) dX4_filingOf_2 ⟨Nat.le_of_ble_eq_true rfl, Nat.le_of_ble_eq_true rfl⟩) hP hS hA hno hlocks rfl rfl (fun c_1 => (z_er1 (by first | with_reducible rfl | (simp only [E_filingOf, F_fof, if_pos c_1]; done) | (simp +decide only [E_filingOf, F_fof, if_pos c_1]; done) | (simp [E_filingOf, F_fof, c_1]; done) | (simp +decide [E_filingOf, F_fof, c_1]; done)))) (fun _ H locs c_1 hP hS => ?_)
  obtain ⟨g_x1, g_x1b⟩ := F_in_ix c_1 (by omega)
  refine lv_iload_n hx hb dX4_filingOf_5 rfl (lv_at hl 2 rfl) ?_
  refine lv_if_lt (tgt := 15) hx hb dX4_filingOf_6 (by decide) (fun c_2 => ?_) (fun c_2 => ?_)
  · have q_3 : F_in x2 0 8 = 0 := F_in_0a c_2
    exact zx_thrS (X := zA) (text := "what is out of range") hx hb hflg hts hown (by decide +kernel) k_X4_filingOf_1 k_X4_filingOf_2 b_X4_filingOf_vx_atSRX487javalangIlleg zn_A zg_A hE.2.1.2.1.2.1 (by decide +kernel) hE hS (hl.1.trans hml.symm) dX4_filingOf_15 dX4_filingOf_18 dX4_filingOf_19 dX4_filingOf_21 dX4_filingOf_24 hno (Nat.le_of_ble_eq_true rfl) (Nat.le_of_ble_eq_true rfl) (Nat.le_of_ble_eq_true rfl) (Nat.le_of_ble_eq_true rfl) hlocks (fun t ht h1 h2 => ⟨(), trivial, ⟨(z_er2 (by first | with_reducible rfl | (simp only [E_filingOf, F_fof, if_neg c_1, if_pos c_2, if_pos q_3]; done) | (simp +decide only [E_filingOf, F_fof, if_neg c_1, if_pos c_2, if_pos q_3]; done) | (simp [E_filingOf, F_fof, c_1, c_2, q_3]; done) | (simp +decide [E_filingOf, F_fof, c_1, c_2, q_3]; done))), z_keepX hP h1 h2⟩, z_Fx hS h1 h2⟩) hS.2.2 rfl rfl
  · refine lv_iload_n hx hb dX4_filingOf_9 rfl (lv_at hl 2 rfl) ?_
    refine lv_bipush (v := 8) hx hb dX4_filingOf_10 (by decide) ?_
    refine lv_icmp_le (tgt := 25) hx hb dX4_filingOf_12 (by decide) (fun c_4 => ?_) (fun c_4 => ?_)
    · have q_5 : ¬ F_in x2 0 8 = 0 := F_in_1 c_2 (fun q => z_nle.mpr q c_4)
      obtain ⟨g_x2, g_x2b⟩ := F_in_nat 9 q_5 (by decide)
      refine lv_iload_n hx hb dX4_filingOf_25 rfl (lv_at hl 2 rfl) ?_
      rcases (show ix x2 = 0 ∨ ix x2 = 1 ∨ ix x2 = 2 ∨ ix x2 = 3 ∨ ix x2 = 4 ∨ ix x2 = 5 ∨ ix x2 = 6 ∨ ix x2 = 7 ∨ ix x2 = 8 by omega) with k9 | k9 | k9 | k9 | k9 | k9 | k9 | k9 | k9
      · have e9 : x2 = nI 0 := by rw [g_x2, k9]
        refine lv_tableIn (off := 46) (tgt := 72) hx hb dX4_filingOf_26 (by rw [e9]; decide) (by rw [e9]; decide) (by rw [e9]; decide) (by decide) ?_
        refine lv_aload_n hx hb dX4_filingOf_72 rfl (lv_at hl 0 rfl) ?_
        refine z_get (ci := 4) (C := RX4) (T := TX4) (N := 7) hx hb hts b_X4_filingOf_wsX40 hown hK hP 0 rfl rfl 0 (by decide) (hts _ k_X4_filingOf_3) rfl (.ref (a 3)) rfl dX4_filingOf_73 ?_
        refine z_get (ci := 1) (C := RX1) (T := TX1) (N := 13) hx hb hts b_X4_filingOf_wsX10 hown hK hP 3 rfl rfl 0 (by decide) (hts _ k_X4_filingOf_4) rfl (.ref (a 4)) rfl dX4_filingOf_76 ?_
        refine lv_iload_n hx hb dX4_filingOf_79 rfl (lv_at hl 1 rfl) ?_
        refine z_iald hx hb hK hP 4 0 rfl rfl (ix x1) g_x1 (by omega) rfl dX4_filingOf_80 ?_
        exact zx_ret (W.iret (v := ld (ix x1)) hx hb hr (fun t ht hW => ⟨⟨ld (ix x1), (), rfl, ⟨(by first | with_reducible rfl | (simp only [E_filingOf, F_fof, if_neg c_1, if_neg c_2, if_pos c_4, if_neg q_5]; done) | (simp +decide only [E_filingOf, F_fof, k9, if_neg c_1, if_neg c_2, if_pos c_4, if_neg q_5]; done) | (simp [E_filingOf, F_fof, c_1, c_2, c_4, q_5, k9]; done) | (simp +decide [E_filingOf, F_fof, c_1, c_2, c_4, q_5, k9]; done)), (by first | with_reducible rfl | (simp only [E_filingOf, F_fof, if_neg c_1, if_neg c_2, if_pos c_4, if_neg q_5]; done) | (simp +decide only [E_filingOf, F_fof, k9, if_neg c_1, if_neg c_2, if_pos c_4, if_neg q_5]; done) | (simp [E_filingOf, F_fof, c_1, c_2, c_4, q_5, k9]; done) | (simp +decide [E_filingOf, F_fof, c_1, c_2, c_4, q_5, k9]; done))⟩, (z_at ht hP)⟩, hS.F ht⟩) hS.2.2 dX4_filingOf_81)
      · have e9 : x2 = nI 1 := by rw [g_x2, k9]
        refine lv_tableIn (off := 56) (tgt := 82) hx hb dX4_filingOf_26 (by rw [e9]; decide) (by rw [e9]; decide) (by rw [e9]; decide) (by decide) ?_
        refine lv_aload_n hx hb dX4_filingOf_82 rfl (lv_at hl 0 rfl) ?_
        refine z_get (ci := 4) (C := RX4) (T := TX4) (N := 7) hx hb hts b_X4_filingOf_wsX40 hown hK hP 0 rfl rfl 0 (by decide) (hts _ k_X4_filingOf_3) rfl (.ref (a 3)) rfl dX4_filingOf_83 ?_
        refine z_get (ci := 1) (C := RX1) (T := TX1) (N := 13) hx hb hts b_X4_filingOf_wsX10 hown hK hP 3 rfl rfl 1 (by decide) (hts _ k_X4_filingOf_5) rfl (.ref (a 5)) rfl dX4_filingOf_86 ?_
        refine lv_iload_n hx hb dX4_filingOf_89 rfl (lv_at hl 1 rfl) ?_
        refine z_iald hx hb hK hP 5 0 rfl rfl (ix x1) g_x1 (by omega) rfl dX4_filingOf_90 ?_
        exact zx_ret (W.iret (v := sl (ix x1)) hx hb hr (fun t ht hW => ⟨⟨sl (ix x1), (), rfl, ⟨(by first | with_reducible rfl | (simp only [E_filingOf, F_fof, if_neg c_1, if_neg c_2, if_pos c_4, if_neg q_5]; done) | (simp +decide only [E_filingOf, F_fof, k9, if_neg c_1, if_neg c_2, if_pos c_4, if_neg q_5]; done) | (simp [E_filingOf, F_fof, c_1, c_2, c_4, q_5, k9]; done) | (simp +decide [E_filingOf, F_fof, c_1, c_2, c_4, q_5, k9]; done)), (by first | with_reducible rfl | (simp only [E_filingOf, F_fof, if_neg c_1, if_neg c_2, if_pos c_4, if_neg q_5]; done) | (simp +decide only [E_filingOf, F_fof, k9, if_neg c_1, if_neg c_2, if_pos c_4, if_neg q_5]; done) | (simp [E_filingOf, F_fof, c_1, c_2, c_4, q_5, k9]; done) | (simp +decide [E_filingOf, F_fof, c_1, c_2, c_4, q_5, k9]; done))⟩, (z_at ht hP)⟩, hS.F ht⟩) hS.2.2 dX4_filingOf_91)
      · have e9 : x2 = nI 2 := by rw [g_x2, k9]
        refine lv_tableIn (off := 66) (tgt := 92) hx hb dX4_filingOf_26 (by rw [e9]; decide) (by rw [e9]; decide) (by rw [e9]; decide) (by decide) ?_
        refine lv_aload_n hx hb dX4_filingOf_92 rfl (lv_at hl 0 rfl) ?_
        refine z_get (ci := 4) (C := RX4) (T := TX4) (N := 7) hx hb hts b_X4_filingOf_wsX40 hown hK hP 0 rfl rfl 0 (by decide) (hts _ k_X4_filingOf_3) rfl (.ref (a 3)) rfl dX4_filingOf_93 ?_
        refine z_get (ci := 1) (C := RX1) (T := TX1) (N := 13) hx hb hts b_X4_filingOf_wsX10 hown hK hP 3 rfl rfl 2 (by decide) (hts _ k_X4_filingOf_6) rfl (.ref (a 6)) rfl dX4_filingOf_96 ?_
        refine lv_iload_n hx hb dX4_filingOf_99 rfl (lv_at hl 1 rfl) ?_
        refine z_iald hx hb hK hP 6 0 rfl rfl (ix x1) g_x1 (by omega) rfl dX4_filingOf_100 ?_
        exact zx_ret (W.iret (v := bd (ix x1)) hx hb hr (fun t ht hW => ⟨⟨bd (ix x1), (), rfl, ⟨(by first | with_reducible rfl | (simp only [E_filingOf, F_fof, if_neg c_1, if_neg c_2, if_pos c_4, if_neg q_5]; done) | (simp +decide only [E_filingOf, F_fof, k9, if_neg c_1, if_neg c_2, if_pos c_4, if_neg q_5]; done) | (simp [E_filingOf, F_fof, c_1, c_2, c_4, q_5, k9]; done) | (simp +decide [E_filingOf, F_fof, c_1, c_2, c_4, q_5, k9]; done)), (by first | with_reducible rfl | (simp only [E_filingOf, F_fof, if_neg c_1, if_neg c_2, if_pos c_4, if_neg q_5]; done) | (simp +decide only [E_filingOf, F_fof, k9, if_neg c_1, if_neg c_2, if_pos c_4, if_neg q_5]; done) | (simp [E_filingOf, F_fof, c_1, c_2, c_4, q_5, k9]; done) | (simp +decide [E_filingOf, F_fof, c_1, c_2, c_4, q_5, k9]; done))⟩, (z_at ht hP)⟩, hS.F ht⟩) hS.2.2 dX4_filingOf_101)
      · have e9 : x2 = nI 3 := by rw [g_x2, k9]
        refine lv_tableIn (off := 76) (tgt := 102) hx hb dX4_filingOf_26 (by rw [e9]; decide) (by rw [e9]; decide) (by rw [e9]; decide) (by decide) ?_
        refine lv_aload_n hx hb dX4_filingOf_102 rfl (lv_at hl 0 rfl) ?_
        refine z_get (ci := 4) (C := RX4) (T := TX4) (N := 7) hx hb hts b_X4_filingOf_wsX40 hown hK hP 0 rfl rfl 0 (by decide) (hts _ k_X4_filingOf_3) rfl (.ref (a 3)) rfl dX4_filingOf_103 ?_
        refine z_get (ci := 1) (C := RX1) (T := TX1) (N := 13) hx hb hts b_X4_filingOf_wsX10 hown hK hP 3 rfl rfl 3 (by decide) (hts _ k_X4_filingOf_7) rfl (.ref (a 7)) rfl dX4_filingOf_106 ?_
        refine lv_iload_n hx hb dX4_filingOf_109 rfl (lv_at hl 1 rfl) ?_
        refine z_iald hx hb hK hP 7 0 rfl rfl (ix x1) g_x1 (by omega) rfl dX4_filingOf_110 ?_
        exact zx_ret (W.iret (v := pw (ix x1)) hx hb hr (fun t ht hW => ⟨⟨pw (ix x1), (), rfl, ⟨(by first | with_reducible rfl | (simp only [E_filingOf, F_fof, if_neg c_1, if_neg c_2, if_pos c_4, if_neg q_5]; done) | (simp +decide only [E_filingOf, F_fof, k9, if_neg c_1, if_neg c_2, if_pos c_4, if_neg q_5]; done) | (simp [E_filingOf, F_fof, c_1, c_2, c_4, q_5, k9]; done) | (simp +decide [E_filingOf, F_fof, c_1, c_2, c_4, q_5, k9]; done)), (by first | with_reducible rfl | (simp only [E_filingOf, F_fof, if_neg c_1, if_neg c_2, if_pos c_4, if_neg q_5]; done) | (simp +decide only [E_filingOf, F_fof, k9, if_neg c_1, if_neg c_2, if_pos c_4, if_neg q_5]; done) | (simp [E_filingOf, F_fof, c_1, c_2, c_4, q_5, k9]; done) | (simp +decide [E_filingOf, F_fof, c_1, c_2, c_4, q_5, k9]; done))⟩, (z_at ht hP)⟩, hS.F ht⟩) hS.2.2 dX4_filingOf_111)
      · have e9 : x2 = nI 4 := by rw [g_x2, k9]
        refine lv_tableIn (off := 86) (tgt := 112) hx hb dX4_filingOf_26 (by rw [e9]; decide) (by rw [e9]; decide) (by rw [e9]; decide) (by decide) ?_
        refine lv_aload_n hx hb dX4_filingOf_112 rfl (lv_at hl 0 rfl) ?_
        refine z_get (ci := 4) (C := RX4) (T := TX4) (N := 7) hx hb hts b_X4_filingOf_wsX40 hown hK hP 0 rfl rfl 0 (by decide) (hts _ k_X4_filingOf_3) rfl (.ref (a 3)) rfl dX4_filingOf_113 ?_
        refine z_get (ci := 1) (C := RX1) (T := TX1) (N := 13) hx hb hts b_X4_filingOf_wsX10 hown hK hP 3 rfl rfl 4 (by decide) (hts _ k_X4_filingOf_8) rfl (.ref (a 8)) rfl dX4_filingOf_116 ?_
        refine lv_iload_n hx hb dX4_filingOf_119 rfl (lv_at hl 1 rfl) ?_
        refine z_iald hx hb hK hP 8 0 rfl rfl (ix x1) g_x1 (by omega) rfl dX4_filingOf_120 ?_
        exact zx_ret (W.iret (v := dt (ix x1)) hx hb hr (fun t ht hW => ⟨⟨dt (ix x1), (), rfl, ⟨(by first | with_reducible rfl | (simp only [E_filingOf, F_fof, if_neg c_1, if_neg c_2, if_pos c_4, if_neg q_5]; done) | (simp +decide only [E_filingOf, F_fof, k9, if_neg c_1, if_neg c_2, if_pos c_4, if_neg q_5]; done) | (simp [E_filingOf, F_fof, c_1, c_2, c_4, q_5, k9]; done) | (simp +decide [E_filingOf, F_fof, c_1, c_2, c_4, q_5, k9]; done)), (by first | with_reducible rfl | (simp only [E_filingOf, F_fof, if_neg c_1, if_neg c_2, if_pos c_4, if_neg q_5]; done) | (simp +decide only [E_filingOf, F_fof, k9, if_neg c_1, if_neg c_2, if_pos c_4, if_neg q_5]; done) | (simp [E_filingOf, F_fof, c_1, c_2, c_4, q_5, k9]; done) | (simp +decide [E_filingOf, F_fof, c_1, c_2, c_4, q_5, k9]; done))⟩, (z_at ht hP)⟩, hS.F ht⟩) hS.2.2 dX4_filingOf_121)
      · have e9 : x2 = nI 5 := by rw [g_x2, k9]
        refine lv_tableIn (off := 96) (tgt := 122) hx hb dX4_filingOf_26 (by rw [e9]; decide) (by rw [e9]; decide) (by rw [e9]; decide) (by decide) ?_
        refine lv_aload_n hx hb dX4_filingOf_122 rfl (lv_at hl 0 rfl) ?_
        refine z_get (ci := 4) (C := RX4) (T := TX4) (N := 7) hx hb hts b_X4_filingOf_wsX40 hown hK hP 0 rfl rfl 0 (by decide) (hts _ k_X4_filingOf_3) rfl (.ref (a 3)) rfl dX4_filingOf_123 ?_
        refine z_get (ci := 1) (C := RX1) (T := TX1) (N := 13) hx hb hts b_X4_filingOf_wsX10 hown hK hP 3 rfl rfl 5 (by decide) (hts _ k_X4_filingOf_9) rfl (.ref (a 9)) rfl dX4_filingOf_126 ?_
        refine lv_iload_n hx hb dX4_filingOf_129 rfl (lv_at hl 1 rfl) ?_
        refine z_iald hx hb hK hP 9 0 rfl rfl (ix x1) g_x1 (by omega) rfl dX4_filingOf_130 ?_
        exact zx_ret (W.iret (v := st (ix x1)) hx hb hr (fun t ht hW => ⟨⟨st (ix x1), (), rfl, ⟨(by first | with_reducible rfl | (simp only [E_filingOf, F_fof, if_neg c_1, if_neg c_2, if_pos c_4, if_neg q_5]; done) | (simp +decide only [E_filingOf, F_fof, k9, if_neg c_1, if_neg c_2, if_pos c_4, if_neg q_5]; done) | (simp [E_filingOf, F_fof, c_1, c_2, c_4, q_5, k9]; done) | (simp +decide [E_filingOf, F_fof, c_1, c_2, c_4, q_5, k9]; done)), (by first | with_reducible rfl | (simp only [E_filingOf, F_fof, if_neg c_1, if_neg c_2, if_pos c_4, if_neg q_5]; done) | (simp +decide only [E_filingOf, F_fof, k9, if_neg c_1, if_neg c_2, if_pos c_4, if_neg q_5]; done) | (simp [E_filingOf, F_fof, c_1, c_2, c_4, q_5, k9]; done) | (simp +decide [E_filingOf, F_fof, c_1, c_2, c_4, q_5, k9]; done))⟩, (z_at ht hP)⟩, hS.F ht⟩) hS.2.2 dX4_filingOf_131)
      · have e9 : x2 = nI 6 := by rw [g_x2, k9]
        refine lv_tableIn (off := 106) (tgt := 132) hx hb dX4_filingOf_26 (by rw [e9]; decide) (by rw [e9]; decide) (by rw [e9]; decide) (by decide) ?_
        refine lv_aload_n hx hb dX4_filingOf_132 rfl (lv_at hl 0 rfl) ?_
        refine z_get (ci := 4) (C := RX4) (T := TX4) (N := 7) hx hb hts b_X4_filingOf_wsX40 hown hK hP 0 rfl rfl 0 (by decide) (hts _ k_X4_filingOf_3) rfl (.ref (a 3)) rfl dX4_filingOf_133 ?_
        refine z_get (ci := 1) (C := RX1) (T := TX1) (N := 13) hx hb hts b_X4_filingOf_wsX10 hown hK hP 3 rfl rfl 6 (by decide) (hts _ k_X4_filingOf_10) rfl (.ref (a 10)) rfl dX4_filingOf_136 ?_
        refine lv_iload_n hx hb dX4_filingOf_139 rfl (lv_at hl 1 rfl) ?_
        refine z_zald hx hb hK hP 10 2 rfl rfl (ix x1) g_x1 (by omega) rfl dX4_filingOf_140 ?_
        refine lv_if_eq (tgt := 148) hx hb dX4_filingOf_141 (by decide) (fun c_6 => ?_) (fun c_6 => ?_)
        · refine lv_iconst (v := 0) hx hb dX4_filingOf_148 (by decide) ?_
          exact zx_ret (W.iret (v := 0) hx hb hr (fun t ht hW => ⟨⟨0, (), rfl, ⟨(by first | with_reducible rfl | (simp only [E_filingOf, F_fof, if_neg c_1, if_neg c_2, if_pos c_4, if_neg q_5, if_pos c_6]; done) | (simp +decide only [E_filingOf, F_fof, k9, if_neg c_1, if_neg c_2, if_pos c_4, if_neg q_5, if_pos c_6]; done) | (simp [E_filingOf, F_fof, c_1, c_2, c_4, q_5, c_6, k9]; done) | (simp +decide [E_filingOf, F_fof, c_1, c_2, c_4, q_5, c_6, k9]; done)), (by first | with_reducible rfl | (simp only [E_filingOf, F_fof, if_neg c_1, if_neg c_2, if_pos c_4, if_neg q_5, if_pos c_6]; done) | (simp +decide only [E_filingOf, F_fof, k9, if_neg c_1, if_neg c_2, if_pos c_4, if_neg q_5, if_pos c_6]; done) | (simp [E_filingOf, F_fof, c_1, c_2, c_4, q_5, c_6, k9]; done) | (simp +decide [E_filingOf, F_fof, c_1, c_2, c_4, q_5, c_6, k9]; done))⟩, (z_at ht hP)⟩, hS.F ht⟩) hS.2.2 dX4_filingOf_149)
        · refine lv_iconst (v := 1) hx hb dX4_filingOf_144 (by decide) ?_
          refine lv_goto (tgt := 149) hx hb dX4_filingOf_145 (by decide) ?_
          exact zx_ret (W.iret (v := 1) hx hb hr (fun t ht hW => ⟨⟨1, (), rfl, ⟨(by first | with_reducible rfl | (simp only [E_filingOf, F_fof, if_neg c_1, if_neg c_2, if_pos c_4, if_neg q_5, if_neg c_6]; done) | (simp +decide only [E_filingOf, F_fof, k9, if_neg c_1, if_neg c_2, if_pos c_4, if_neg q_5, if_neg c_6]; done) | (simp [E_filingOf, F_fof, c_1, c_2, c_4, q_5, c_6, k9]; done) | (simp +decide [E_filingOf, F_fof, c_1, c_2, c_4, q_5, c_6, k9]; done)), (by first | with_reducible rfl | (simp only [E_filingOf, F_fof, if_neg c_1, if_neg c_2, if_pos c_4, if_neg q_5, if_neg c_6]; done) | (simp +decide only [E_filingOf, F_fof, k9, if_neg c_1, if_neg c_2, if_pos c_4, if_neg q_5, if_neg c_6]; done) | (simp [E_filingOf, F_fof, c_1, c_2, c_4, q_5, c_6, k9]; done) | (simp +decide [E_filingOf, F_fof, c_1, c_2, c_4, q_5, c_6, k9]; done))⟩, (z_at ht hP)⟩, hS.F ht⟩) hS.2.2 dX4_filingOf_149)
      · have e9 : x2 = nI 7 := by rw [g_x2, k9]
        refine lv_tableIn (off := 124) (tgt := 150) hx hb dX4_filingOf_26 (by rw [e9]; decide) (by rw [e9]; decide) (by rw [e9]; decide) (by decide) ?_
        refine lv_aload_n hx hb dX4_filingOf_150 rfl (lv_at hl 0 rfl) ?_
        refine z_get (ci := 4) (C := RX4) (T := TX4) (N := 7) hx hb hts b_X4_filingOf_wsX40 hown hK hP 0 rfl rfl 0 (by decide) (hts _ k_X4_filingOf_3) rfl (.ref (a 3)) rfl dX4_filingOf_151 ?_
        refine z_get (ci := 1) (C := RX1) (T := TX1) (N := 13) hx hb hts b_X4_filingOf_wsX10 hown hK hP 3 rfl rfl 7 (by decide) (hts _ k_X4_filingOf_11) rfl (.ref (a 11)) rfl dX4_filingOf_154 ?_
        refine lv_iload_n hx hb dX4_filingOf_157 rfl (lv_at hl 1 rfl) ?_
        refine z_iald hx hb hK hP 11 0 rfl rfl (ix x1) g_x1 (by omega) rfl dX4_filingOf_158 ?_
        exact zx_ret (W.iret (v := sv (ix x1)) hx hb hr (fun t ht hW => ⟨⟨sv (ix x1), (), rfl, ⟨(by first | with_reducible rfl | (simp only [E_filingOf, F_fof, if_neg c_1, if_neg c_2, if_pos c_4, if_neg q_5]; done) | (simp +decide only [E_filingOf, F_fof, k9, if_neg c_1, if_neg c_2, if_pos c_4, if_neg q_5]; done) | (simp [E_filingOf, F_fof, c_1, c_2, c_4, q_5, k9]; done) | (simp +decide [E_filingOf, F_fof, c_1, c_2, c_4, q_5, k9]; done)), (by first | with_reducible rfl | (simp only [E_filingOf, F_fof, if_neg c_1, if_neg c_2, if_pos c_4, if_neg q_5]; done) | (simp +decide only [E_filingOf, F_fof, k9, if_neg c_1, if_neg c_2, if_pos c_4, if_neg q_5]; done) | (simp [E_filingOf, F_fof, c_1, c_2, c_4, q_5, k9]; done) | (simp +decide [E_filingOf, F_fof, c_1, c_2, c_4, q_5, k9]; done))⟩, (z_at ht hP)⟩, hS.F ht⟩) hS.2.2 dX4_filingOf_159)
      · have e9 : x2 = nI 8 := by rw [g_x2, k9]
        refine lv_tableOut (tgt := 160) hx hb dX4_filingOf_26 (by rw [e9]; decide) (by decide) ?_
        refine lv_aload_n hx hb dX4_filingOf_160 rfl (lv_at hl 0 rfl) ?_
        refine z_get (ci := 4) (C := RX4) (T := TX4) (N := 7) hx hb hts b_X4_filingOf_wsX40 hown hK hP 0 rfl rfl 0 (by decide) (hts _ k_X4_filingOf_3) rfl (.ref (a 3)) rfl dX4_filingOf_161 ?_
        refine z_get (ci := 1) (C := RX1) (T := TX1) (N := 13) hx hb hts b_X4_filingOf_wsX10 hown hK hP 3 rfl rfl 5 (by decide) (hts _ k_X4_filingOf_9) rfl (.ref (a 9)) rfl dX4_filingOf_164 ?_
        refine lv_iload_n hx hb dX4_filingOf_167 rfl (lv_at hl 1 rfl) ?_
        refine z_iald hx hb hK hP 9 0 rfl rfl (ix x1) g_x1 (by omega) rfl dX4_filingOf_168 ?_
        refine lv_aload_n hx hb dX4_filingOf_169 rfl (lv_at hl 0 rfl) ?_
        refine z_get (ci := 4) (C := RX4) (T := TX4) (N := 7) hx hb hts b_X4_filingOf_wsX40 hown hK hP 0 rfl rfl 0 (by decide) (hts _ k_X4_filingOf_3) rfl (.ref (a 3)) rfl dX4_filingOf_170 ?_
        refine z_get (ci := 1) (C := RX1) (T := TX1) (N := 13) hx hb hts b_X4_filingOf_wsX10 hown hK hP 3 rfl rfl 8 (by decide) (hts _ k_X4_filingOf_12) rfl (.ref (a 12)) rfl dX4_filingOf_173 ?_
        refine lv_iload_n hx hb dX4_filingOf_176 rfl (lv_at hl 1 rfl) ?_
        refine z_iald hx hb hK hP 12 0 rfl rfl (ix x1) g_x1 (by omega) rfl dX4_filingOf_177 ?_
        refine lv_aload_n hx hb dX4_filingOf_178 rfl (lv_at hl 0 rfl) ?_
        refine z_get (ci := 4) (C := RX4) (T := TX4) (N := 7) hx hb hts b_X4_filingOf_wsX40 hown hK hP 0 rfl rfl 0 (by decide) (hts _ k_X4_filingOf_3) rfl (.ref (a 3)) rfl dX4_filingOf_179 ?_
        refine z_get (ci := 1) (C := RX1) (T := TX1) (N := 13) hx hb hts b_X4_filingOf_wsX10 hown hK hP 3 rfl rfl 9 (by decide) (hts _ k_X4_filingOf_13) rfl (.ref (a 13)) rfl dX4_filingOf_182 ?_
        refine lv_iload_n hx hb dX4_filingOf_185 rfl (lv_at hl 1 rfl) ?_
        refine z_iald hx hb hK hP 13 0 rfl rfl (ix x1) g_x1 (by omega) rfl dX4_filingOf_186 ?_
        refine z_ri (va_runS (As := [.int (st (ix x1)), .int (tl (ix x1)), .int (so (ix x1))]) (rest := []) ⟨hx, hb, hml, hown, hts⟩ (c_X4_lapseDay l D cI cJ cZ a H.size (st (ix x1)) (tl (ix x1)) (so (ix x1))) (va_cwS 3 hts gX4_filingOf_X4_lapseDay rfl rfl rfl (by decide +kernel) ⟨Nat.le_of_ble_eq_true rfl, Nat.le_of_ble_eq_true rfl⟩) (z_ps hK zP_0 zD_0 zT_b zT_m) rfl rfl hl.1 rfl (lv_room (Nat.le_of_ble_eq_true rfl)) dX4_filingOf_187 ⟨Nat.le_of_ble_eq_true rfl, Nat.le_of_ble_eq_true rfl⟩) hP hS hA (fun r_7 _ H locs hr_7 hP hS => ?_)
        subst hr_7
        exact zx_ret (W.iret (v := F_lapseDay (st (ix x1)) (tl (ix x1)) (so (ix x1))) hx hb hr (fun t ht hW => ⟨⟨F_lapseDay (st (ix x1)) (tl (ix x1)) (so (ix x1)), (), rfl, ⟨(by first | with_reducible rfl | (simp only [E_filingOf, F_fof, if_neg c_1, if_neg c_2, if_pos c_4, if_neg q_5]; done) | (simp +decide only [E_filingOf, F_fof, k9, if_neg c_1, if_neg c_2, if_pos c_4, if_neg q_5]; done) | (simp [E_filingOf, F_fof, c_1, c_2, c_4, q_5, k9]; done) | (simp +decide [E_filingOf, F_fof, c_1, c_2, c_4, q_5, k9]; done)), (by first | with_reducible rfl | (simp only [E_filingOf, F_fof, if_neg c_1, if_neg c_2, if_pos c_4, if_neg q_5]; done) | (simp +decide only [E_filingOf, F_fof, k9, if_neg c_1, if_neg c_2, if_pos c_4, if_neg q_5]; done) | (simp [E_filingOf, F_fof, c_1, c_2, c_4, q_5, k9]; done) | (simp +decide [E_filingOf, F_fof, c_1, c_2, c_4, q_5, k9]; done))⟩, (z_at ht hP)⟩, hS.F ht⟩) hS.2.2 dX4_filingOf_190)
    · have q_8 : F_in x2 0 8 = 0 := F_in_0b (z_nle.mp c_4)
      exact zx_thrS (X := zA) (text := "what is out of range") hx hb hflg hts hown (by decide +kernel) k_X4_filingOf_1 k_X4_filingOf_2 b_X4_filingOf_vx_atSRX487javalangIlleg zn_A zg_A hE.2.1.2.1.2.1 (by decide +kernel) hE hS (hl.1.trans hml.symm) dX4_filingOf_15 dX4_filingOf_18 dX4_filingOf_19 dX4_filingOf_21 dX4_filingOf_24 hno (Nat.le_of_ble_eq_true rfl) (Nat.le_of_ble_eq_true rfl) (Nat.le_of_ble_eq_true rfl) (Nat.le_of_ble_eq_true rfl) hlocks (fun t ht h1 h2 => ⟨(), trivial, ⟨(z_er2 (by first | with_reducible rfl | (simp only [E_filingOf, F_fof, if_neg c_1, if_neg c_2, if_neg c_4, if_pos q_8]; done) | (simp +decide only [E_filingOf, F_fof, if_neg c_1, if_neg c_2, if_neg c_4, if_pos q_8]; done) | (simp [E_filingOf, F_fof, c_1, c_2, c_4, q_8]; done) | (simp +decide [E_filingOf, F_fof, c_1, c_2, c_4, q_8]; done))), z_keepX hP h1 h2⟩, z_Fx hS h1 h2⟩) hS.2.2 rfl rfl
theorem k_X4_satelliteOf_1 : (Cond.classLink RX4 83 "java/lang/IllegalArgumentException") ∈ wsX4_satelliteOf := List.mem_of_getElem? (i := 1) rfl
theorem k_X4_satelliteOf_2 : (Cond.initialized "java/lang/IllegalArgumentException") ∈ wsX4_satelliteOf := List.mem_of_getElem? (i := 2) rfl
theorem b_X4_satelliteOf_vx_atSRX487javalangIlleg : ∀ w ∈ (vx_atS RX4 87 "java/lang/IllegalArgumentException" ["java/lang/RuntimeException", "java/lang/Exception"]).filter goodWord, w ∈ wsX4_satelliteOf := fun _ h => List.mem_cons_of_mem _ (List.mem_append_left _ (List.mem_append_right _ h))
theorem k_X4_satelliteOf_3 : (Cond.fieldLink RX4 19 "Orbitregister" "satellites" "LOrbitregister$Satellites;") ∈ wsX4_satelliteOf := List.mem_of_getElem? (i := 3) rfl
theorem b_X4_satelliteOf_wsX40 : ∀ w ∈ wsX40, w ∈ wsX4_satelliteOf := fun _ h => List.mem_cons_of_mem _ (List.mem_append_left _ (List.mem_append_left _ (List.mem_append_left _ (List.mem_append_left _ (List.mem_append_right _ h)))))
theorem k_X4_satelliteOf_4 : (Cond.fieldLink RX4 222 "Orbitregister$Satellites" "states" "[I") ∈ wsX4_satelliteOf := List.mem_of_getElem? (i := 4) rfl
theorem b_X4_satelliteOf_wsX30 : ∀ w ∈ wsX30, w ∈ wsX4_satelliteOf := fun _ h => List.mem_cons_of_mem _ (List.mem_append_left _ (List.mem_append_left _ (List.mem_append_left _ (List.mem_append_right _ h))))
theorem k_X4_satelliteOf_5 : (Cond.fieldLink RX4 185 "Orbitregister$Satellites" "registrar" "[I") ∈ wsX4_satelliteOf := List.mem_of_getElem? (i := 5) rfl
theorem k_X4_satelliteOf_6 : (Cond.fieldLink RX4 199 "Orbitregister$Satellites" "state" "[I") ∈ wsX4_satelliteOf := List.mem_of_getElem? (i := 6) rfl
theorem k_X4_satelliteOf_7 : (Cond.fieldLink RX4 149 "Orbitregister$Satellites" "slot" "[I") ∈ wsX4_satelliteOf := List.mem_of_getElem? (i := 7) rfl
theorem k_X4_satelliteOf_8 : (Cond.fieldLink RX4 193 "Orbitregister$Satellites" "fuel" "[I") ∈ wsX4_satelliteOf := List.mem_of_getElem? (i := 8) rfl
theorem k_X4_satelliteOf_9 : (Cond.fieldLink RX4 45 "Orbitregister" "today" "I") ∈ wsX4_satelliteOf := List.mem_of_getElem? (i := 9) rfl
theorem k_X4_satelliteOf_10 : (Cond.fieldLink RX4 152 "Orbitregister$Satellites" "since" "[I") ∈ wsX4_satelliteOf := List.mem_of_getElem? (i := 10) rfl
theorem k_X4_satelliteOf_11 : (Cond.fieldLink RX4 10 "Orbitregister" "filings" "LOrbitregister$Filings;") ∈ wsX4_satelliteOf := List.mem_of_getElem? (i := 11) rfl
set_option maxHeartbeats 4000000 in
set_option maxRecDepth 100000 in
theorem c_X4_satelliteOf (l : Launch) (hflg : l.stackTraces = false) (D : va_G) (cI cJ cZ : ClassId) (a : Nat → Nat) (sz : Nat) (px : A32) (py : A64) (td : Int32) (ld : A32) (sl : A32) (bd : A32) (pw : A32) (dt : A32) (st : A32) (uc : A32) (sv : A32) (tl : A32) (so : A32) (lm : A32) (n : Nat) (nd : Int32) (ss : A32) (rg : A32) (hw : A32) (ax : A32) (fu : A32) (si : A32) (au : A32) (ns : Nat) (jk : A32) (jd : A32) (js : A32) (jt : A32) (jn : Nat) (ef : Int32) (es : Int32) (el : Int32) (ev : Int32) (et : Int32) (eo : Int32) (x1 : Int32) (x2 : Int32) (hn : n ≤ 40) (hs : ns ≤ 16) : zx_Met l yX4_satelliteOf wsX4_satelliteOf ({ frames := 7, cells := 1, slots := 6, locals := 103 }) (va_Pc [.ref (a 0), .int x1, .int x2] (ZP D (zt cI cJ cZ) (wAll cI cJ cZ a px py td ld sl bd pw dt st uc sv tl so lm n nd ss rg hw ax fu si au ns jk jd js jt jn ef es el ev et eo) sz (ZX (va_A (wAll cI cJ cZ a px py td ld sl bd pw dt st uc sv tl so lm n nd ss rg hw ax fu si au ns jk jd js jt jn ef es el ev et eo) sz)))) (va_Qi (fun (r : Int32) (_ : Unit) => E_satelliteOf x1 x2 ns = 0 ∧ r = F_sof ss rg hw ax fu si td (F_served sv x1 n) (ix x1) (ix x2)) (fun _ t => va_P D vwCl (wAll cI cJ cZ a px py td ld sl bd pw dt st uc sv tl so lm n nd ss rg hw ax fu si au ns jk jd js jt jn ef es el ev et eo) t.heap) (va_A (wAll cI cJ cZ a px py td ld sl bd pw dt st uc sv tl so lm n nd ss rg hw ax fu si au ns jk jd js jt jn ef es el ev et eo) sz)) (vx_X (fun _ : Unit => True) (fun E _ t => zER zI zA zS (E_satelliteOf x1 x2 ns) E ∧ va_P D vwCl (wAll cI cJ cZ a px py td ld sl bd pw dt st uc sv tl so lm n nd ss rg hw ax fu si au ns jk jd js jt jn ef es el ev et eo) t.heap) (va_A (wAll cI cJ cZ a px py td ld sl bd pw dt st uc sv tl so lm n nd ss rg hw ax fu si au ns jk jd js jt jn ef es el ev et eo) sz)) (va_A (wAll cI cJ cZ a px py td ld sl bd pw dt st uc sv tl so lm n nd ss rg hw ax fu si au ns jk jd js jt jn ef es el ev et eo) sz) := by
  refine zx_ofW (cc := cX4_satelliteOf) (maxL := 3) (ret := (some .int)) (by decide) rfl ?_
  intro p e s m args below meth c s₁ B hml hno hv
  obtain ⟨rfl, hsz, hP, hK, hD0, hE⟩ := hv
  have hx := B.exec
  have hb := B.bytes
  have hr := B.returns
  have hts := atoms_spec (ws := wsX4_satelliteOf) B.pre
  have hown : s.vm.findClass RX4 = some m.cls := findClass_of_methodNamed B.named
  have hlocks := B.notSynchronized
  subst hsz
  have hD := hD0.self (sz := s.heap.size)
  generalize hAe : va_A (wAll cI cJ cZ a px py td ld sl bd pw dt st uc sv tl so lm n nd ss rg hw ax fu si au ns jk jd js jt jn ef es el ev et eo) s.heap.size = A at hD hE ⊢
  have hA : ∀ q : Nat, s.heap.size ≤ q → A q := fun q h => by rw [← hAe]; exact Or.inr h
  have hS : va_S A s.heap s.heap [] := va_S.rf
  have hl := lv_entry ([.ref (a 0), .int x1, .int x2]) (n := 3) (Nat.le_of_ble_eq_true rfl)
  rw [lg_entry_eq]
  generalize (lg_sl ([.ref (a 0), .int x1, .int x2]) ++ List.replicate (3 - (lg_sl ([.ref (a 0), .int x1, .int x2])).length) Slot.unset).toArray = ls at hl ⊢
  have hl : lv_has ls 3 [(0, .ref (a 0)), (1, .int x1), (2, .int x2)] := hl
  have hP : va_P D vwCl (wAll cI cJ cZ a px py td ld sl bd pw dt st uc sv tl so lm n nd ss rg hw ax fu si au ns jk jd js jt jn ef es el ev et eo) s.heap := hP
  refine lv_aload_n hx hb dX4_satelliteOf_0 rfl (lv_at hl 0 rfl) ?_
  refine lv_iload_n hx hb dX4_satelliteOf_1 rfl (lv_at hl 1 rfl) ?_
  refine zx_ck (ws := (wAll cI cJ cZ a px py td ld sl bd pw dt st uc sv tl so lm n nd ss rg hw ax fu si au ns jk jd js jt jn ef es el ev et eo)) (cond := F_in x1 0 (nI ns - 1) = 0) (X := zI) (zx_runV (As := [.int x1]) (rest := []) ⟨hx, hb, hml, hown, hts⟩ (c_X4_checkSatellite l hflg D cI cJ cZ a s.heap.size px py td ld sl bd pw dt st uc sv tl so lm n nd ss rg hw ax fu si au ns jk jd js jt jn ef es el ev et eo x1 (by first | assumption | omega)) (cwV 1 hts gX4_satelliteOf_X4_checkSatellite rfl rfl rfl (by decide +kernel) ⟨Nat.le_of_ble_eq_true rfl, Nat.le_of_ble_eq_true rfl⟩) (z_pv hK hP hD (q0 := 0) (ci := 4) rfl rfl ZX_b (ZX_m hE hS (z_free0 hS hA))) rfl rfl hl.1 rfl (lv_room (Nat.le_of_ble_eq_true rfl)) dX4_satelliteOf_2 ⟨Nat.le_of_ble_eq_true rfl, Nat.le_of_ble_eq_true rfl⟩) hP hS hA hno hlocks rfl rfl (fun c_1 => (z_er1 (by first | with_reducible rfl | (simp only [E_satelliteOf, F_sof, if_pos c_1]; done) | (simp +decide only [E_satelliteOf, F_sof, if_pos c_1]; done) | (simp [E_satelliteOf, F_sof, c_1]; done) | (simp +decide [E_satelliteOf, F_sof, c_1]; done)))) (fun _ H locs c_1 hP hS => ?_)
  obtain ⟨g_x1, g_x1b⟩ := F_in_ix c_1 (by omega)
  refine lv_iload_n hx hb dX4_satelliteOf_5 rfl (lv_at hl 2 rfl) ?_
  refine lv_if_lt (tgt := 15) hx hb dX4_satelliteOf_6 (by decide) (fun c_2 => ?_) (fun c_2 => ?_)
  · have q_3 : F_in x2 0 6 = 0 := F_in_0a c_2
    exact zx_thrS (X := zA) (text := "what is out of range") hx hb hflg hts hown (by decide +kernel) k_X4_satelliteOf_1 k_X4_satelliteOf_2 b_X4_satelliteOf_vx_atSRX487javalangIlleg zn_A zg_A hE.2.1.2.1.2.1 (by decide +kernel) hE hS (hl.1.trans hml.symm) dX4_satelliteOf_15 dX4_satelliteOf_18 dX4_satelliteOf_19 dX4_satelliteOf_21 dX4_satelliteOf_24 hno (Nat.le_of_ble_eq_true rfl) (Nat.le_of_ble_eq_true rfl) (Nat.le_of_ble_eq_true rfl) (Nat.le_of_ble_eq_true rfl) hlocks (fun t ht h1 h2 => ⟨(), trivial, ⟨(z_er2 (by first | with_reducible rfl | (simp only [E_satelliteOf, F_sof, if_neg c_1, if_pos c_2, if_pos q_3]; done) | (simp +decide only [E_satelliteOf, F_sof, if_neg c_1, if_pos c_2, if_pos q_3]; done) | (simp [E_satelliteOf, F_sof, c_1, c_2, q_3]; done) | (simp +decide [E_satelliteOf, F_sof, c_1, c_2, q_3]; done))), z_keepX hP h1 h2⟩, z_Fx hS h1 h2⟩) hS.2.2 rfl rfl
  · refine lv_iload_n hx hb dX4_satelliteOf_9 rfl (lv_at hl 2 rfl) ?_
    refine lv_bipush (v := 6) hx hb dX4_satelliteOf_10 (by decide) ?_
    refine lv_icmp_le (tgt := 25) hx hb dX4_satelliteOf_12 (by decide) (fun c_4 => ?_) (fun c_4 => ?_)
    · have q_5 : ¬ F_in x2 0 6 = 0 := F_in_1 c_2 (fun q => z_nle.mpr q c_4)
      obtain ⟨g_x2, g_x2b⟩ := F_in_nat 7 q_5 (by decide)
      refine lv_iload_n hx hb dX4_satelliteOf_25 rfl (lv_at hl 2 rfl) ?_
      rcases (show ix x2 = 0 ∨ ix x2 = 1 ∨ ix x2 = 2 ∨ ix x2 = 3 ∨ ix x2 = 4 ∨ ix x2 = 5 ∨ ix x2 = 6 by omega) with k9 | k9 | k9 | k9 | k9 | k9 | k9
      · have e9 : x2 = nI 0 := by rw [g_x2, k9]
        refine lv_tableIn (off := 38) (tgt := 64) hx hb dX4_satelliteOf_26 (by rw [e9]; decide) (by rw [e9]; decide) (by rw [e9]; decide) (by decide) ?_
        refine lv_aload_n hx hb dX4_satelliteOf_64 rfl (lv_at hl 0 rfl) ?_
        refine z_get (ci := 4) (C := RX4) (T := TX4) (N := 7) hx hb hts b_X4_satelliteOf_wsX40 hown hK hP 0 rfl rfl 1 (by decide) (hts _ k_X4_satelliteOf_3) rfl (.ref (a 15)) rfl dX4_satelliteOf_65 ?_
        refine z_get (ci := 3) (C := RX3) (T := TX3) (N := 8) hx hb hts b_X4_satelliteOf_wsX30 hown hK hP 15 rfl rfl 0 (by decide) (hts _ k_X4_satelliteOf_4) rfl (.ref (a 16)) rfl dX4_satelliteOf_68 ?_
        refine lv_iload_n hx hb dX4_satelliteOf_71 rfl (lv_at hl 1 rfl) ?_
        refine z_iald hx hb hK hP 16 0 rfl rfl (ix x1) g_x1 (by omega) rfl dX4_satelliteOf_72 ?_
        exact zx_ret (W.iret (v := ss (ix x1)) hx hb hr (fun t ht hW => ⟨⟨ss (ix x1), (), rfl, ⟨(by first | with_reducible rfl | (simp only [E_satelliteOf, F_sof, if_neg c_1, if_neg c_2, if_pos c_4, if_neg q_5]; done) | (simp +decide only [E_satelliteOf, F_sof, k9, if_neg c_1, if_neg c_2, if_pos c_4, if_neg q_5]; done) | (simp [E_satelliteOf, F_sof, c_1, c_2, c_4, q_5, k9]; done) | (simp +decide [E_satelliteOf, F_sof, c_1, c_2, c_4, q_5, k9]; done)), (by first | with_reducible rfl | (simp only [E_satelliteOf, F_sof, if_neg c_1, if_neg c_2, if_pos c_4, if_neg q_5]; done) | (simp +decide only [E_satelliteOf, F_sof, k9, if_neg c_1, if_neg c_2, if_pos c_4, if_neg q_5]; done) | (simp [E_satelliteOf, F_sof, c_1, c_2, c_4, q_5, k9]; done) | (simp +decide [E_satelliteOf, F_sof, c_1, c_2, c_4, q_5, k9]; done))⟩, (z_at ht hP)⟩, hS.F ht⟩) hS.2.2 dX4_satelliteOf_73)
      · have e9 : x2 = nI 1 := by rw [g_x2, k9]
        refine lv_tableIn (off := 48) (tgt := 74) hx hb dX4_satelliteOf_26 (by rw [e9]; decide) (by rw [e9]; decide) (by rw [e9]; decide) (by decide) ?_
        refine lv_aload_n hx hb dX4_satelliteOf_74 rfl (lv_at hl 0 rfl) ?_
        refine z_get (ci := 4) (C := RX4) (T := TX4) (N := 7) hx hb hts b_X4_satelliteOf_wsX40 hown hK hP 0 rfl rfl 1 (by decide) (hts _ k_X4_satelliteOf_3) rfl (.ref (a 15)) rfl dX4_satelliteOf_75 ?_
        refine z_get (ci := 3) (C := RX3) (T := TX3) (N := 8) hx hb hts b_X4_satelliteOf_wsX30 hown hK hP 15 rfl rfl 1 (by decide) (hts _ k_X4_satelliteOf_5) rfl (.ref (a 17)) rfl dX4_satelliteOf_78 ?_
        refine lv_iload_n hx hb dX4_satelliteOf_81 rfl (lv_at hl 1 rfl) ?_
        refine z_iald hx hb hK hP 17 0 rfl rfl (ix x1) g_x1 (by omega) rfl dX4_satelliteOf_82 ?_
        exact zx_ret (W.iret (v := rg (ix x1)) hx hb hr (fun t ht hW => ⟨⟨rg (ix x1), (), rfl, ⟨(by first | with_reducible rfl | (simp only [E_satelliteOf, F_sof, if_neg c_1, if_neg c_2, if_pos c_4, if_neg q_5]; done) | (simp +decide only [E_satelliteOf, F_sof, k9, if_neg c_1, if_neg c_2, if_pos c_4, if_neg q_5]; done) | (simp [E_satelliteOf, F_sof, c_1, c_2, c_4, q_5, k9]; done) | (simp +decide [E_satelliteOf, F_sof, c_1, c_2, c_4, q_5, k9]; done)), (by first | with_reducible rfl | (simp only [E_satelliteOf, F_sof, if_neg c_1, if_neg c_2, if_pos c_4, if_neg q_5]; done) | (simp +decide only [E_satelliteOf, F_sof, k9, if_neg c_1, if_neg c_2, if_pos c_4, if_neg q_5]; done) | (simp [E_satelliteOf, F_sof, c_1, c_2, c_4, q_5, k9]; done) | (simp +decide [E_satelliteOf, F_sof, c_1, c_2, c_4, q_5, k9]; done))⟩, (z_at ht hP)⟩, hS.F ht⟩) hS.2.2 dX4_satelliteOf_83)
      · have e9 : x2 = nI 2 := by rw [g_x2, k9]
        refine lv_tableIn (off := 58) (tgt := 84) hx hb dX4_satelliteOf_26 (by rw [e9]; decide) (by rw [e9]; decide) (by rw [e9]; decide) (by decide) ?_
        refine lv_aload_n hx hb dX4_satelliteOf_84 rfl (lv_at hl 0 rfl) ?_
        refine z_get (ci := 4) (C := RX4) (T := TX4) (N := 7) hx hb hts b_X4_satelliteOf_wsX40 hown hK hP 0 rfl rfl 1 (by decide) (hts _ k_X4_satelliteOf_3) rfl (.ref (a 15)) rfl dX4_satelliteOf_85 ?_
        refine z_get (ci := 3) (C := RX3) (T := TX3) (N := 8) hx hb hts b_X4_satelliteOf_wsX30 hown hK hP 15 rfl rfl 2 (by decide) (hts _ k_X4_satelliteOf_6) rfl (.ref (a 18)) rfl dX4_satelliteOf_88 ?_
        refine lv_iload_n hx hb dX4_satelliteOf_91 rfl (lv_at hl 1 rfl) ?_
        refine z_iald hx hb hK hP 18 0 rfl rfl (ix x1) g_x1 (by omega) rfl dX4_satelliteOf_92 ?_
        exact zx_ret (W.iret (v := hw (ix x1)) hx hb hr (fun t ht hW => ⟨⟨hw (ix x1), (), rfl, ⟨(by first | with_reducible rfl | (simp only [E_satelliteOf, F_sof, if_neg c_1, if_neg c_2, if_pos c_4, if_neg q_5]; done) | (simp +decide only [E_satelliteOf, F_sof, k9, if_neg c_1, if_neg c_2, if_pos c_4, if_neg q_5]; done) | (simp [E_satelliteOf, F_sof, c_1, c_2, c_4, q_5, k9]; done) | (simp +decide [E_satelliteOf, F_sof, c_1, c_2, c_4, q_5, k9]; done)), (by first | with_reducible rfl | (simp only [E_satelliteOf, F_sof, if_neg c_1, if_neg c_2, if_pos c_4, if_neg q_5]; done) | (simp +decide only [E_satelliteOf, F_sof, k9, if_neg c_1, if_neg c_2, if_pos c_4, if_neg q_5]; done) | (simp [E_satelliteOf, F_sof, c_1, c_2, c_4, q_5, k9]; done) | (simp +decide [E_satelliteOf, F_sof, c_1, c_2, c_4, q_5, k9]; done))⟩, (z_at ht hP)⟩, hS.F ht⟩) hS.2.2 dX4_satelliteOf_93)
      · have e9 : x2 = nI 3 := by rw [g_x2, k9]
        refine lv_tableIn (off := 68) (tgt := 94) hx hb dX4_satelliteOf_26 (by rw [e9]; decide) (by rw [e9]; decide) (by rw [e9]; decide) (by decide) ?_
        refine lv_aload_n hx hb dX4_satelliteOf_94 rfl (lv_at hl 0 rfl) ?_
        refine z_get (ci := 4) (C := RX4) (T := TX4) (N := 7) hx hb hts b_X4_satelliteOf_wsX40 hown hK hP 0 rfl rfl 1 (by decide) (hts _ k_X4_satelliteOf_3) rfl (.ref (a 15)) rfl dX4_satelliteOf_95 ?_
        refine z_get (ci := 3) (C := RX3) (T := TX3) (N := 8) hx hb hts b_X4_satelliteOf_wsX30 hown hK hP 15 rfl rfl 3 (by decide) (hts _ k_X4_satelliteOf_7) rfl (.ref (a 19)) rfl dX4_satelliteOf_98 ?_
        refine lv_iload_n hx hb dX4_satelliteOf_101 rfl (lv_at hl 1 rfl) ?_
        refine z_iald hx hb hK hP 19 0 rfl rfl (ix x1) g_x1 (by omega) rfl dX4_satelliteOf_102 ?_
        exact zx_ret (W.iret (v := ax (ix x1)) hx hb hr (fun t ht hW => ⟨⟨ax (ix x1), (), rfl, ⟨(by first | with_reducible rfl | (simp only [E_satelliteOf, F_sof, if_neg c_1, if_neg c_2, if_pos c_4, if_neg q_5]; done) | (simp +decide only [E_satelliteOf, F_sof, k9, if_neg c_1, if_neg c_2, if_pos c_4, if_neg q_5]; done) | (simp [E_satelliteOf, F_sof, c_1, c_2, c_4, q_5, k9]; done) | (simp +decide [E_satelliteOf, F_sof, c_1, c_2, c_4, q_5, k9]; done)), (by first | with_reducible rfl | (simp only [E_satelliteOf, F_sof, if_neg c_1, if_neg c_2, if_pos c_4, if_neg q_5]; done) | (simp +decide only [E_satelliteOf, F_sof, k9, if_neg c_1, if_neg c_2, if_pos c_4, if_neg q_5]; done) | (simp [E_satelliteOf, F_sof, c_1, c_2, c_4, q_5, k9]; done) | (simp +decide [E_satelliteOf, F_sof, c_1, c_2, c_4, q_5, k9]; done))⟩, (z_at ht hP)⟩, hS.F ht⟩) hS.2.2 dX4_satelliteOf_103)
      · have e9 : x2 = nI 4 := by rw [g_x2, k9]
        refine lv_tableIn (off := 78) (tgt := 104) hx hb dX4_satelliteOf_26 (by rw [e9]; decide) (by rw [e9]; decide) (by rw [e9]; decide) (by decide) ?_
        refine lv_aload_n hx hb dX4_satelliteOf_104 rfl (lv_at hl 0 rfl) ?_
        refine z_get (ci := 4) (C := RX4) (T := TX4) (N := 7) hx hb hts b_X4_satelliteOf_wsX40 hown hK hP 0 rfl rfl 1 (by decide) (hts _ k_X4_satelliteOf_3) rfl (.ref (a 15)) rfl dX4_satelliteOf_105 ?_
        refine z_get (ci := 3) (C := RX3) (T := TX3) (N := 8) hx hb hts b_X4_satelliteOf_wsX30 hown hK hP 15 rfl rfl 4 (by decide) (hts _ k_X4_satelliteOf_8) rfl (.ref (a 20)) rfl dX4_satelliteOf_108 ?_
        refine lv_iload_n hx hb dX4_satelliteOf_111 rfl (lv_at hl 1 rfl) ?_
        refine z_iald hx hb hK hP 20 0 rfl rfl (ix x1) g_x1 (by omega) rfl dX4_satelliteOf_112 ?_
        exact zx_ret (W.iret (v := fu (ix x1)) hx hb hr (fun t ht hW => ⟨⟨fu (ix x1), (), rfl, ⟨(by first | with_reducible rfl | (simp only [E_satelliteOf, F_sof, if_neg c_1, if_neg c_2, if_pos c_4, if_neg q_5]; done) | (simp +decide only [E_satelliteOf, F_sof, k9, if_neg c_1, if_neg c_2, if_pos c_4, if_neg q_5]; done) | (simp [E_satelliteOf, F_sof, c_1, c_2, c_4, q_5, k9]; done) | (simp +decide [E_satelliteOf, F_sof, c_1, c_2, c_4, q_5, k9]; done)), (by first | with_reducible rfl | (simp only [E_satelliteOf, F_sof, if_neg c_1, if_neg c_2, if_pos c_4, if_neg q_5]; done) | (simp +decide only [E_satelliteOf, F_sof, k9, if_neg c_1, if_neg c_2, if_pos c_4, if_neg q_5]; done) | (simp [E_satelliteOf, F_sof, c_1, c_2, c_4, q_5, k9]; done) | (simp +decide [E_satelliteOf, F_sof, c_1, c_2, c_4, q_5, k9]; done))⟩, (z_at ht hP)⟩, hS.F ht⟩) hS.2.2 dX4_satelliteOf_113)
      · have e9 : x2 = nI 5 := by rw [g_x2, k9]
        refine lv_tableIn (off := 88) (tgt := 114) hx hb dX4_satelliteOf_26 (by rw [e9]; decide) (by rw [e9]; decide) (by rw [e9]; decide) (by decide) ?_
        refine lv_aload_n hx hb dX4_satelliteOf_114 rfl (lv_at hl 0 rfl) ?_
        refine z_get (ci := 4) (C := RX4) (T := TX4) (N := 7) hx hb hts b_X4_satelliteOf_wsX40 hown hK hP 0 rfl rfl 1 (by decide) (hts _ k_X4_satelliteOf_3) rfl (.ref (a 15)) rfl dX4_satelliteOf_115 ?_
        refine z_get (ci := 3) (C := RX3) (T := TX3) (N := 8) hx hb hts b_X4_satelliteOf_wsX30 hown hK hP 15 rfl rfl 2 (by decide) (hts _ k_X4_satelliteOf_6) rfl (.ref (a 18)) rfl dX4_satelliteOf_118 ?_
        refine lv_iload_n hx hb dX4_satelliteOf_121 rfl (lv_at hl 1 rfl) ?_
        refine z_iald hx hb hK hP 18 0 rfl rfl (ix x1) g_x1 (by omega) rfl dX4_satelliteOf_122 ?_
        refine lv_iconst (v := 1) hx hb dX4_satelliteOf_123 (by decide) ?_
        refine lv_icmp_ne (tgt := 131) hx hb dX4_satelliteOf_124 (by decide) (fun c_6 => ?_) (fun c_6 => ?_)
        · refine lv_aload_n hx hb dX4_satelliteOf_131 rfl (lv_at hl 0 rfl) ?_
          refine z_get (ci := 4) (C := RX4) (T := TX4) (N := 7) hx hb hts b_X4_satelliteOf_wsX40 hown hK hP 0 rfl rfl 6 (by decide) (hts _ k_X4_satelliteOf_9) rfl (.int td) rfl dX4_satelliteOf_132 ?_
          refine lv_aload_n hx hb dX4_satelliteOf_135 rfl (lv_at hl 0 rfl) ?_
          refine z_get (ci := 4) (C := RX4) (T := TX4) (N := 7) hx hb hts b_X4_satelliteOf_wsX40 hown hK hP 0 rfl rfl 1 (by decide) (hts _ k_X4_satelliteOf_3) rfl (.ref (a 15)) rfl dX4_satelliteOf_136 ?_
          refine z_get (ci := 3) (C := RX3) (T := TX3) (N := 8) hx hb hts b_X4_satelliteOf_wsX30 hown hK hP 15 rfl rfl 5 (by decide) (hts _ k_X4_satelliteOf_10) rfl (.ref (a 21)) rfl dX4_satelliteOf_139 ?_
          refine lv_iload_n hx hb dX4_satelliteOf_142 rfl (lv_at hl 1 rfl) ?_
          refine z_iald hx hb hK hP 21 0 rfl rfl (ix x1) g_x1 (by omega) rfl dX4_satelliteOf_143 ?_
          refine lv_isub hx hb dX4_satelliteOf_144 ?_
          exact zx_ret (W.iret (v := td - (si (ix x1))) hx hb hr (fun t ht hW => ⟨⟨td - (si (ix x1)), (), rfl, ⟨(by first | with_reducible rfl | (simp only [E_satelliteOf, F_sof, if_neg c_1, if_neg c_2, if_pos c_4, if_neg q_5, if_neg c_6]; done) | (simp +decide only [E_satelliteOf, F_sof, k9, if_neg c_1, if_neg c_2, if_pos c_4, if_neg q_5, if_neg c_6]; done) | (simp [E_satelliteOf, F_sof, c_1, c_2, c_4, q_5, c_6, k9]; done) | (simp +decide [E_satelliteOf, F_sof, c_1, c_2, c_4, q_5, c_6, k9]; done)), (by first | with_reducible rfl | (simp only [E_satelliteOf, F_sof, if_neg c_1, if_neg c_2, if_pos c_4, if_neg q_5, if_neg c_6]; done) | (simp +decide only [E_satelliteOf, F_sof, k9, if_neg c_1, if_neg c_2, if_pos c_4, if_neg q_5, if_neg c_6]; done) | (simp [E_satelliteOf, F_sof, c_1, c_2, c_4, q_5, c_6, k9]; done) | (simp +decide [E_satelliteOf, F_sof, c_1, c_2, c_4, q_5, c_6, k9]; done))⟩, (z_at ht hP)⟩, hS.F ht⟩) hS.2.2 dX4_satelliteOf_145)
        · refine lv_iconst (v := (-1)) hx hb dX4_satelliteOf_127 (by decide) ?_
          refine lv_goto (tgt := 145) hx hb dX4_satelliteOf_128 (by decide) ?_
          exact zx_ret (W.iret (v := (-1)) hx hb hr (fun t ht hW => ⟨⟨(-1), (), rfl, ⟨(by first | with_reducible rfl | (simp only [E_satelliteOf, F_sof, if_neg c_1, if_neg c_2, if_pos c_4, if_neg q_5, if_pos c_6]; done) | (simp +decide only [E_satelliteOf, F_sof, k9, if_neg c_1, if_neg c_2, if_pos c_4, if_neg q_5, if_pos c_6]; done) | (simp [E_satelliteOf, F_sof, c_1, c_2, c_4, q_5, c_6, k9]; done) | (simp +decide [E_satelliteOf, F_sof, c_1, c_2, c_4, q_5, c_6, k9]; done)), (by first | with_reducible rfl | (simp only [E_satelliteOf, F_sof, if_neg c_1, if_neg c_2, if_pos c_4, if_neg q_5, if_pos c_6]; done) | (simp +decide only [E_satelliteOf, F_sof, k9, if_neg c_1, if_neg c_2, if_pos c_4, if_neg q_5, if_pos c_6]; done) | (simp [E_satelliteOf, F_sof, c_1, c_2, c_4, q_5, c_6, k9]; done) | (simp +decide [E_satelliteOf, F_sof, c_1, c_2, c_4, q_5, c_6, k9]; done))⟩, (z_at ht hP)⟩, hS.F ht⟩) hS.2.2 dX4_satelliteOf_145)
      · have e9 : x2 = nI 6 := by rw [g_x2, k9]
        refine lv_tableOut (tgt := 146) hx hb dX4_satelliteOf_26 (by rw [e9]; decide) (by decide) ?_
        refine lv_aload_n hx hb dX4_satelliteOf_146 rfl (lv_at hl 0 rfl) ?_
        refine z_get (ci := 4) (C := RX4) (T := TX4) (N := 7) hx hb hts b_X4_satelliteOf_wsX40 hown hK hP 0 rfl rfl 0 (by decide) (hts _ k_X4_satelliteOf_11) rfl (.ref (a 3)) rfl dX4_satelliteOf_147 ?_
        refine lv_iload_n hx hb dX4_satelliteOf_150 rfl (lv_at hl 1 rfl) ?_
        refine z_ri (va_runV (As := [.int x1]) (rest := []) ⟨hx, hb, hml, hown, hts⟩ (c_X1_countServedBy l D cI cJ cZ a H.size ld sl bd pw dt st uc sv tl so lm n nd x1 (by first | assumption | omega)) (cwV 1 hts gX4_satelliteOf_X1_countServedBy rfl rfl rfl (by decide +kernel) ⟨Nat.le_of_ble_eq_true rfl, Nat.le_of_ble_eq_true rfl⟩) (z_pv hK (zP_mid (pre := (wOr cI cJ cZ a px py td)) (wc := (wFi cI cJ cZ a ld sl bd pw dt st uc sv tl so lm n nd)) (suf := ((wSa cI cJ cZ a ss rg hw ax fu si au ns) ++ ((wJo cI cJ cZ a jk jd js jt jn) ++ (wEx cI cJ cZ a ef es el ev et eo)))) hP) (zD_mid (pre := (wOr cI cJ cZ a px py td)) (wc := (wFi cI cJ cZ a ld sl bd pw dt st uc sv tl so lm n nd)) (suf := ((wSa cI cJ cZ a ss rg hw ax fu si au ns) ++ ((wJo cI cJ cZ a jk jd js jt jn) ++ (wEx cI cJ cZ a ef es el ev et eo)))) hD) (q0 := 0) (ci := 1) rfl rfl zT_b zT_m) rfl rfl hl.1 rfl (lv_room (Nat.le_of_ble_eq_true rfl)) dX4_satelliteOf_151 ⟨Nat.le_of_ble_eq_true rfl, Nat.le_of_ble_eq_true rfl⟩) hP hS hA (fun r_7 _ H locs hr_7 hP hS => ?_)
        subst hr_7
        exact zx_ret (W.iret (v := F_served sv x1 n) hx hb hr (fun t ht hW => ⟨⟨F_served sv x1 n, (), rfl, ⟨(by first | with_reducible rfl | (simp only [E_satelliteOf, F_sof, if_neg c_1, if_neg c_2, if_pos c_4, if_neg q_5]; done) | (simp +decide only [E_satelliteOf, F_sof, k9, if_neg c_1, if_neg c_2, if_pos c_4, if_neg q_5]; done) | (simp [E_satelliteOf, F_sof, c_1, c_2, c_4, q_5, k9]; done) | (simp +decide [E_satelliteOf, F_sof, c_1, c_2, c_4, q_5, k9]; done)), (by first | with_reducible rfl | (simp only [E_satelliteOf, F_sof, if_neg c_1, if_neg c_2, if_pos c_4, if_neg q_5]; done) | (simp +decide only [E_satelliteOf, F_sof, k9, if_neg c_1, if_neg c_2, if_pos c_4, if_neg q_5]; done) | (simp [E_satelliteOf, F_sof, c_1, c_2, c_4, q_5, k9]; done) | (simp +decide [E_satelliteOf, F_sof, c_1, c_2, c_4, q_5, k9]; done))⟩, (z_at ht hP)⟩, hS.F ht⟩) hS.2.2 dX4_satelliteOf_154)
    · have q_8 : F_in x2 0 6 = 0 := F_in_0b (z_nle.mp c_4)
      exact zx_thrS (X := zA) (text := "what is out of range") hx hb hflg hts hown (by decide +kernel) k_X4_satelliteOf_1 k_X4_satelliteOf_2 b_X4_satelliteOf_vx_atSRX487javalangIlleg zn_A zg_A hE.2.1.2.1.2.1 (by decide +kernel) hE hS (hl.1.trans hml.symm) dX4_satelliteOf_15 dX4_satelliteOf_18 dX4_satelliteOf_19 dX4_satelliteOf_21 dX4_satelliteOf_24 hno (Nat.le_of_ble_eq_true rfl) (Nat.le_of_ble_eq_true rfl) (Nat.le_of_ble_eq_true rfl) (Nat.le_of_ble_eq_true rfl) hlocks (fun t ht h1 h2 => ⟨(), trivial, ⟨(z_er2 (by first | with_reducible rfl | (simp only [E_satelliteOf, F_sof, if_neg c_1, if_neg c_2, if_neg c_4, if_pos q_8]; done) | (simp +decide only [E_satelliteOf, F_sof, if_neg c_1, if_neg c_2, if_neg c_4, if_pos q_8]; done) | (simp [E_satelliteOf, F_sof, c_1, c_2, c_4, q_8]; done) | (simp +decide [E_satelliteOf, F_sof, c_1, c_2, c_4, q_8]; done))), z_keepX hP h1 h2⟩, z_Fx hS h1 h2⟩) hS.2.2 rfl rfl
theorem k_X4_stateAnew_1 : (Cond.fieldLink RX4 33 "Orbitregister" "examination" "LOrbitregister$Examination;") ∈ wsX4_stateAnew := List.mem_of_getElem? (i := 1) rfl
theorem b_X4_stateAnew_wsX40 : ∀ w ∈ wsX40, w ∈ wsX4_stateAnew := fun _ h => List.mem_cons_of_mem _ (List.mem_append_left _ (List.mem_append_left _ (List.mem_append_left _ (List.mem_append_left _ (List.mem_append_right _ h)))))
theorem k_X4_stateAnew_2 : (Cond.fieldLink RX4 26 "Orbitregister" "journal" "LOrbitregister$Journal;") ∈ wsX4_stateAnew := List.mem_of_getElem? (i := 2) rfl
theorem k_X4_stateAnew_3 : (Cond.fieldLink RX4 45 "Orbitregister" "today" "I") ∈ wsX4_stateAnew := List.mem_of_getElem? (i := 3) rfl
set_option maxHeartbeats 4000000 in
set_option maxRecDepth 100000 in
theorem c_X4_stateAnew (l : Launch) (hflg : l.stackTraces = false) (D : va_G) (cI cJ cZ : ClassId) (a : Nat → Nat) (sz : Nat) (px : A32) (py : A64) (td : Int32) (ld : A32) (sl : A32) (bd : A32) (pw : A32) (dt : A32) (st : A32) (uc : A32) (sv : A32) (tl : A32) (so : A32) (lm : A32) (n : Nat) (nd : Int32) (ss : A32) (rg : A32) (hw : A32) (ax : A32) (fu : A32) (si : A32) (au : A32) (ns : Nat) (jk : A32) (jd : A32) (js : A32) (jt : A32) (jn : Nat) (ef : Int32) (es : Int32) (el : Int32) (ev : Int32) (et : Int32) (eo : Int32) (x1 : Int32) (hn : n ≤ 40) (hj : jn ≤ 512) (kk : Nat → Nat) (hkk : ∀ i, i < jn → jk i = nI (kk i) ∧ kk i < 8) : zx_Met l yX4_stateAnew wsX4_stateAnew ({ frames := 7, cells := 1, slots := 6, locals := 103 }) (va_Pc [.ref (a 0), .int x1] (ZP D (zt cI cJ cZ) (wAll cI cJ cZ a px py td ld sl bd pw dt st uc sv tl so lm n nd ss rg hw ax fu si au ns jk jd js jt jn ef es el ev et eo) sz (ZX (va_A (wAll cI cJ cZ a px py td ld sl bd pw dt st uc sv tl so lm n nd ss rg hw ax fu si au ns jk jd js jt jn ef es el ev et eo) sz)))) (va_Qi (fun (r : Int32) (_ : Unit) => E_one x1 n = 0 ∧ r = (F_reach td (F_exam x1 kk jd js jt ((-1), el, (-1), et, eo) jn)).1) (fun _ t => va_P D vwCl (wAll cI cJ cZ a px py td ld sl bd pw dt st uc sv tl so lm n nd ss rg hw ax fu si au ns jk jd js jt jn x1 ((F_reach td (F_exam x1 kk jd js jt ((-1), el, (-1), et, eo) jn)).1) ((F_reach td (F_exam x1 kk jd js jt ((-1), el, (-1), et, eo) jn)).2.1) ((F_reach td (F_exam x1 kk jd js jt ((-1), el, (-1), et, eo) jn)).2.2.1) ((F_reach td (F_exam x1 kk jd js jt ((-1), el, (-1), et, eo) jn)).2.2.2.1) ((F_reach td (F_exam x1 kk jd js jt ((-1), el, (-1), et, eo) jn)).2.2.2.2)) t.heap) (va_A (wAll cI cJ cZ a px py td ld sl bd pw dt st uc sv tl so lm n nd ss rg hw ax fu si au ns jk jd js jt jn ef es el ev et eo) sz)) (vx_X (fun _ : Unit => True) (fun E _ t => zER zI zS zS (E_one x1 n) E ∧ va_P D vwCl (wAll cI cJ cZ a px py td ld sl bd pw dt st uc sv tl so lm n nd ss rg hw ax fu si au ns jk jd js jt jn ef es el ev et eo) t.heap) (va_A (wAll cI cJ cZ a px py td ld sl bd pw dt st uc sv tl so lm n nd ss rg hw ax fu si au ns jk jd js jt jn ef es el ev et eo) sz)) (va_A (wAll cI cJ cZ a px py td ld sl bd pw dt st uc sv tl so lm n nd ss rg hw ax fu si au ns jk jd js jt jn ef es el ev et eo) sz) := by
  refine zx_ofW (cc := cX4_stateAnew) (maxL := 2) (ret := (some .int)) (by decide) rfl ?_
  intro p e s m args below meth c s₁ B hml hno hv
  obtain ⟨rfl, hsz, hP, hK, hD0, hE⟩ := hv
  have hx := B.exec
  have hb := B.bytes
  have hr := B.returns
  have hts := atoms_spec (ws := wsX4_stateAnew) B.pre
  have hown : s.vm.findClass RX4 = some m.cls := findClass_of_methodNamed B.named
  have hlocks := B.notSynchronized
  subst hsz
  have hD := hD0.self (sz := s.heap.size)
  generalize hAe : va_A (wAll cI cJ cZ a px py td ld sl bd pw dt st uc sv tl so lm n nd ss rg hw ax fu si au ns jk jd js jt jn ef es el ev et eo) s.heap.size = A at hD hE ⊢
  have hA : ∀ q : Nat, s.heap.size ≤ q → A q := fun q h => by rw [← hAe]; exact Or.inr h
  have hS : va_S A s.heap s.heap [] := va_S.rf
  have hl := lv_entry ([.ref (a 0), .int x1]) (n := 2) (Nat.le_of_ble_eq_true rfl)
  rw [lg_entry_eq]
  generalize (lg_sl ([.ref (a 0), .int x1]) ++ List.replicate (2 - (lg_sl ([.ref (a 0), .int x1])).length) Slot.unset).toArray = ls at hl ⊢
  have hl : lv_has ls 2 [(0, .ref (a 0)), (1, .int x1)] := hl
  have hP : va_P D vwCl (wAll cI cJ cZ a px py td ld sl bd pw dt st uc sv tl so lm n nd ss rg hw ax fu si au ns jk jd js jt jn ef es el ev et eo) s.heap := hP
  refine lv_aload_n hx hb dX4_stateAnew_0 rfl (lv_at hl 0 rfl) ?_
  refine lv_iload_n hx hb dX4_stateAnew_1 rfl (lv_at hl 1 rfl) ?_
  refine zx_ck (ws := (wAll cI cJ cZ a px py td ld sl bd pw dt st uc sv tl so lm n nd ss rg hw ax fu si au ns jk jd js jt jn ef es el ev et eo)) (cond := F_in x1 0 (nI n - 1) = 0) (X := zI) (zx_runV (As := [.int x1]) (rest := []) ⟨hx, hb, hml, hown, hts⟩ (c_X4_checkFiling l hflg D cI cJ cZ a s.heap.size px py td ld sl bd pw dt st uc sv tl so lm n nd ss rg hw ax fu si au ns jk jd js jt jn ef es el ev et eo x1 (by first | assumption | omega)) (cwV 1 hts gX4_stateAnew_X4_checkFiling rfl rfl rfl (by decide +kernel) ⟨Nat.le_of_ble_eq_true rfl, Nat.le_of_ble_eq_true rfl⟩) (z_pv hK hP hD (q0 := 0) (ci := 4) rfl rfl ZX_b (ZX_m hE hS (z_free0 hS hA))) rfl rfl hl.1 rfl (lv_room (Nat.le_of_ble_eq_true rfl)) dX4_stateAnew_2 ⟨Nat.le_of_ble_eq_true rfl, Nat.le_of_ble_eq_true rfl⟩) hP hS hA hno hlocks rfl rfl (fun c_1 => (z_er1 (by first | with_reducible rfl | (simp only [E_one, if_pos c_1]; done) | (simp +decide only [E_one, if_pos c_1]; done) | (simp [E_one, c_1]; done) | (simp +decide [E_one, c_1]; done)))) (fun _ H locs c_1 hP hS => ?_)
  obtain ⟨g_x1, g_x1b⟩ := F_in_ix c_1 (by omega)
  refine lv_aload_n hx hb dX4_stateAnew_5 rfl (lv_at hl 0 rfl) ?_
  refine z_get (ci := 4) (C := RX4) (T := TX4) (N := 7) hx hb hts b_X4_stateAnew_wsX40 hown hK hP 0 rfl rfl 3 (by decide) (hts _ k_X4_stateAnew_1) rfl (.ref (a 28)) rfl dX4_stateAnew_6 ?_
  refine lv_aload_n hx hb dX4_stateAnew_9 rfl (lv_at hl 0 rfl) ?_
  refine z_get (ci := 4) (C := RX4) (T := TX4) (N := 7) hx hb hts b_X4_stateAnew_wsX40 hown hK hP 0 rfl rfl 2 (by decide) (hts _ k_X4_stateAnew_2) rfl (.ref (a 23)) rfl dX4_stateAnew_10 ?_
  refine lv_iload_n hx hb dX4_stateAnew_13 rfl (lv_at hl 1 rfl) ?_
  refine lv_aload_n hx hb dX4_stateAnew_14 rfl (lv_at hl 0 rfl) ?_
  refine z_get (ci := 4) (C := RX4) (T := TX4) (N := 7) hx hb hts b_X4_stateAnew_wsX40 hown hK hP 0 rfl rfl 6 (by decide) (hts _ k_X4_stateAnew_3) rfl (.int td) rfl dX4_stateAnew_15 ?_
  refine z_ci (pre := ((wOr cI cJ cZ a px py td) ++ ((wFi cI cJ cZ a ld sl bd pw dt st uc sv tl so lm n nd) ++ (wSa cI cJ cZ a ss rg hw ax fu si au ns)))) (wc := ((wJo cI cJ cZ a jk jd js jt jn) ++ (wEx cI cJ cZ a ef es el ev et eo))) (suf := ([] : va_W)) (w1 := fun _ => ((wJo cI cJ cZ a jk jd js jt jn) ++ (wEx cI cJ cZ a x1 ((F_reach td (F_exam x1 kk jd js jt ((-1), el, (-1), et, eo) jn)).1) ((F_reach td (F_exam x1 kk jd js jt ((-1), el, (-1), et, eo) jn)).2.1) ((F_reach td (F_exam x1 kk jd js jt ((-1), el, (-1), et, eo) jn)).2.2.1) ((F_reach td (F_exam x1 kk jd js jt ((-1), el, (-1), et, eo) jn)).2.2.2.1) ((F_reach td (F_exam x1 kk jd js jt ((-1), el, (-1), et, eo) jn)).2.2.2.2)))) (va_runV (As := [.ref (a 23), .int x1, .int td]) (rest := []) ⟨hx, hb, hml, hown, hts⟩ (c_X0_examine l D cI cJ cZ a H.size jk jd js jt jn ef es el ev et eo x1 td (by first | assumption | omega) kk hkk) (cwV 3 hts gX4_stateAnew_X0_examine rfl rfl rfl (by decide +kernel) ⟨Nat.le_of_ble_eq_true rfl, Nat.le_of_ble_eq_true rfl⟩) (z_pv hK (zP_mid (pre := ((wOr cI cJ cZ a px py td) ++ ((wFi cI cJ cZ a ld sl bd pw dt st uc sv tl so lm n nd) ++ (wSa cI cJ cZ a ss rg hw ax fu si au ns)))) (wc := ((wJo cI cJ cZ a jk jd js jt jn) ++ (wEx cI cJ cZ a ef es el ev et eo))) (suf := ([] : va_W)) hP) (zD_mid (pre := ((wOr cI cJ cZ a px py td) ++ ((wFi cI cJ cZ a ld sl bd pw dt st uc sv tl so lm n nd) ++ (wSa cI cJ cZ a ss rg hw ax fu si au ns)))) (wc := ((wJo cI cJ cZ a jk jd js jt jn) ++ (wEx cI cJ cZ a ef es el ev et eo))) (suf := ([] : va_W)) hD) (q0 := 5) (ci := 0) rfl rfl ZN_b (ZN_m hE.1)) rfl rfl hl.1 rfl (lv_room (Nat.le_of_ble_eq_true rfl)) dX4_stateAnew_18 ⟨Nat.le_of_ble_eq_true rfl, Nat.le_of_ble_eq_true rfl⟩) hP hD hS hA (fun _ => rfl) (fun r_2 _ H locs hr_2 hP hD hS => ?_)
  have hP : va_P D vwCl (wAll cI cJ cZ a px py td ld sl bd pw dt st uc sv tl so lm n nd ss rg hw ax fu si au ns jk jd js jt jn x1 ((F_reach td (F_exam x1 kk jd js jt ((-1), el, (-1), et, eo) jn)).1) ((F_reach td (F_exam x1 kk jd js jt ((-1), el, (-1), et, eo) jn)).2.1) ((F_reach td (F_exam x1 kk jd js jt ((-1), el, (-1), et, eo) jn)).2.2.1) ((F_reach td (F_exam x1 kk jd js jt ((-1), el, (-1), et, eo) jn)).2.2.2.1) ((F_reach td (F_exam x1 kk jd js jt ((-1), el, (-1), et, eo) jn)).2.2.2.2)) H := hP
  have hD : va_D A (wAll cI cJ cZ a px py td ld sl bd pw dt st uc sv tl so lm n nd ss rg hw ax fu si au ns jk jd js jt jn x1 ((F_reach td (F_exam x1 kk jd js jt ((-1), el, (-1), et, eo) jn)).1) ((F_reach td (F_exam x1 kk jd js jt ((-1), el, (-1), et, eo) jn)).2.1) ((F_reach td (F_exam x1 kk jd js jt ((-1), el, (-1), et, eo) jn)).2.2.1) ((F_reach td (F_exam x1 kk jd js jt ((-1), el, (-1), et, eo) jn)).2.2.2.1) ((F_reach td (F_exam x1 kk jd js jt ((-1), el, (-1), et, eo) jn)).2.2.2.2)) := hD
  subst hr_2
  exact zx_ret (W.iret (v := (F_reach td (F_exam x1 kk jd js jt ((-1), el, (-1), et, eo) jn)).1) hx hb hr (fun t ht hW => ⟨⟨(F_reach td (F_exam x1 kk jd js jt ((-1), el, (-1), et, eo) jn)).1, (), rfl, ⟨(by first | with_reducible rfl | (simp only [E_one, if_neg c_1]; done) | (simp +decide only [E_one, if_neg c_1]; done) | (simp [E_one, c_1]; done) | (simp +decide [E_one, c_1]; done)), rfl⟩, (z_at ht hP)⟩, hS.F ht⟩) hS.2.2 dX4_stateAnew_21)
theorem k_X4_allowed_1 : (Cond.fieldLink RX4 10 "Orbitregister" "filings" "LOrbitregister$Filings;") ∈ wsX4_allowed := List.mem_of_getElem? (i := 1) rfl
theorem b_X4_allowed_wsX40 : ∀ w ∈ wsX40, w ∈ wsX4_allowed := fun _ h => List.mem_cons_of_mem _ (List.mem_append_left _ (List.mem_append_left _ (List.mem_append_right _ h)))
set_option maxHeartbeats 4000000 in
set_option maxRecDepth 100000 in
theorem c_X4_allowed (l : Launch) (hflg : l.stackTraces = false) (D : va_G) (cI cJ cZ : ClassId) (a : Nat → Nat) (sz : Nat) (px : A32) (py : A64) (td : Int32) (ld : A32) (sl : A32) (bd : A32) (pw : A32) (dt : A32) (st : A32) (uc : A32) (sv : A32) (tl : A32) (so : A32) (lm : A32) (n : Nat) (nd : Int32) (ss : A32) (rg : A32) (hw : A32) (ax : A32) (fu : A32) (si : A32) (au : A32) (ns : Nat) (jk : A32) (jd : A32) (js : A32) (jt : A32) (jn : Nat) (ef : Int32) (es : Int32) (el : Int32) (ev : Int32) (et : Int32) (eo : Int32) (x1 : Int32) (x2 : Int32) (hn : n ≤ 40) : zx_Met l yX4_allowed wsX4_allowed ({ frames := 7, cells := 1, slots := 6, locals := 103 }) (va_Pc [.ref (a 0), .int x1, .int x2] (ZP D (zt cI cJ cZ) (wAll cI cJ cZ a px py td ld sl bd pw dt st uc sv tl so lm n nd ss rg hw ax fu si au ns jk jd js jt jn ef es el ev et eo) sz (ZX (va_A (wAll cI cJ cZ a px py td ld sl bd pw dt st uc sv tl so lm n nd ss rg hw ax fu si au ns jk jd js jt jn ef es el ev et eo) sz)))) (va_Qi (fun (r : Int32) (_ : Unit) => E_two x1 x2 n = 0 ∧ r = F_allow dt st lm (ix x1) (ix x2)) (fun _ t => va_P D vwCl (wAll cI cJ cZ a px py td ld sl bd pw dt st uc sv tl so lm n nd ss rg hw ax fu si au ns jk jd js jt jn ef es el ev et eo) t.heap) (va_A (wAll cI cJ cZ a px py td ld sl bd pw dt st uc sv tl so lm n nd ss rg hw ax fu si au ns jk jd js jt jn ef es el ev et eo) sz)) (vx_X (fun _ : Unit => True) (fun E _ t => zER zI zS zS (E_two x1 x2 n) E ∧ va_P D vwCl (wAll cI cJ cZ a px py td ld sl bd pw dt st uc sv tl so lm n nd ss rg hw ax fu si au ns jk jd js jt jn ef es el ev et eo) t.heap) (va_A (wAll cI cJ cZ a px py td ld sl bd pw dt st uc sv tl so lm n nd ss rg hw ax fu si au ns jk jd js jt jn ef es el ev et eo) sz)) (va_A (wAll cI cJ cZ a px py td ld sl bd pw dt st uc sv tl so lm n nd ss rg hw ax fu si au ns jk jd js jt jn ef es el ev et eo) sz) := by
  refine zx_ofW (cc := cX4_allowed) (maxL := 3) (ret := (some .int)) (by decide) rfl ?_
  intro p e s m args below meth c s₁ B hml hno hv
  obtain ⟨rfl, hsz, hP, hK, hD0, hE⟩ := hv
  have hx := B.exec
  have hb := B.bytes
  have hr := B.returns
  have hts := atoms_spec (ws := wsX4_allowed) B.pre
  have hown : s.vm.findClass RX4 = some m.cls := findClass_of_methodNamed B.named
  have hlocks := B.notSynchronized
  subst hsz
  have hD := hD0.self (sz := s.heap.size)
  generalize hAe : va_A (wAll cI cJ cZ a px py td ld sl bd pw dt st uc sv tl so lm n nd ss rg hw ax fu si au ns jk jd js jt jn ef es el ev et eo) s.heap.size = A at hD hE ⊢
  have hA : ∀ q : Nat, s.heap.size ≤ q → A q := fun q h => by rw [← hAe]; exact Or.inr h
  have hS : va_S A s.heap s.heap [] := va_S.rf
  have hl := lv_entry ([.ref (a 0), .int x1, .int x2]) (n := 3) (Nat.le_of_ble_eq_true rfl)
  rw [lg_entry_eq]
  generalize (lg_sl ([.ref (a 0), .int x1, .int x2]) ++ List.replicate (3 - (lg_sl ([.ref (a 0), .int x1, .int x2])).length) Slot.unset).toArray = ls at hl ⊢
  have hl : lv_has ls 3 [(0, .ref (a 0)), (1, .int x1), (2, .int x2)] := hl
  have hP : va_P D vwCl (wAll cI cJ cZ a px py td ld sl bd pw dt st uc sv tl so lm n nd ss rg hw ax fu si au ns jk jd js jt jn ef es el ev et eo) s.heap := hP
  refine lv_aload_n hx hb dX4_allowed_0 rfl (lv_at hl 0 rfl) ?_
  refine lv_iload_n hx hb dX4_allowed_1 rfl (lv_at hl 1 rfl) ?_
  refine zx_ck (ws := (wAll cI cJ cZ a px py td ld sl bd pw dt st uc sv tl so lm n nd ss rg hw ax fu si au ns jk jd js jt jn ef es el ev et eo)) (cond := F_in x1 0 (nI n - 1) = 0) (X := zI) (zx_runV (As := [.int x1]) (rest := []) ⟨hx, hb, hml, hown, hts⟩ (c_X4_checkFiling l hflg D cI cJ cZ a s.heap.size px py td ld sl bd pw dt st uc sv tl so lm n nd ss rg hw ax fu si au ns jk jd js jt jn ef es el ev et eo x1 (by first | assumption | omega)) (cwV 1 hts gX4_allowed_X4_checkFiling rfl rfl rfl (by decide +kernel) ⟨Nat.le_of_ble_eq_true rfl, Nat.le_of_ble_eq_true rfl⟩) (z_pv hK hP hD (q0 := 0) (ci := 4) rfl rfl ZX_b (ZX_m hE hS (z_free0 hS hA))) rfl rfl hl.1 rfl (lv_room (Nat.le_of_ble_eq_true rfl)) dX4_allowed_2 ⟨Nat.le_of_ble_eq_true rfl, Nat.le_of_ble_eq_true rfl⟩) hP hS hA hno hlocks rfl rfl (fun c_1 => (z_er1 (by first | with_reducible rfl | (simp only [E_two, F_allow, if_pos c_1]; done) | (simp +decide only [E_two, F_allow, if_pos c_1]; done) | (simp [E_two, F_allow, c_1]; done) | (simp +decide [E_two, F_allow, c_1]; done)))) (fun _ H locs c_1 hP hS => ?_)
  obtain ⟨g_x1, g_x1b⟩ := F_in_ix c_1 (by omega)
  refine lv_aload_n hx hb dX4_allowed_5 rfl (lv_at hl 0 rfl) ?_
  refine lv_iload_n hx hb dX4_allowed_6 rfl (lv_at hl 2 rfl) ?_
  refine zx_ck (ws := (wAll cI cJ cZ a px py td ld sl bd pw dt st uc sv tl so lm n nd ss rg hw ax fu si au ns jk jd js jt jn ef es el ev et eo)) (cond := F_in x2 0 (nI n - 1) = 0) (X := zI) (zx_runV (As := [.int x2]) (rest := []) ⟨hx, hb, hml, hown, hts⟩ (c_X4_checkFiling l hflg D cI cJ cZ a H.size px py td ld sl bd pw dt st uc sv tl so lm n nd ss rg hw ax fu si au ns jk jd js jt jn ef es el ev et eo x2 (by first | assumption | omega)) (cwV 1 hts gX4_allowed_X4_checkFiling rfl rfl rfl (by decide +kernel) ⟨Nat.le_of_ble_eq_true rfl, Nat.le_of_ble_eq_true rfl⟩) (z_pv hK hP hD (q0 := 0) (ci := 4) rfl rfl ZX_b (ZX_m hE hS (z_free0 hS hA))) rfl rfl hl.1 rfl (lv_room (Nat.le_of_ble_eq_true rfl)) dX4_allowed_7 ⟨Nat.le_of_ble_eq_true rfl, Nat.le_of_ble_eq_true rfl⟩) hP hS hA hno hlocks rfl rfl (fun c_2 => (z_er1 (by first | with_reducible rfl | (simp only [E_two, F_allow, if_neg c_1, if_pos c_2]; done) | (simp +decide only [E_two, F_allow, if_neg c_1, if_pos c_2]; done) | (simp [E_two, F_allow, c_1, c_2]; done) | (simp +decide [E_two, F_allow, c_1, c_2]; done)))) (fun _ H locs c_2 hP hS => ?_)
  obtain ⟨g_x2, g_x2b⟩ := F_in_ix c_2 (by omega)
  refine lv_aload_n hx hb dX4_allowed_10 rfl (lv_at hl 0 rfl) ?_
  refine z_get (ci := 4) (C := RX4) (T := TX4) (N := 7) hx hb hts b_X4_allowed_wsX40 hown hK hP 0 rfl rfl 0 (by decide) (hts _ k_X4_allowed_1) rfl (.ref (a 3)) rfl dX4_allowed_11 ?_
  refine lv_iload_n hx hb dX4_allowed_14 rfl (lv_at hl 2 rfl) ?_
  refine lv_iload_n hx hb dX4_allowed_15 rfl (lv_at hl 1 rfl) ?_
  refine z_ri (va_runV (As := [.int x2, .int x1]) (rest := []) ⟨hx, hb, hml, hown, hts⟩ (c_X1_isAhead l D cI cJ cZ a H.size ld sl bd pw dt st uc sv tl so lm n nd x2 (ix x2) g_x2 (by omega) x1 (ix x1) g_x1 (by omega)) (cwV 2 hts gX4_allowed_X1_isAhead rfl rfl rfl (by decide +kernel) ⟨Nat.le_of_ble_eq_true rfl, Nat.le_of_ble_eq_true rfl⟩) (z_pv hK (zP_mid (pre := (wOr cI cJ cZ a px py td)) (wc := (wFi cI cJ cZ a ld sl bd pw dt st uc sv tl so lm n nd)) (suf := ((wSa cI cJ cZ a ss rg hw ax fu si au ns) ++ ((wJo cI cJ cZ a jk jd js jt jn) ++ (wEx cI cJ cZ a ef es el ev et eo)))) hP) (zD_mid (pre := (wOr cI cJ cZ a px py td)) (wc := (wFi cI cJ cZ a ld sl bd pw dt st uc sv tl so lm n nd)) (suf := ((wSa cI cJ cZ a ss rg hw ax fu si au ns) ++ ((wJo cI cJ cZ a jk jd js jt jn) ++ (wEx cI cJ cZ a ef es el ev et eo)))) hD) (q0 := 0) (ci := 1) rfl rfl zT_b zT_m) rfl rfl hl.1 rfl (lv_room (Nat.le_of_ble_eq_true rfl)) dX4_allowed_16 ⟨Nat.le_of_ble_eq_true rfl, Nat.le_of_ble_eq_true rfl⟩) hP hS hA (fun r_3 _ H locs hr_3 hP hS => ?_)
  subst hr_3
  refine lv_if_eq (tgt := 44) hx hb dX4_allowed_19 (by decide) (fun c_4 => ?_) (fun c_4 => ?_)
  · refine lv_iconst (v := (-1)) hx hb dX4_allowed_44 (by decide) ?_
    exact zx_ret (W.iret (v := (-1)) hx hb hr (fun t ht hW => ⟨⟨(-1), (), rfl, ⟨(by first | with_reducible rfl | (simp only [E_two, F_allow, if_neg c_1, if_neg c_2, if_pos c_4]; done) | (simp +decide only [E_two, F_allow, if_neg c_1, if_neg c_2, if_pos c_4]; done) | (simp [E_two, F_allow, c_1, c_2, c_4]; done) | (simp +decide [E_two, F_allow, c_1, c_2, c_4]; done)), (by first | with_reducible rfl | (simp only [E_two, F_allow, if_neg c_1, if_neg c_2, if_pos c_4]; done) | (simp +decide only [E_two, F_allow, if_neg c_1, if_neg c_2, if_pos c_4]; done) | (simp [E_two, F_allow, c_1, c_2, c_4]; done) | (simp +decide [E_two, F_allow, c_1, c_2, c_4]; done))⟩, (z_at ht hP)⟩, hS.F ht⟩) hS.2.2 dX4_allowed_45)
  · refine lv_aload_n hx hb dX4_allowed_22 rfl (lv_at hl 0 rfl) ?_
    refine z_get (ci := 4) (C := RX4) (T := TX4) (N := 7) hx hb hts b_X4_allowed_wsX40 hown hK hP 0 rfl rfl 0 (by decide) (hts _ k_X4_allowed_1) rfl (.ref (a 3)) rfl dX4_allowed_23 ?_
    refine lv_iload_n hx hb dX4_allowed_26 rfl (lv_at hl 1 rfl) ?_
    refine z_ri (va_runV (As := [.int x1]) (rest := []) ⟨hx, hb, hml, hown, hts⟩ (c_X1_isLapsed l D cI cJ cZ a H.size ld sl bd pw dt st uc sv tl so lm n nd x1 (ix x1) g_x1 (by omega)) (cwV 1 hts gX4_allowed_X1_isLapsed rfl rfl rfl (by decide +kernel) ⟨Nat.le_of_ble_eq_true rfl, Nat.le_of_ble_eq_true rfl⟩) (z_pv hK (zP_mid (pre := (wOr cI cJ cZ a px py td)) (wc := (wFi cI cJ cZ a ld sl bd pw dt st uc sv tl so lm n nd)) (suf := ((wSa cI cJ cZ a ss rg hw ax fu si au ns) ++ ((wJo cI cJ cZ a jk jd js jt jn) ++ (wEx cI cJ cZ a ef es el ev et eo)))) hP) (zD_mid (pre := (wOr cI cJ cZ a px py td)) (wc := (wFi cI cJ cZ a ld sl bd pw dt st uc sv tl so lm n nd)) (suf := ((wSa cI cJ cZ a ss rg hw ax fu si au ns) ++ ((wJo cI cJ cZ a jk jd js jt jn) ++ (wEx cI cJ cZ a ef es el ev et eo)))) hD) (q0 := 0) (ci := 1) rfl rfl zT_b zT_m) rfl rfl hl.1 rfl (lv_room (Nat.le_of_ble_eq_true rfl)) dX4_allowed_27 ⟨Nat.le_of_ble_eq_true rfl, Nat.le_of_ble_eq_true rfl⟩) hP hS hA (fun r_5 _ H locs hr_5 hP hS => ?_)
    subst hr_5
    refine lv_if_ne (tgt := 44) hx hb dX4_allowed_30 (by decide) (fun c_6 => ?_) (fun c_6 => ?_)
    · refine lv_iconst (v := (-1)) hx hb dX4_allowed_44 (by decide) ?_
      exact zx_ret (W.iret (v := (-1)) hx hb hr (fun t ht hW => ⟨⟨(-1), (), rfl, ⟨(by first | with_reducible rfl | (simp only [E_two, F_allow, if_neg c_1, if_neg c_2, if_neg c_4, if_neg c_6]; done) | (simp +decide only [E_two, F_allow, if_neg c_1, if_neg c_2, if_neg c_4, if_neg c_6]; done) | (simp [E_two, F_allow, c_1, c_2, c_4, c_6]; done) | (simp +decide [E_two, F_allow, c_1, c_2, c_4, c_6]; done)), (by first | with_reducible rfl | (simp only [E_two, F_allow, if_neg c_1, if_neg c_2, if_neg c_4, if_neg c_6]; done) | (simp +decide only [E_two, F_allow, if_neg c_1, if_neg c_2, if_neg c_4, if_neg c_6]; done) | (simp [E_two, F_allow, c_1, c_2, c_4, c_6]; done) | (simp +decide [E_two, F_allow, c_1, c_2, c_4, c_6]; done))⟩, (z_at ht hP)⟩, hS.F ht⟩) hS.2.2 dX4_allowed_45)
    · refine lv_aload_n hx hb dX4_allowed_33 rfl (lv_at hl 0 rfl) ?_
      refine z_get (ci := 4) (C := RX4) (T := TX4) (N := 7) hx hb hts b_X4_allowed_wsX40 hown hK hP 0 rfl rfl 0 (by decide) (hts _ k_X4_allowed_1) rfl (.ref (a 3)) rfl dX4_allowed_34 ?_
      refine lv_iload_n hx hb dX4_allowed_37 rfl (lv_at hl 2 rfl) ?_
      refine z_ri (va_runV (As := [.int x2]) (rest := []) ⟨hx, hb, hml, hown, hts⟩ (c_X1_isLapsed l D cI cJ cZ a H.size ld sl bd pw dt st uc sv tl so lm n nd x2 (ix x2) g_x2 (by omega)) (cwV 1 hts gX4_allowed_X1_isLapsed rfl rfl rfl (by decide +kernel) ⟨Nat.le_of_ble_eq_true rfl, Nat.le_of_ble_eq_true rfl⟩) (z_pv hK (zP_mid (pre := (wOr cI cJ cZ a px py td)) (wc := (wFi cI cJ cZ a ld sl bd pw dt st uc sv tl so lm n nd)) (suf := ((wSa cI cJ cZ a ss rg hw ax fu si au ns) ++ ((wJo cI cJ cZ a jk jd js jt jn) ++ (wEx cI cJ cZ a ef es el ev et eo)))) hP) (zD_mid (pre := (wOr cI cJ cZ a px py td)) (wc := (wFi cI cJ cZ a ld sl bd pw dt st uc sv tl so lm n nd)) (suf := ((wSa cI cJ cZ a ss rg hw ax fu si au ns) ++ ((wJo cI cJ cZ a jk jd js jt jn) ++ (wEx cI cJ cZ a ef es el ev et eo)))) hD) (q0 := 0) (ci := 1) rfl rfl zT_b zT_m) rfl rfl hl.1 rfl (lv_room (Nat.le_of_ble_eq_true rfl)) dX4_allowed_38 ⟨Nat.le_of_ble_eq_true rfl, Nat.le_of_ble_eq_true rfl⟩) hP hS hA (fun r_7 _ H locs hr_7 hP hS => ?_)
      subst hr_7
      refine lv_if_eq (tgt := 46) hx hb dX4_allowed_41 (by decide) (fun c_8 => ?_) (fun c_8 => ?_)
      · refine lv_aload_n hx hb dX4_allowed_46 rfl (lv_at hl 0 rfl) ?_
        refine z_get (ci := 4) (C := RX4) (T := TX4) (N := 7) hx hb hts b_X4_allowed_wsX40 hown hK hP 0 rfl rfl 0 (by decide) (hts _ k_X4_allowed_1) rfl (.ref (a 3)) rfl dX4_allowed_47 ?_
        refine lv_iload_n hx hb dX4_allowed_50 rfl (lv_at hl 1 rfl) ?_
        refine lv_iload_n hx hb dX4_allowed_51 rfl (lv_at hl 2 rfl) ?_
        refine z_ri (va_runV (As := [.int x1, .int x2]) (rest := []) ⟨hx, hb, hml, hown, hts⟩ (c_X1_limitOfPair l D cI cJ cZ a H.size ld sl bd pw dt st uc sv tl so lm n nd x1 (ix x1) g_x1 (by omega) x2 (ix x2) g_x2 (by omega)) (cwV 2 hts gX4_allowed_X1_limitOfPair rfl rfl rfl (by decide +kernel) ⟨Nat.le_of_ble_eq_true rfl, Nat.le_of_ble_eq_true rfl⟩) (z_pv hK (zP_mid (pre := (wOr cI cJ cZ a px py td)) (wc := (wFi cI cJ cZ a ld sl bd pw dt st uc sv tl so lm n nd)) (suf := ((wSa cI cJ cZ a ss rg hw ax fu si au ns) ++ ((wJo cI cJ cZ a jk jd js jt jn) ++ (wEx cI cJ cZ a ef es el ev et eo)))) hP) (zD_mid (pre := (wOr cI cJ cZ a px py td)) (wc := (wFi cI cJ cZ a ld sl bd pw dt st uc sv tl so lm n nd)) (suf := ((wSa cI cJ cZ a ss rg hw ax fu si au ns) ++ ((wJo cI cJ cZ a jk jd js jt jn) ++ (wEx cI cJ cZ a ef es el ev et eo)))) hD) (q0 := 0) (ci := 1) rfl rfl zT_b zT_m) rfl rfl hl.1 rfl (lv_room (Nat.le_of_ble_eq_true rfl)) dX4_allowed_52 ⟨Nat.le_of_ble_eq_true rfl, Nat.le_of_ble_eq_true rfl⟩) hP hS hA (fun r_9 _ H locs hr_9 hP hS => ?_)
        subst hr_9
        exact zx_ret (W.iret (v := lm ((ix x1) * 40 + (ix x2))) hx hb hr (fun t ht hW => ⟨⟨lm ((ix x1) * 40 + (ix x2)), (), rfl, ⟨(by first | with_reducible rfl | (simp only [E_two, F_allow, if_neg c_1, if_neg c_2, if_neg c_4, if_pos c_6, if_pos c_8]; done) | (simp +decide only [E_two, F_allow, if_neg c_1, if_neg c_2, if_neg c_4, if_pos c_6, if_pos c_8]; done) | (simp [E_two, F_allow, c_1, c_2, c_4, c_6, c_8]; done) | (simp +decide [E_two, F_allow, c_1, c_2, c_4, c_6, c_8]; done)), (by first | with_reducible rfl | (simp only [E_two, F_allow, if_neg c_1, if_neg c_2, if_neg c_4, if_pos c_6, if_pos c_8]; done) | (simp +decide only [E_two, F_allow, if_neg c_1, if_neg c_2, if_neg c_4, if_pos c_6, if_pos c_8]; done) | (simp [E_two, F_allow, c_1, c_2, c_4, c_6, c_8]; done) | (simp +decide [E_two, F_allow, c_1, c_2, c_4, c_6, c_8]; done))⟩, (z_at ht hP)⟩, hS.F ht⟩) hS.2.2 dX4_allowed_55)
      · refine lv_iconst (v := (-1)) hx hb dX4_allowed_44 (by decide) ?_
        exact zx_ret (W.iret (v := (-1)) hx hb hr (fun t ht hW => ⟨⟨(-1), (), rfl, ⟨(by first | with_reducible rfl | (simp only [E_two, F_allow, if_neg c_1, if_neg c_2, if_neg c_4, if_pos c_6, if_neg c_8]; done) | (simp +decide only [E_two, F_allow, if_neg c_1, if_neg c_2, if_neg c_4, if_pos c_6, if_neg c_8]; done) | (simp [E_two, F_allow, c_1, c_2, c_4, c_6, c_8]; done) | (simp +decide [E_two, F_allow, c_1, c_2, c_4, c_6, c_8]; done)), (by first | with_reducible rfl | (simp only [E_two, F_allow, if_neg c_1, if_neg c_2, if_neg c_4, if_pos c_6, if_neg c_8]; done) | (simp +decide only [E_two, F_allow, if_neg c_1, if_neg c_2, if_neg c_4, if_pos c_6, if_neg c_8]; done) | (simp [E_two, F_allow, c_1, c_2, c_4, c_6, c_8]; done) | (simp +decide [E_two, F_allow, c_1, c_2, c_4, c_6, c_8]; done))⟩, (z_at ht hP)⟩, hS.F ht⟩) hS.2.2 dX4_allowed_45)
theorem k_X4_pieces_1 : (Cond.classLink RX4 277 "java/lang/IndexOutOfBoundsException") ∈ wsX4_pieces := List.mem_of_getElem? (i := 1) rfl
theorem k_X4_pieces_2 : (Cond.initialized "java/lang/IndexOutOfBoundsException") ∈ wsX4_pieces := List.mem_of_getElem? (i := 2) rfl
theorem b_X4_pieces_vx_atSRX4281javalangInde : ∀ w ∈ (vx_atS RX4 281 "java/lang/IndexOutOfBoundsException" ["java/lang/RuntimeException", "java/lang/Exception"]).filter goodWord, w ∈ wsX4_pieces := fun _ h => List.mem_cons_of_mem _ (List.mem_append_right _ h)
theorem k_X4_pieces_3 : (Cond.fieldLink RX4 37 "Orbitregister" "piecesIn" "[I") ∈ wsX4_pieces := List.mem_of_getElem? (i := 3) rfl
theorem b_X4_pieces_wsX40 : ∀ w ∈ wsX40, w ∈ wsX4_pieces := fun _ h => List.mem_cons_of_mem _ (List.mem_append_left _ (List.mem_append_right _ h))
set_option maxHeartbeats 4000000 in
set_option maxRecDepth 100000 in
theorem c_X4_pieces (l : Launch) (hflg : l.stackTraces = false) (D : va_G) (cI cJ cZ : ClassId) (a : Nat → Nat) (sz : Nat) (px : A32) (py : A64) (td : Int32) (ld : A32) (sl : A32) (bd : A32) (pw : A32) (dt : A32) (st : A32) (uc : A32) (sv : A32) (tl : A32) (so : A32) (lm : A32) (n : Nat) (nd : Int32) (ss : A32) (rg : A32) (hw : A32) (ax : A32) (fu : A32) (si : A32) (au : A32) (ns : Nat) (jk : A32) (jd : A32) (js : A32) (jt : A32) (jn : Nat) (ef : Int32) (es : Int32) (el : Int32) (ev : Int32) (et : Int32) (eo : Int32) (x1 : Int32) : zx_Met l yX4_pieces wsX4_pieces ({ frames := 6, cells := 1, slots := 6, locals := 82 }) (va_Pc [.ref (a 0), .int x1] (ZP D (zt cI cJ cZ) (wAll cI cJ cZ a px py td ld sl bd pw dt st uc sv tl so lm n nd ss rg hw ax fu si au ns jk jd js jt jn ef es el ev et eo) sz (ZX (va_A (wAll cI cJ cZ a px py td ld sl bd pw dt st uc sv tl so lm n nd ss rg hw ax fu si au ns jk jd js jt jn ef es el ev et eo) sz)))) (va_Qi (fun (r : Int32) (_ : Unit) => E_rng x1 35 = 0 ∧ r = px (ix x1)) (fun _ t => va_P D vwCl (wAll cI cJ cZ a px py td ld sl bd pw dt st uc sv tl so lm n nd ss rg hw ax fu si au ns jk jd js jt jn ef es el ev et eo) t.heap) (va_A (wAll cI cJ cZ a px py td ld sl bd pw dt st uc sv tl so lm n nd ss rg hw ax fu si au ns jk jd js jt jn ef es el ev et eo) sz)) (vx_X (fun _ : Unit => True) (fun E _ t => zER zI zS zS (E_rng x1 35) E ∧ va_P D vwCl (wAll cI cJ cZ a px py td ld sl bd pw dt st uc sv tl so lm n nd ss rg hw ax fu si au ns jk jd js jt jn ef es el ev et eo) t.heap) (va_A (wAll cI cJ cZ a px py td ld sl bd pw dt st uc sv tl so lm n nd ss rg hw ax fu si au ns jk jd js jt jn ef es el ev et eo) sz)) (va_A (wAll cI cJ cZ a px py td ld sl bd pw dt st uc sv tl so lm n nd ss rg hw ax fu si au ns jk jd js jt jn ef es el ev et eo) sz) := by
  refine zx_ofW (cc := cX4_pieces) (maxL := 2) (ret := (some .int)) (by decide) rfl ?_
  intro p e s m args below meth c s₁ B hml hno hv
  obtain ⟨rfl, hsz, hP, hK, hD0, hE⟩ := hv
  have hx := B.exec
  have hb := B.bytes
  have hr := B.returns
  have hts := atoms_spec (ws := wsX4_pieces) B.pre
  have hown : s.vm.findClass RX4 = some m.cls := findClass_of_methodNamed B.named
  have hlocks := B.notSynchronized
  subst hsz
  have hD := hD0.self (sz := s.heap.size)
  generalize hAe : va_A (wAll cI cJ cZ a px py td ld sl bd pw dt st uc sv tl so lm n nd ss rg hw ax fu si au ns jk jd js jt jn ef es el ev et eo) s.heap.size = A at hD hE ⊢
  have hA : ∀ q : Nat, s.heap.size ≤ q → A q := fun q h => by rw [← hAe]; exact Or.inr h
  have hS : va_S A s.heap s.heap [] := va_S.rf
  have hl := lv_entry ([.ref (a 0), .int x1]) (n := 2) (Nat.le_of_ble_eq_true rfl)
  rw [lg_entry_eq]
  generalize (lg_sl ([.ref (a 0), .int x1]) ++ List.replicate (2 - (lg_sl ([.ref (a 0), .int x1])).length) Slot.unset).toArray = ls at hl ⊢
  have hl : lv_has ls 2 [(0, .ref (a 0)), (1, .int x1)] := hl
  have hP : va_P D vwCl (wAll cI cJ cZ a px py td ld sl bd pw dt st uc sv tl so lm n nd ss rg hw ax fu si au ns jk jd js jt jn ef es el ev et eo) s.heap := hP
  refine lv_iload_n hx hb dX4_pieces_0 rfl (lv_at hl 1 rfl) ?_
  refine lv_if_lt (tgt := 10) hx hb dX4_pieces_1 (by decide) (fun c_1 => ?_) (fun c_1 => ?_)
  · have q_2 : F_in x1 0 35 = 0 := F_in_0a c_1
    exact zx_thrSW (X := zI) (text := "no such sector") hx hb hflg hts hown (by decide +kernel) k_X4_pieces_1 k_X4_pieces_2 b_X4_pieces_vx_atSRX4281javalangInde zn_I zg_I hE.2.1.2.1.1 (by decide +kernel) hE hS (hl.1.trans hml.symm) dX4_pieces_10 dX4_pieces_13 dX4_pieces_14 dX4_pieces_17 dX4_pieces_20 hno (Nat.le_of_ble_eq_true rfl) (Nat.le_of_ble_eq_true rfl) (Nat.le_of_ble_eq_true rfl) (Nat.le_of_ble_eq_true rfl) hlocks (fun t ht h1 h2 => ⟨(), trivial, ⟨(z_er1 (by first | with_reducible rfl | (simp only [E_rng, if_pos c_1, if_pos q_2]; done) | (simp +decide only [E_rng, if_pos c_1, if_pos q_2]; done) | (simp [E_rng, c_1, q_2]; done) | (simp +decide [E_rng, c_1, q_2]; done))), z_keepX hP h1 h2⟩, z_Fx hS h1 h2⟩) hS.2.2 rfl rfl
  · refine lv_iload_n hx hb dX4_pieces_4 rfl (lv_at hl 1 rfl) ?_
    refine lv_bipush (v := 36) hx hb dX4_pieces_5 (by decide) ?_
    refine lv_icmp_lt (tgt := 21) hx hb dX4_pieces_7 (by decide) (fun c_3 => ?_) (fun c_3 => ?_)
    · have q_4 : ¬ F_in x1 0 35 = 0 := F_in_1 c_1 (fun q => (z_lts (b := 36) (by decide)).mpr q c_3)
      obtain ⟨g_x1, g_x1b⟩ := F_in_nat 36 q_4 (by decide)
      refine lv_aload_n hx hb dX4_pieces_21 rfl (lv_at hl 0 rfl) ?_
      refine z_get (ci := 4) (C := RX4) (T := TX4) (N := 7) hx hb hts b_X4_pieces_wsX40 hown hK hP 0 rfl rfl 4 (by decide) (hts _ k_X4_pieces_3) rfl (.ref (a 1)) rfl dX4_pieces_22 ?_
      refine lv_iload_n hx hb dX4_pieces_25 rfl (lv_at hl 1 rfl) ?_
      refine z_iald hx hb hK hP 1 0 rfl rfl (ix x1) g_x1 (by omega) rfl dX4_pieces_26 ?_
      exact zx_ret (W.iret (v := px (ix x1)) hx hb hr (fun t ht hW => ⟨⟨px (ix x1), (), rfl, ⟨(by first | with_reducible rfl | (simp only [E_rng, if_neg c_1, if_pos c_3, if_neg q_4]; done) | (simp +decide only [E_rng, if_neg c_1, if_pos c_3, if_neg q_4]; done) | (simp [E_rng, c_1, c_3, q_4]; done) | (simp +decide [E_rng, c_1, c_3, q_4]; done)), rfl⟩, (z_at ht hP)⟩, hS.F ht⟩) hS.2.2 dX4_pieces_27)
    · have q_5 : F_in x1 0 35 = 0 := F_in_0b ((z_lts (by decide)).mp c_3)
      exact zx_thrSW (X := zI) (text := "no such sector") hx hb hflg hts hown (by decide +kernel) k_X4_pieces_1 k_X4_pieces_2 b_X4_pieces_vx_atSRX4281javalangInde zn_I zg_I hE.2.1.2.1.1 (by decide +kernel) hE hS (hl.1.trans hml.symm) dX4_pieces_10 dX4_pieces_13 dX4_pieces_14 dX4_pieces_17 dX4_pieces_20 hno (Nat.le_of_ble_eq_true rfl) (Nat.le_of_ble_eq_true rfl) (Nat.le_of_ble_eq_true rfl) (Nat.le_of_ble_eq_true rfl) hlocks (fun t ht h1 h2 => ⟨(), trivial, ⟨(z_er1 (by first | with_reducible rfl | (simp only [E_rng, if_neg c_1, if_neg c_3, if_pos q_5]; done) | (simp +decide only [E_rng, if_neg c_1, if_neg c_3, if_pos q_5]; done) | (simp [E_rng, c_1, c_3, q_5]; done) | (simp +decide [E_rng, c_1, c_3, q_5]; done))), z_keepX hP h1 h2⟩, z_Fx hS h1 h2⟩) hS.2.2 rfl rfl
theorem k_X4_paid_1 : (Cond.fieldLink RX4 41 "Orbitregister" "paidBy" "[J") ∈ wsX4_paid := List.mem_of_getElem? (i := 1) rfl
theorem b_X4_paid_wsX40 : ∀ w ∈ wsX40, w ∈ wsX4_paid := fun _ h => List.mem_cons_of_mem _ (List.mem_append_left _ (List.mem_append_right _ h))
set_option maxHeartbeats 4000000 in
set_option maxRecDepth 100000 in
theorem c_X4_paid (l : Launch) (hflg : l.stackTraces = false) (D : va_G) (cI cJ cZ : ClassId) (a : Nat → Nat) (sz : Nat) (px : A32) (py : A64) (td : Int32) (ld : A32) (sl : A32) (bd : A32) (pw : A32) (dt : A32) (st : A32) (uc : A32) (sv : A32) (tl : A32) (so : A32) (lm : A32) (n : Nat) (nd : Int32) (ss : A32) (rg : A32) (hw : A32) (ax : A32) (fu : A32) (si : A32) (au : A32) (ns : Nat) (jk : A32) (jd : A32) (js : A32) (jt : A32) (jn : Nat) (ef : Int32) (es : Int32) (el : Int32) (ev : Int32) (et : Int32) (eo : Int32) (x1 : Int32) : zx_Met l yX4_paid wsX4_paid ({ frames := 7, cells := 1, slots := 6, locals := 103 }) (va_Pc [.ref (a 0), .int x1] (ZP D (zt cI cJ cZ) (wAll cI cJ cZ a px py td ld sl bd pw dt st uc sv tl so lm n nd ss rg hw ax fu si au ns jk jd js jt jn ef es el ev et eo) sz (ZX (va_A (wAll cI cJ cZ a px py td ld sl bd pw dt st uc sv tl so lm n nd ss rg hw ax fu si au ns jk jd js jt jn ef es el ev et eo) sz)))) (va_Ql (fun (r : Int64) (_ : Unit) => E_rng x1 7 = 0 ∧ r = py (ix x1)) (fun _ t => va_P D vwCl (wAll cI cJ cZ a px py td ld sl bd pw dt st uc sv tl so lm n nd ss rg hw ax fu si au ns jk jd js jt jn ef es el ev et eo) t.heap) (va_A (wAll cI cJ cZ a px py td ld sl bd pw dt st uc sv tl so lm n nd ss rg hw ax fu si au ns jk jd js jt jn ef es el ev et eo) sz)) (vx_X (fun _ : Unit => True) (fun E _ t => zER zI zS zS (E_rng x1 7) E ∧ va_P D vwCl (wAll cI cJ cZ a px py td ld sl bd pw dt st uc sv tl so lm n nd ss rg hw ax fu si au ns jk jd js jt jn ef es el ev et eo) t.heap) (va_A (wAll cI cJ cZ a px py td ld sl bd pw dt st uc sv tl so lm n nd ss rg hw ax fu si au ns jk jd js jt jn ef es el ev et eo) sz)) (va_A (wAll cI cJ cZ a px py td ld sl bd pw dt st uc sv tl so lm n nd ss rg hw ax fu si au ns jk jd js jt jn ef es el ev et eo) sz) := by
  refine zx_ofW (cc := cX4_paid) (maxL := 2) (ret := (some .long)) (by decide) rfl ?_
  intro p e s m args below meth c s₁ B hml hno hv
  obtain ⟨rfl, hsz, hP, hK, hD0, hE⟩ := hv
  have hx := B.exec
  have hb := B.bytes
  have hr := B.returns
  have hts := atoms_spec (ws := wsX4_paid) B.pre
  have hown : s.vm.findClass RX4 = some m.cls := findClass_of_methodNamed B.named
  have hlocks := B.notSynchronized
  subst hsz
  have hD := hD0.self (sz := s.heap.size)
  generalize hAe : va_A (wAll cI cJ cZ a px py td ld sl bd pw dt st uc sv tl so lm n nd ss rg hw ax fu si au ns jk jd js jt jn ef es el ev et eo) s.heap.size = A at hD hE ⊢
  have hA : ∀ q : Nat, s.heap.size ≤ q → A q := fun q h => by rw [← hAe]; exact Or.inr h
  have hS : va_S A s.heap s.heap [] := va_S.rf
  have hl := lv_entry ([.ref (a 0), .int x1]) (n := 2) (Nat.le_of_ble_eq_true rfl)
  rw [lg_entry_eq]
  generalize (lg_sl ([.ref (a 0), .int x1]) ++ List.replicate (2 - (lg_sl ([.ref (a 0), .int x1])).length) Slot.unset).toArray = ls at hl ⊢
  have hl : lv_has ls 2 [(0, .ref (a 0)), (1, .int x1)] := hl
  have hP : va_P D vwCl (wAll cI cJ cZ a px py td ld sl bd pw dt st uc sv tl so lm n nd ss rg hw ax fu si au ns jk jd js jt jn ef es el ev et eo) s.heap := hP
  refine lv_aload_n hx hb dX4_paid_0 rfl (lv_at hl 0 rfl) ?_
  refine lv_iload_n hx hb dX4_paid_1 rfl (lv_at hl 1 rfl) ?_
  refine zx_ck (ws := (wAll cI cJ cZ a px py td ld sl bd pw dt st uc sv tl so lm n nd ss rg hw ax fu si au ns jk jd js jt jn ef es el ev et eo)) (cond := F_in x1 0 7 = 0) (X := zI) (zx_runV (As := [.int x1]) (rest := []) ⟨hx, hb, hml, hown, hts⟩ (c_X4_checkLand l hflg D cI cJ cZ a s.heap.size px py td ld sl bd pw dt st uc sv tl so lm n nd ss rg hw ax fu si au ns jk jd js jt jn ef es el ev et eo x1) (cwV 1 hts gX4_paid_X4_checkLand rfl rfl rfl (by decide +kernel) ⟨Nat.le_of_ble_eq_true rfl, Nat.le_of_ble_eq_true rfl⟩) (z_pv hK hP hD (q0 := 0) (ci := 4) rfl rfl ZX_b (ZX_m hE hS (z_free0 hS hA))) rfl rfl hl.1 rfl (lv_room (Nat.le_of_ble_eq_true rfl)) dX4_paid_2 ⟨Nat.le_of_ble_eq_true rfl, Nat.le_of_ble_eq_true rfl⟩) hP hS hA hno hlocks rfl rfl (fun c_1 => (z_er1 (by first | with_reducible rfl | (simp only [E_rng, if_pos c_1]; done) | (simp +decide only [E_rng, if_pos c_1]; done) | (simp [E_rng, c_1]; done) | (simp +decide [E_rng, c_1]; done)))) (fun _ H locs c_1 hP hS => ?_)
  obtain ⟨g_x1, g_x1b⟩ := F_in_nat 8 c_1 (by decide)
  refine lv_aload_n hx hb dX4_paid_5 rfl (lv_at hl 0 rfl) ?_
  refine z_get (ci := 4) (C := RX4) (T := TX4) (N := 7) hx hb hts b_X4_paid_wsX40 hown hK hP 0 rfl rfl 5 (by decide) (hts _ k_X4_paid_1) rfl (.ref (a 2)) rfl dX4_paid_6 ?_
  refine lv_iload_n hx hb dX4_paid_9 rfl (lv_at hl 1 rfl) ?_
  refine z_lald hx hb hK hP 2 1 rfl rfl (ix x1) g_x1 (by omega) rfl dX4_paid_10 ?_
  exact zx_ret (W.lret (v := py (ix x1)) hx hb hr (fun t ht hW => ⟨⟨py (ix x1), (), rfl, ⟨(by first | with_reducible rfl | (simp only [E_rng, if_neg c_1]; done) | (simp +decide only [E_rng, if_neg c_1]; done) | (simp [E_rng, c_1]; done) | (simp +decide [E_rng, c_1]; done)), rfl⟩, (z_at ht hP)⟩, hS.F ht⟩) hS.2.2 dX4_paid_11)
