set_option maxHeartbeats 4000000 in
set_option maxRecDepth 100000 in
theorem c_X4_lapseDay (l : Launch) (D : va_G) (cI cJ cZ : ClassId) (a : Nat → Nat) (sz : Nat)  (st : Int32) (tl : Int32) (so : Int32) : Met l yX4_lapseDay wsX4_lapseDay ({ frames := 0, cells := 0, slots := 0, locals := 0 }) (va_Pc [.int st, .int tl, .int so] (ZP D (zt cI cJ cZ) ([] : va_W) sz zT)) (va_Qi (fun (r : Int32) (_ : Unit) => r = F_lapseDay st tl so) (fun _ _ => True) (va_A [] sz)) 0 0 (va_A [] sz) := by
  refine Met.ofW (cc := cX4_lapseDay) (maxL := 3) (ret := (some .int)) (by decide) rfl ?_
  intro p e s m args below meth c s₁ B hml hv
  obtain ⟨rfl, hsz, hP, hK, hD0, hE⟩ := hv
  have hx := B.exec
  have hb := B.bytes
  have hr := B.returns
  have hts := atoms_spec (ws := wsX4_lapseDay) B.pre
  have hown : s.vm.findClass RX4 = some m.cls := findClass_of_methodNamed B.named
  have hlocks := B.notSynchronized
  subst hsz
  have hD := hD0
  generalize hAe : va_A [] s.heap.size = A at ⊢
  have hA : ∀ q : Nat, s.heap.size ≤ q → A q := fun q h => by rw [← hAe]; exact Or.inr h
  have hS : va_S A s.heap s.heap [] := va_S.rf
  have hl := lv_entry ([.int st, .int tl, .int so]) (n := 3) (Nat.le_of_ble_eq_true rfl)
  rw [lg_entry_eq]
  generalize (lg_sl ([.int st, .int tl, .int so]) ++ List.replicate (3 - (lg_sl ([.int st, .int tl, .int so])).length) Slot.unset).toArray = ls at hl ⊢
  have hl : lv_has ls 3 [(0, .int st), (1, .int tl), (2, .int so)] := hl
  have hP : va_P D vwCl ([] : va_W) s.heap := hP
  refine lv_iload_n hx hb dX4_lapseDay_0 rfl (lv_at hl 0 rfl) ?_
  refine lv_if_eq (tgt := 9) hx hb dX4_lapseDay_1 (by decide) (fun c_1 => ?_) (fun c_1 => ?_)
  · refine lv_iload_n hx hb dX4_lapseDay_9 rfl (lv_at hl 1 rfl) ?_
    refine lv_sipush (v := 700) hx hb dX4_lapseDay_10 (by decide) ?_
    refine lv_iadd hx hb dX4_lapseDay_13 ?_
    exact W.iret (v := tl + 700) hx hb hr (fun t ht hW => ⟨⟨tl + 700, (), rfl, (by first | with_reducible rfl | (simp only [F_lapseDay, if_pos c_1]; done) | (simp +decide only [F_lapseDay, if_pos c_1]; done) | (simp [F_lapseDay, c_1]; done) | (simp +decide [F_lapseDay, c_1]; done)), trivial⟩, hS.F ht⟩) hS.2.2 dX4_lapseDay_14
  · refine lv_iload_n hx hb dX4_lapseDay_4 rfl (lv_at hl 0 rfl) ?_
    refine lv_iconst (v := 1) hx hb dX4_lapseDay_5 (by decide) ?_
    refine lv_icmp_ne (tgt := 15) hx hb dX4_lapseDay_6 (by decide) (fun c_2 => ?_) (fun c_2 => ?_)
    · refine lv_iload_n hx hb dX4_lapseDay_15 rfl (lv_at hl 0 rfl) ?_
      refine lv_iconst (v := 3) hx hb dX4_lapseDay_16 (by decide) ?_
      refine lv_icmp_ne (tgt := 28) hx hb dX4_lapseDay_17 (by decide) (fun c_3 => ?_) (fun c_3 => ?_)
      · refine lv_iconst (v := (-1)) hx hb dX4_lapseDay_28 (by decide) ?_
        exact W.iret (v := (-1)) hx hb hr (fun t ht hW => ⟨⟨(-1), (), rfl, (by first | with_reducible rfl | (simp only [F_lapseDay, if_neg c_1, if_neg c_2, if_neg c_3]; done) | (simp +decide only [F_lapseDay, if_neg c_1, if_neg c_2, if_neg c_3]; done) | (simp [F_lapseDay, c_1, c_2, c_3]; done) | (simp +decide [F_lapseDay, c_1, c_2, c_3]; done)), trivial⟩, hS.F ht⟩) hS.2.2 dX4_lapseDay_29
      · refine lv_iload_n hx hb dX4_lapseDay_20 rfl (lv_at hl 2 rfl) ?_
        refine lv_sipush (v := 300) hx hb dX4_lapseDay_21 (by decide) ?_
        refine lv_iadd hx hb dX4_lapseDay_24 ?_
        refine lv_goto (tgt := 29) hx hb dX4_lapseDay_25 (by decide) ?_
        exact W.iret (v := so + 300) hx hb hr (fun t ht hW => ⟨⟨so + 300, (), rfl, (by first | with_reducible rfl | (simp only [F_lapseDay, if_neg c_1, if_neg c_2, if_pos c_3]; done) | (simp +decide only [F_lapseDay, if_neg c_1, if_neg c_2, if_pos c_3]; done) | (simp [F_lapseDay, c_1, c_2, c_3]; done) | (simp +decide [F_lapseDay, c_1, c_2, c_3]; done)), trivial⟩, hS.F ht⟩) hS.2.2 dX4_lapseDay_29
    · refine lv_iload_n hx hb dX4_lapseDay_9 rfl (lv_at hl 1 rfl) ?_
      refine lv_sipush (v := 700) hx hb dX4_lapseDay_10 (by decide) ?_
      refine lv_iadd hx hb dX4_lapseDay_13 ?_
      exact W.iret (v := tl + 700) hx hb hr (fun t ht hW => ⟨⟨tl + 700, (), rfl, (by first | with_reducible rfl | (simp only [F_lapseDay, if_neg c_1, if_pos c_2]; done) | (simp +decide only [F_lapseDay, if_neg c_1, if_pos c_2]; done) | (simp [F_lapseDay, c_1, c_2]; done) | (simp +decide [F_lapseDay, c_1, c_2]; done)), trivial⟩, hS.F ht⟩) hS.2.2 dX4_lapseDay_14
set_option maxHeartbeats 4000000 in
set_option maxRecDepth 100000 in
theorem c_X4_isLapseDue (l : Launch) (D : va_G) (cI cJ cZ : ClassId) (a : Nat → Nat) (sz : Nat)  (st : Int32) (tl : Int32) (so : Int32) (dy : Int32) : Met l yX4_isLapseDue wsX4_isLapseDue ({ frames := 1, cells := 0, slots := 0, locals := 22 }) (va_Pc [.int st, .int tl, .int so, .int dy] (ZP D (zt cI cJ cZ) ([] : va_W) sz zT)) (va_Qi (fun (r : Int32) (_ : Unit) => r = F_due st tl so dy) (fun _ _ => True) (va_A [] sz)) 0 0 (va_A [] sz) := by
  refine Met.ofW (cc := cX4_isLapseDue) (maxL := 5) (ret := (some .boolean)) (by decide) rfl ?_
  intro p e s m args below meth c s₁ B hml hv
  obtain ⟨rfl, hsz, hP, hK, hD0, hE⟩ := hv
  have hx := B.exec
  have hb := B.bytes
  have hr := B.returns
  have hts := atoms_spec (ws := wsX4_isLapseDue) B.pre
  have hown : s.vm.findClass RX4 = some m.cls := findClass_of_methodNamed B.named
  have hlocks := B.notSynchronized
  subst hsz
  have hD := hD0
  generalize hAe : va_A [] s.heap.size = A at ⊢
  have hA : ∀ q : Nat, s.heap.size ≤ q → A q := fun q h => by rw [← hAe]; exact Or.inr h
  have hS : va_S A s.heap s.heap [] := va_S.rf
  have hl := lv_entry ([.int st, .int tl, .int so, .int dy]) (n := 5) (Nat.le_of_ble_eq_true rfl)
  rw [lg_entry_eq]
  generalize (lg_sl ([.int st, .int tl, .int so, .int dy]) ++ List.replicate (5 - (lg_sl ([.int st, .int tl, .int so, .int dy])).length) Slot.unset).toArray = ls at hl ⊢
  have hl : lv_has ls 5 [(0, .int st), (1, .int tl), (2, .int so), (3, .int dy)] := hl
  have hP : va_P D vwCl ([] : va_W) s.heap := hP
  refine lv_iload_n hx hb dX4_isLapseDue_0 rfl (lv_at hl 0 rfl) ?_
  refine lv_iload_n hx hb dX4_isLapseDue_1 rfl (lv_at hl 1 rfl) ?_
  refine lv_iload_n hx hb dX4_isLapseDue_2 rfl (lv_at hl 2 rfl) ?_
  refine z_ri (va_runS (As := [.int st, .int tl, .int so]) (rest := []) ⟨hx, hb, hml, hown, hts⟩ (c_X4_lapseDay l D cI cJ cZ a s.heap.size st tl so) (va_cwS 3 hts gX4_isLapseDue_X4_lapseDay rfl rfl rfl (by decide +kernel) ⟨Nat.le_of_ble_eq_true rfl, Nat.le_of_ble_eq_true rfl⟩) (z_ps hK hP hD zT_b zT_m) rfl rfl hl.1 rfl (lv_room (Nat.le_of_ble_eq_true rfl)) dX4_isLapseDue_3 ⟨Nat.le_of_ble_eq_true rfl, Nat.le_of_ble_eq_true rfl⟩) hP hS hA (fun r_1 _ H locs hr_1 hP hS => ?_)
  subst hr_1
  refine lv_istore (lv' := [(4, .int (F_lapseDay st tl so)), (0, .int st), (1, .int tl), (2, .int so), (3, .int dy)]) hx hb dX4_isLapseDue_6 hl (by decide) rfl (fun ls hl => ?_)
  refine lv_iload hx hb dX4_isLapseDue_8 (lv_at hl 0 rfl) ?_
  refine lv_iconst (v := (-1)) hx hb dX4_isLapseDue_10 (by decide) ?_
  refine lv_icmp_eq (tgt := 24) hx hb dX4_isLapseDue_11 (by decide) (fun c_2 => ?_) (fun c_2 => ?_)
  · refine lv_iconst (v := 0) hx hb dX4_isLapseDue_24 (by decide) ?_
    exact W.zret (v := 0) hx hb hr (by decide) (fun t ht hW => ⟨⟨0, (), rfl, (by first | with_reducible rfl | (simp only [F_due, if_pos c_2]; done) | (simp +decide only [F_due, if_pos c_2]; done) | (simp [F_due, c_2]; done) | (simp +decide [F_due, c_2]; done)), trivial⟩, hS.F ht⟩) hS.2.2 dX4_isLapseDue_25
  · refine lv_iload hx hb dX4_isLapseDue_14 (lv_at hl 0 rfl) ?_
    refine lv_iload_n hx hb dX4_isLapseDue_16 rfl (lv_at hl 4 rfl) ?_
    refine lv_icmp_gt (tgt := 24) hx hb dX4_isLapseDue_17 (by decide) (fun c_3 => ?_) (fun c_3 => ?_)
    · refine lv_iconst (v := 0) hx hb dX4_isLapseDue_24 (by decide) ?_
      exact W.zret (v := 0) hx hb hr (by decide) (fun t ht hW => ⟨⟨0, (), rfl, (by first | with_reducible rfl | (simp only [F_due, if_neg c_2, if_pos c_3]; done) | (simp +decide only [F_due, if_neg c_2, if_pos c_3]; done) | (simp [F_due, c_2, c_3]; done) | (simp +decide [F_due, c_2, c_3]; done)), trivial⟩, hS.F ht⟩) hS.2.2 dX4_isLapseDue_25
    · refine lv_iconst (v := 1) hx hb dX4_isLapseDue_20 (by decide) ?_
      refine lv_goto (tgt := 25) hx hb dX4_isLapseDue_21 (by decide) ?_
      exact W.zret (v := 1) hx hb hr (by decide) (fun t ht hW => ⟨⟨1, (), rfl, (by first | with_reducible rfl | (simp only [F_due, if_neg c_2, if_neg c_3]; done) | (simp +decide only [F_due, if_neg c_2, if_neg c_3]; done) | (simp [F_due, c_2, c_3]; done) | (simp +decide [F_due, c_2, c_3]; done)), trivial⟩, hS.F ht⟩) hS.2.2 dX4_isLapseDue_25
theorem k_X1_isLapsed_1 : (Cond.fieldLink RX1 27 "Orbitregister$Filings" "state" "[I") ∈ wsX1_isLapsed := List.mem_of_getElem? (i := 1) rfl
theorem b_X1_isLapsed_wsX10 : ∀ w ∈ wsX10, w ∈ wsX1_isLapsed := fun _ h => List.mem_cons_of_mem _ (List.mem_append_right _ h)
set_option maxHeartbeats 4000000 in
set_option maxRecDepth 100000 in
theorem c_X1_isLapsed (l : Launch) (D : va_G) (cI cJ cZ : ClassId) (a : Nat → Nat) (sz : Nat) (ld : A32) (sl : A32) (bd : A32) (pw : A32) (dt : A32) (st : A32) (uc : A32) (sv : A32) (tl : A32) (so : A32) (lm : A32) (n : Nat) (nd : Int32) (x1 : Int32) (x1' : Nat) (e_x1 : x1 = nI x1') (h_x1 : x1' < 40) : Met l yX1_isLapsed wsX1_isLapsed ({ frames := 0, cells := 0, slots := 0, locals := 0 }) (va_Pc [.ref (a 3), .int x1] (ZP D (zt cI cJ cZ) (wFi cI cJ cZ a ld sl bd pw dt st uc sv tl so lm n nd) sz zT)) (va_Qi (fun (r : Int32) (_ : Unit) => r = F_lapsed st x1') (fun _ _ => True) (va_A [] sz)) 0 0 (va_A [] sz) := by
  refine Met.ofW (cc := cX1_isLapsed) (maxL := 2) (ret := (some .boolean)) (by decide) rfl ?_
  intro p e s m args below meth c s₁ B hml hv
  obtain ⟨rfl, hsz, hP, hK, hD0, hE⟩ := hv
  have hx := B.exec
  have hb := B.bytes
  have hr := B.returns
  have hts := atoms_spec (ws := wsX1_isLapsed) B.pre
  have hown : s.vm.findClass RX1 = some m.cls := findClass_of_methodNamed B.named
  have hlocks := B.notSynchronized
  subst hsz
  have hD := hD0
  generalize hAe : va_A [] s.heap.size = A at ⊢
  have hA : ∀ q : Nat, s.heap.size ≤ q → A q := fun q h => by rw [← hAe]; exact Or.inr h
  have hS : va_S A s.heap s.heap [] := va_S.rf
  have hl := lv_entry ([.ref (a 3), .int x1]) (n := 2) (Nat.le_of_ble_eq_true rfl)
  rw [lg_entry_eq]
  generalize (lg_sl ([.ref (a 3), .int x1]) ++ List.replicate (2 - (lg_sl ([.ref (a 3), .int x1])).length) Slot.unset).toArray = ls at hl ⊢
  have hl : lv_has ls 2 [(0, .ref (a 3)), (1, .int x1)] := hl
  have hP : va_P D vwCl (wFi cI cJ cZ a ld sl bd pw dt st uc sv tl so lm n nd) s.heap := hP
  refine lv_aload_n hx hb dX1_isLapsed_0 rfl (lv_at hl 0 rfl) ?_
  refine z_get (ci := 1) (C := RX1) (T := TX1) (N := 13) hx hb hts b_X1_isLapsed_wsX10 hown hK hP 0 rfl rfl 5 (by decide) (hts _ k_X1_isLapsed_1) rfl (.ref (a 9)) rfl dX1_isLapsed_1 ?_
  refine lv_iload_n hx hb dX1_isLapsed_4 rfl (lv_at hl 1 rfl) ?_
  refine z_iald hx hb hK hP 6 0 rfl rfl x1' e_x1 (by omega) rfl dX1_isLapsed_5 ?_
  refine lv_iconst (v := 4) hx hb dX1_isLapsed_6 (by decide) ?_
  refine lv_icmp_ne (tgt := 14) hx hb dX1_isLapsed_7 (by decide) (fun c_1 => ?_) (fun c_1 => ?_)
  · refine lv_iconst (v := 0) hx hb dX1_isLapsed_14 (by decide) ?_
    exact W.zret (v := 0) hx hb hr (by decide) (fun t ht hW => ⟨⟨0, (), rfl, (by first | with_reducible rfl | (simp only [F_lapsed, if_neg c_1]; done) | (simp +decide only [F_lapsed, if_neg c_1]; done) | (simp [F_lapsed, c_1]; done) | (simp +decide [F_lapsed, c_1]; done)), trivial⟩, hS.F ht⟩) hS.2.2 dX1_isLapsed_15
  · refine lv_iconst (v := 1) hx hb dX1_isLapsed_10 (by decide) ?_
    refine lv_goto (tgt := 15) hx hb dX1_isLapsed_11 (by decide) ?_
    exact W.zret (v := 1) hx hb hr (by decide) (fun t ht hW => ⟨⟨1, (), rfl, (by first | with_reducible rfl | (simp only [F_lapsed, if_pos c_1]; done) | (simp +decide only [F_lapsed, if_pos c_1]; done) | (simp [F_lapsed, c_1]; done) | (simp +decide [F_lapsed, c_1]; done)), trivial⟩, hS.F ht⟩) hS.2.2 dX1_isLapsed_15
theorem k_X1_isAhead_1 : (Cond.fieldLink RX1 24 "Orbitregister$Filings" "date" "[I") ∈ wsX1_isAhead := List.mem_of_getElem? (i := 1) rfl
theorem b_X1_isAhead_wsX10 : ∀ w ∈ wsX10, w ∈ wsX1_isAhead := fun _ h => List.mem_cons_of_mem _ (List.mem_append_right _ h)
set_option maxHeartbeats 4000000 in
set_option maxRecDepth 100000 in
theorem c_X1_isAhead (l : Launch) (D : va_G) (cI cJ cZ : ClassId) (a : Nat → Nat) (sz : Nat) (ld : A32) (sl : A32) (bd : A32) (pw : A32) (dt : A32) (st : A32) (uc : A32) (sv : A32) (tl : A32) (so : A32) (lm : A32) (n : Nat) (nd : Int32) (x1 : Int32) (x1' : Nat) (e_x1 : x1 = nI x1') (h_x1 : x1' < 40) (x2 : Int32) (x2' : Nat) (e_x2 : x2 = nI x2') (h_x2 : x2' < 40) : Met l yX1_isAhead wsX1_isAhead ({ frames := 0, cells := 0, slots := 0, locals := 0 }) (va_Pc [.ref (a 3), .int x1, .int x2] (ZP D (zt cI cJ cZ) (wFi cI cJ cZ a ld sl bd pw dt st uc sv tl so lm n nd) sz zT)) (va_Qi (fun (r : Int32) (_ : Unit) => r = F_ahead dt x1' x2') (fun _ _ => True) (va_A [] sz)) 0 0 (va_A [] sz) := by
  refine Met.ofW (cc := cX1_isAhead) (maxL := 3) (ret := (some .boolean)) (by decide) rfl ?_
  intro p e s m args below meth c s₁ B hml hv
  obtain ⟨rfl, hsz, hP, hK, hD0, hE⟩ := hv
  have hx := B.exec
  have hb := B.bytes
  have hr := B.returns
  have hts := atoms_spec (ws := wsX1_isAhead) B.pre
  have hown : s.vm.findClass RX1 = some m.cls := findClass_of_methodNamed B.named
  have hlocks := B.notSynchronized
  subst hsz
  have hD := hD0
  generalize hAe : va_A [] s.heap.size = A at ⊢
  have hA : ∀ q : Nat, s.heap.size ≤ q → A q := fun q h => by rw [← hAe]; exact Or.inr h
  have hS : va_S A s.heap s.heap [] := va_S.rf
  have hl := lv_entry ([.ref (a 3), .int x1, .int x2]) (n := 3) (Nat.le_of_ble_eq_true rfl)
  rw [lg_entry_eq]
  generalize (lg_sl ([.ref (a 3), .int x1, .int x2]) ++ List.replicate (3 - (lg_sl ([.ref (a 3), .int x1, .int x2])).length) Slot.unset).toArray = ls at hl ⊢
  have hl : lv_has ls 3 [(0, .ref (a 3)), (1, .int x1), (2, .int x2)] := hl
  have hP : va_P D vwCl (wFi cI cJ cZ a ld sl bd pw dt st uc sv tl so lm n nd) s.heap := hP
  refine lv_aload_n hx hb dX1_isAhead_0 rfl (lv_at hl 0 rfl) ?_
  refine z_get (ci := 1) (C := RX1) (T := TX1) (N := 13) hx hb hts b_X1_isAhead_wsX10 hown hK hP 0 rfl rfl 4 (by decide) (hts _ k_X1_isAhead_1) rfl (.ref (a 8)) rfl dX1_isAhead_1 ?_
  refine lv_iload_n hx hb dX1_isAhead_4 rfl (lv_at hl 1 rfl) ?_
  refine z_iald hx hb hK hP 5 0 rfl rfl x1' e_x1 (by omega) rfl dX1_isAhead_5 ?_
  refine lv_aload_n hx hb dX1_isAhead_6 rfl (lv_at hl 0 rfl) ?_
  refine z_get (ci := 1) (C := RX1) (T := TX1) (N := 13) hx hb hts b_X1_isAhead_wsX10 hown hK hP 0 rfl rfl 4 (by decide) (hts _ k_X1_isAhead_1) rfl (.ref (a 8)) rfl dX1_isAhead_7 ?_
  refine lv_iload_n hx hb dX1_isAhead_10 rfl (lv_at hl 2 rfl) ?_
  refine z_iald hx hb hK hP 5 0 rfl rfl x2' e_x2 (by omega) rfl dX1_isAhead_11 ?_
  refine lv_icmp_ge (tgt := 19) hx hb dX1_isAhead_12 (by decide) (fun c_1 => ?_) (fun c_1 => ?_)
  · refine lv_iconst (v := 0) hx hb dX1_isAhead_19 (by decide) ?_
    exact W.zret (v := 0) hx hb hr (by decide) (fun t ht hW => ⟨⟨0, (), rfl, (by first | with_reducible rfl | (simp only [F_ahead, if_pos c_1]; done) | (simp +decide only [F_ahead, if_pos c_1]; done) | (simp [F_ahead, c_1]; done) | (simp +decide [F_ahead, c_1]; done)), trivial⟩, hS.F ht⟩) hS.2.2 dX1_isAhead_20
  · refine lv_iconst (v := 1) hx hb dX1_isAhead_15 (by decide) ?_
    refine lv_goto (tgt := 20) hx hb dX1_isAhead_16 (by decide) ?_
    exact W.zret (v := 1) hx hb hr (by decide) (fun t ht hW => ⟨⟨1, (), rfl, (by first | with_reducible rfl | (simp only [F_ahead, if_neg c_1]; done) | (simp +decide only [F_ahead, if_neg c_1]; done) | (simp [F_ahead, c_1]; done) | (simp +decide [F_ahead, c_1]; done)), trivial⟩, hS.F ht⟩) hS.2.2 dX1_isAhead_20
theorem k_X1_limitOfPair_1 : (Cond.fieldLink RX1 43 "Orbitregister$Filings" "limits" "[I") ∈ wsX1_limitOfPair := List.mem_of_getElem? (i := 1) rfl
theorem b_X1_limitOfPair_wsX10 : ∀ w ∈ wsX10, w ∈ wsX1_limitOfPair := fun _ h => List.mem_cons_of_mem _ (List.mem_append_right _ h)
set_option maxHeartbeats 4000000 in
set_option maxRecDepth 100000 in
theorem c_X1_limitOfPair (l : Launch) (D : va_G) (cI cJ cZ : ClassId) (a : Nat → Nat) (sz : Nat) (ld : A32) (sl : A32) (bd : A32) (pw : A32) (dt : A32) (st : A32) (uc : A32) (sv : A32) (tl : A32) (so : A32) (lm : A32) (n : Nat) (nd : Int32) (x1 : Int32) (x1' : Nat) (e_x1 : x1 = nI x1') (h_x1 : x1' < 40) (x2 : Int32) (x2' : Nat) (e_x2 : x2 = nI x2') (h_x2 : x2' < 40) : Met l yX1_limitOfPair wsX1_limitOfPair ({ frames := 0, cells := 0, slots := 0, locals := 0 }) (va_Pc [.ref (a 3), .int x1, .int x2] (ZP D (zt cI cJ cZ) (wFi cI cJ cZ a ld sl bd pw dt st uc sv tl so lm n nd) sz zT)) (va_Qi (fun (r : Int32) (_ : Unit) => r = lm (x1' * 40 + x2')) (fun _ _ => True) (va_A [] sz)) 0 0 (va_A [] sz) := by
  refine Met.ofW (cc := cX1_limitOfPair) (maxL := 3) (ret := (some .int)) (by decide) rfl ?_
  intro p e s m args below meth c s₁ B hml hv
  obtain ⟨rfl, hsz, hP, hK, hD0, hE⟩ := hv
  have hx := B.exec
  have hb := B.bytes
  have hr := B.returns
  have hts := atoms_spec (ws := wsX1_limitOfPair) B.pre
  have hown : s.vm.findClass RX1 = some m.cls := findClass_of_methodNamed B.named
  have hlocks := B.notSynchronized
  subst hsz
  have hD := hD0
  generalize hAe : va_A [] s.heap.size = A at ⊢
  have hA : ∀ q : Nat, s.heap.size ≤ q → A q := fun q h => by rw [← hAe]; exact Or.inr h
  have hS : va_S A s.heap s.heap [] := va_S.rf
  have hl := lv_entry ([.ref (a 3), .int x1, .int x2]) (n := 3) (Nat.le_of_ble_eq_true rfl)
  rw [lg_entry_eq]
  generalize (lg_sl ([.ref (a 3), .int x1, .int x2]) ++ List.replicate (3 - (lg_sl ([.ref (a 3), .int x1, .int x2])).length) Slot.unset).toArray = ls at hl ⊢
  have hl : lv_has ls 3 [(0, .ref (a 3)), (1, .int x1), (2, .int x2)] := hl
  have hP : va_P D vwCl (wFi cI cJ cZ a ld sl bd pw dt st uc sv tl so lm n nd) s.heap := hP
  refine lv_aload_n hx hb dX1_limitOfPair_0 rfl (lv_at hl 0 rfl) ?_
  refine z_get (ci := 1) (C := RX1) (T := TX1) (N := 13) hx hb hts b_X1_limitOfPair_wsX10 hown hK hP 0 rfl rfl 10 (by decide) (hts _ k_X1_limitOfPair_1) rfl (.ref (a 14)) rfl dX1_limitOfPair_1 ?_
  refine lv_iload_n hx hb dX1_limitOfPair_4 rfl (lv_at hl 1 rfl) ?_
  refine lv_bipush (v := 40) hx hb dX1_limitOfPair_5 (by decide) ?_
  refine lv_imul hx hb dX1_limitOfPair_7 ?_
  refine lv_iload_n hx hb dX1_limitOfPair_8 rfl (lv_at hl 2 rfl) ?_
  refine lv_iadd hx hb dX1_limitOfPair_9 ?_
  refine z_iald hx hb hK hP 11 0 rfl rfl ((x1' * 40) + x2') (z_iadd (z_imul e_x1 (by decide)) e_x2) (by omega) rfl dX1_limitOfPair_10 ?_
  exact W.iret (v := lm ((x1' * 40) + x2')) hx hb hr (fun t ht hW => ⟨⟨lm ((x1' * 40) + x2'), (), rfl, (by first | with_reducible rfl | (simp only []; done) | (simp +decide only []; done) | (simp []; done) | (simp +decide []; done)), trivial⟩, hS.F ht⟩) hS.2.2 dX1_limitOfPair_11
theorem k_X1_setLimitOfPair_1 : (Cond.fieldLink RX1 43 "Orbitregister$Filings" "limits" "[I") ∈ wsX1_setLimitOfPair := List.mem_of_getElem? (i := 1) rfl
theorem b_X1_setLimitOfPair_wsX10 : ∀ w ∈ wsX10, w ∈ wsX1_setLimitOfPair := fun _ h => List.mem_cons_of_mem _ (List.mem_append_right _ h)
set_option maxHeartbeats 4000000 in
set_option maxRecDepth 100000 in
theorem c_X1_setLimitOfPair (l : Launch) (D : va_G) (cI cJ cZ : ClassId) (a : Nat → Nat) (sz : Nat) (ld : A32) (sl : A32) (bd : A32) (pw : A32) (dt : A32) (st : A32) (uc : A32) (sv : A32) (tl : A32) (so : A32) (lm : A32) (n : Nat) (nd : Int32) (x1 : Int32) (x1' : Nat) (e_x1 : x1 = nI x1') (h_x1 : x1' < 40) (x2 : Int32) (x2' : Nat) (e_x2 : x2 = nI x2') (h_x2 : x2' < 40) (h : Int32) : Met l yX1_setLimitOfPair wsX1_setLimitOfPair ({ frames := 0, cells := 0, slots := 0, locals := 0 }) (va_Pc [.ref (a 3), .int x1, .int x2, .int h] (ZP D (zt cI cJ cZ) (wFi cI cJ cZ a ld sl bd pw dt st uc sv tl so lm n nd) sz zT)) (va_Qv (fun (_ : Unit) => True) (fun _ t => va_P D vwCl (wFi cI cJ cZ a ld sl bd pw dt st uc sv tl so (upd (upd lm (x1' * 40 + x2') h) (x2' * 40 + x1') h) n nd) t.heap) (va_A (wFi cI cJ cZ a ld sl bd pw dt st uc sv tl so lm n nd) sz)) 0 0 (va_A (wFi cI cJ cZ a ld sl bd pw dt st uc sv tl so lm n nd) sz) := by
  refine Met.ofW (cc := cX1_setLimitOfPair) (maxL := 4) (ret := none) (by decide) rfl ?_
  intro p e s m args below meth c s₁ B hml hv
  obtain ⟨rfl, hsz, hP, hK, hD0, hE⟩ := hv
  have hx := B.exec
  have hb := B.bytes
  have hr := B.returns
  have hts := atoms_spec (ws := wsX1_setLimitOfPair) B.pre
  have hown : s.vm.findClass RX1 = some m.cls := findClass_of_methodNamed B.named
  have hlocks := B.notSynchronized
  subst hsz
  have hD := hD0.self (sz := s.heap.size)
  generalize hAe : va_A (wFi cI cJ cZ a ld sl bd pw dt st uc sv tl so lm n nd) s.heap.size = A at hD ⊢
  have hA : ∀ q : Nat, s.heap.size ≤ q → A q := fun q h => by rw [← hAe]; exact Or.inr h
  have hS : va_S A s.heap s.heap [] := va_S.rf
  have hl := lv_entry ([.ref (a 3), .int x1, .int x2, .int h]) (n := 4) (Nat.le_of_ble_eq_true rfl)
  rw [lg_entry_eq]
  generalize (lg_sl ([.ref (a 3), .int x1, .int x2, .int h]) ++ List.replicate (4 - (lg_sl ([.ref (a 3), .int x1, .int x2, .int h])).length) Slot.unset).toArray = ls at hl ⊢
  have hl : lv_has ls 4 [(0, .ref (a 3)), (1, .int x1), (2, .int x2), (3, .int h)] := hl
  have hP : va_P D vwCl (wFi cI cJ cZ a ld sl bd pw dt st uc sv tl so lm n nd) s.heap := hP
  refine lv_aload_n hx hb dX1_setLimitOfPair_0 rfl (lv_at hl 0 rfl) ?_
  refine z_get (ci := 1) (C := RX1) (T := TX1) (N := 13) hx hb hts b_X1_setLimitOfPair_wsX10 hown hK hP 0 rfl rfl 10 (by decide) (hts _ k_X1_setLimitOfPair_1) rfl (.ref (a 14)) rfl dX1_setLimitOfPair_1 ?_
  refine lv_iload_n hx hb dX1_setLimitOfPair_4 rfl (lv_at hl 1 rfl) ?_
  refine lv_bipush (v := 40) hx hb dX1_setLimitOfPair_5 (by decide) ?_
  refine lv_imul hx hb dX1_setLimitOfPair_7 ?_
  refine lv_iload_n hx hb dX1_setLimitOfPair_8 rfl (lv_at hl 2 rfl) ?_
  refine lv_iadd hx hb dX1_setLimitOfPair_9 ?_
  refine lv_iload_n hx hb dX1_setLimitOfPair_10 rfl (lv_at hl 3 rfl) ?_
  refine z_iast hx hb hK hP hD hS 11 0 rfl rfl ((x1' * 40) + x2') (z_iadd (z_imul e_x1 (by decide)) e_x2) (by omega) rfl dX1_setLimitOfPair_11 (wFi cI cJ cZ a ld sl bd pw dt st uc sv tl so (upd lm ((x1' * 40) + x2') h) n nd) rfl (fun H locs hP hD hS => ?_)
  refine lv_aload_n hx hb dX1_setLimitOfPair_12 rfl (lv_at hl 0 rfl) ?_
  refine z_get (ci := 1) (C := RX1) (T := TX1) (N := 13) hx hb hts b_X1_setLimitOfPair_wsX10 hown hK hP 0 rfl rfl 10 (by decide) (hts _ k_X1_setLimitOfPair_1) rfl (.ref (a 14)) rfl dX1_setLimitOfPair_13 ?_
  refine lv_iload_n hx hb dX1_setLimitOfPair_16 rfl (lv_at hl 2 rfl) ?_
  refine lv_bipush (v := 40) hx hb dX1_setLimitOfPair_17 (by decide) ?_
  refine lv_imul hx hb dX1_setLimitOfPair_19 ?_
  refine lv_iload_n hx hb dX1_setLimitOfPair_20 rfl (lv_at hl 1 rfl) ?_
  refine lv_iadd hx hb dX1_setLimitOfPair_21 ?_
  refine lv_iload_n hx hb dX1_setLimitOfPair_22 rfl (lv_at hl 3 rfl) ?_
  refine z_iast hx hb hK hP hD hS 11 0 rfl rfl ((x2' * 40) + x1') (z_iadd (z_imul e_x2 (by decide)) e_x1) (by omega) rfl dX1_setLimitOfPair_23 (wFi cI cJ cZ a ld sl bd pw dt st uc sv tl so (upd (upd lm ((x1' * 40) + x2') h) ((x2' * 40) + x1') h) n nd) rfl (fun H locs hP hD hS => ?_)
  have e_wlm : upd (upd lm (x1' * 40 + x2') h) (x2' * 40 + x1') h = (upd (upd lm ((x1' * 40) + x2') h) ((x2' * 40) + x1') h) := by first | with_reducible rfl | (simp only []; done) | (simp +decide only []; done) | (simp []; done) | (simp +decide []; done)
  have hP : va_P D vwCl (wFi cI cJ cZ a ld sl bd pw dt st uc sv tl so (upd (upd lm (x1' * 40 + x2') h) (x2' * 40 + x1') h) n nd) H := by rw [e_wlm]; exact hP
  exact W.vret hx hb hr (fun t ht hW => ⟨⟨(), rfl, trivial, (z_at ht hP)⟩, hS.F ht⟩) hS.2.2 dX1_setLimitOfPair_24
theorem k_X1_renewDate_1 : (Cond.fieldLink RX1 24 "Orbitregister$Filings" "date" "[I") ∈ wsX1_renewDate := List.mem_of_getElem? (i := 1) rfl
theorem b_X1_renewDate_wsX10 : ∀ w ∈ wsX10, w ∈ wsX1_renewDate := fun _ h => List.mem_cons_of_mem _ (List.mem_append_right _ h)
theorem k_X1_renewDate_2 : (Cond.fieldLink RX1 58 "Orbitregister$Filings" "nextDate" "I") ∈ wsX1_renewDate := List.mem_of_getElem? (i := 2) rfl
set_option maxHeartbeats 4000000 in
set_option maxRecDepth 100000 in
theorem c_X1_renewDate (l : Launch) (D : va_G) (cI cJ cZ : ClassId) (a : Nat → Nat) (sz : Nat) (ld : A32) (sl : A32) (bd : A32) (pw : A32) (dt : A32) (st : A32) (uc : A32) (sv : A32) (tl : A32) (so : A32) (lm : A32) (n : Nat) (nd : Int32) (x1 : Int32) (x1' : Nat) (e_x1 : x1 = nI x1') (h_x1 : x1' < 40) : Met l yX1_renewDate wsX1_renewDate ({ frames := 0, cells := 0, slots := 0, locals := 0 }) (va_Pc [.ref (a 3), .int x1] (ZP D (zt cI cJ cZ) (wFi cI cJ cZ a ld sl bd pw dt st uc sv tl so lm n nd) sz zT)) (va_Qv (fun (_ : Unit) => True) (fun _ t => va_P D vwCl (wFi cI cJ cZ a ld sl bd pw (upd dt x1' nd) st uc sv tl so lm n (nd + 1)) t.heap) (va_A (wFi cI cJ cZ a ld sl bd pw dt st uc sv tl so lm n nd) sz)) 0 0 (va_A (wFi cI cJ cZ a ld sl bd pw dt st uc sv tl so lm n nd) sz) := by
  refine Met.ofW (cc := cX1_renewDate) (maxL := 2) (ret := none) (by decide) rfl ?_
  intro p e s m args below meth c s₁ B hml hv
  obtain ⟨rfl, hsz, hP, hK, hD0, hE⟩ := hv
  have hx := B.exec
  have hb := B.bytes
  have hr := B.returns
  have hts := atoms_spec (ws := wsX1_renewDate) B.pre
  have hown : s.vm.findClass RX1 = some m.cls := findClass_of_methodNamed B.named
  have hlocks := B.notSynchronized
  subst hsz
  have hD := hD0.self (sz := s.heap.size)
  generalize hAe : va_A (wFi cI cJ cZ a ld sl bd pw dt st uc sv tl so lm n nd) s.heap.size = A at hD ⊢
  have hA : ∀ q : Nat, s.heap.size ≤ q → A q := fun q h => by rw [← hAe]; exact Or.inr h
  have hS : va_S A s.heap s.heap [] := va_S.rf
  have hl := lv_entry ([.ref (a 3), .int x1]) (n := 2) (Nat.le_of_ble_eq_true rfl)
  rw [lg_entry_eq]
  generalize (lg_sl ([.ref (a 3), .int x1]) ++ List.replicate (2 - (lg_sl ([.ref (a 3), .int x1])).length) Slot.unset).toArray = ls at hl ⊢
  have hl : lv_has ls 2 [(0, .ref (a 3)), (1, .int x1)] := hl
  have hP : va_P D vwCl (wFi cI cJ cZ a ld sl bd pw dt st uc sv tl so lm n nd) s.heap := hP
  refine lv_aload_n hx hb dX1_renewDate_0 rfl (lv_at hl 0 rfl) ?_
  refine z_get (ci := 1) (C := RX1) (T := TX1) (N := 13) hx hb hts b_X1_renewDate_wsX10 hown hK hP 0 rfl rfl 4 (by decide) (hts _ k_X1_renewDate_1) rfl (.ref (a 8)) rfl dX1_renewDate_1 ?_
  refine lv_iload_n hx hb dX1_renewDate_4 rfl (lv_at hl 1 rfl) ?_
  refine lv_aload_n hx hb dX1_renewDate_5 rfl (lv_at hl 0 rfl) ?_
  refine z_get (ci := 1) (C := RX1) (T := TX1) (N := 13) hx hb hts b_X1_renewDate_wsX10 hown hK hP 0 rfl rfl 12 (by decide) (hts _ k_X1_renewDate_2) rfl (.int nd) rfl dX1_renewDate_6 ?_
  refine z_iast hx hb hK hP hD hS 5 0 rfl rfl x1' e_x1 (by omega) rfl dX1_renewDate_9 (wFi cI cJ cZ a ld sl bd pw (upd dt x1' nd) st uc sv tl so lm n nd) rfl (fun H locs hP hD hS => ?_)
  refine lv_aload_n hx hb dX1_renewDate_10 rfl (lv_at hl 0 rfl) ?_
  refine lv_dup hx hb dX1_renewDate_11 rfl ?_
  refine z_get (ci := 1) (C := RX1) (T := TX1) (N := 13) hx hb hts b_X1_renewDate_wsX10 hown hK hP 0 rfl rfl 12 (by decide) (hts _ k_X1_renewDate_2) rfl (.int nd) rfl dX1_renewDate_12 ?_
  refine lv_iconst (v := 1) hx hb dX1_renewDate_15 (by decide) ?_
  refine lv_iadd hx hb dX1_renewDate_16 ?_
  refine z_put (ci := 1) (C := RX1) (T := TX1) (N := 13) hx hb hts b_X1_renewDate_wsX10 tyX1 tyX1_ok nmX1 hown hK hP hD hS 0 rfl rfl 12 (by decide) (hts _ k_X1_renewDate_2) rfl rfl (by decide +kernel) (Nat.le_of_ble_eq_true rfl) dX1_renewDate_17 (wFi cI cJ cZ a ld sl bd pw (upd dt x1' nd) st uc sv tl so lm n (nd + 1)) rfl (fun H locs hP hD hS => ?_)
  exact W.vret hx hb hr (fun t ht hW => ⟨⟨(), rfl, trivial, (z_at ht hP)⟩, hS.F ht⟩) hS.2.2 dX1_renewDate_20
theorem k_X1_suspend_1 : (Cond.fieldLink RX1 27 "Orbitregister$Filings" "state" "[I") ∈ wsX1_suspend := List.mem_of_getElem? (i := 1) rfl
theorem b_X1_suspend_wsX10 : ∀ w ∈ wsX10, w ∈ wsX1_suspend := fun _ h => List.mem_cons_of_mem _ (List.mem_append_right _ h)
theorem k_X1_suspend_2 : (Cond.fieldLink RX1 40 "Orbitregister$Filings" "suspendedOn" "[I") ∈ wsX1_suspend := List.mem_of_getElem? (i := 2) rfl
theorem k_X1_suspend_3 : (Cond.fieldLink RX1 34 "Orbitregister$Filings" "server" "[I") ∈ wsX1_suspend := List.mem_of_getElem? (i := 3) rfl
set_option maxHeartbeats 4000000 in
set_option maxRecDepth 100000 in
theorem c_X1_suspend (l : Launch) (D : va_G) (cI cJ cZ : ClassId) (a : Nat → Nat) (sz : Nat) (ld : A32) (sl : A32) (bd : A32) (pw : A32) (dt : A32) (st : A32) (uc : A32) (sv : A32) (tl : A32) (so : A32) (lm : A32) (n : Nat) (nd : Int32) (x1 : Int32) (x1' : Nat) (e_x1 : x1 = nI x1') (h_x1 : x1' < 40) (dy : Int32) : Met l yX1_suspend wsX1_suspend ({ frames := 0, cells := 0, slots := 0, locals := 0 }) (va_Pc [.ref (a 3), .int x1, .int dy] (ZP D (zt cI cJ cZ) (wFi cI cJ cZ a ld sl bd pw dt st uc sv tl so lm n nd) sz zT)) (va_Qv (fun (_ : Unit) => True) (fun _ t => va_P D vwCl (wFi cI cJ cZ a ld sl bd pw dt (upd st x1' 3) uc (upd sv x1' (-1)) tl (upd so x1' dy) lm n nd) t.heap) (va_A (wFi cI cJ cZ a ld sl bd pw dt st uc sv tl so lm n nd) sz)) 0 0 (va_A (wFi cI cJ cZ a ld sl bd pw dt st uc sv tl so lm n nd) sz) := by
  refine Met.ofW (cc := cX1_suspend) (maxL := 3) (ret := none) (by decide) rfl ?_
  intro p e s m args below meth c s₁ B hml hv
  obtain ⟨rfl, hsz, hP, hK, hD0, hE⟩ := hv
  have hx := B.exec
  have hb := B.bytes
  have hr := B.returns
  have hts := atoms_spec (ws := wsX1_suspend) B.pre
  have hown : s.vm.findClass RX1 = some m.cls := findClass_of_methodNamed B.named
  have hlocks := B.notSynchronized
  subst hsz
  have hD := hD0.self (sz := s.heap.size)
  generalize hAe : va_A (wFi cI cJ cZ a ld sl bd pw dt st uc sv tl so lm n nd) s.heap.size = A at hD ⊢
  have hA : ∀ q : Nat, s.heap.size ≤ q → A q := fun q h => by rw [← hAe]; exact Or.inr h
  have hS : va_S A s.heap s.heap [] := va_S.rf
  have hl := lv_entry ([.ref (a 3), .int x1, .int dy]) (n := 3) (Nat.le_of_ble_eq_true rfl)
  rw [lg_entry_eq]
  generalize (lg_sl ([.ref (a 3), .int x1, .int dy]) ++ List.replicate (3 - (lg_sl ([.ref (a 3), .int x1, .int dy])).length) Slot.unset).toArray = ls at hl ⊢
  have hl : lv_has ls 3 [(0, .ref (a 3)), (1, .int x1), (2, .int dy)] := hl
  have hP : va_P D vwCl (wFi cI cJ cZ a ld sl bd pw dt st uc sv tl so lm n nd) s.heap := hP
  refine lv_aload_n hx hb dX1_suspend_0 rfl (lv_at hl 0 rfl) ?_
  refine z_get (ci := 1) (C := RX1) (T := TX1) (N := 13) hx hb hts b_X1_suspend_wsX10 hown hK hP 0 rfl rfl 5 (by decide) (hts _ k_X1_suspend_1) rfl (.ref (a 9)) rfl dX1_suspend_1 ?_
  refine lv_iload_n hx hb dX1_suspend_4 rfl (lv_at hl 1 rfl) ?_
  refine lv_iconst (v := 3) hx hb dX1_suspend_5 (by decide) ?_
  refine z_iast hx hb hK hP hD hS 6 0 rfl rfl x1' e_x1 (by omega) rfl dX1_suspend_6 (wFi cI cJ cZ a ld sl bd pw dt (upd st x1' 3) uc sv tl so lm n nd) rfl (fun H locs hP hD hS => ?_)
  refine lv_aload_n hx hb dX1_suspend_7 rfl (lv_at hl 0 rfl) ?_
  refine z_get (ci := 1) (C := RX1) (T := TX1) (N := 13) hx hb hts b_X1_suspend_wsX10 hown hK hP 0 rfl rfl 9 (by decide) (hts _ k_X1_suspend_2) rfl (.ref (a 13)) rfl dX1_suspend_8 ?_
  refine lv_iload_n hx hb dX1_suspend_11 rfl (lv_at hl 1 rfl) ?_
  refine lv_iload_n hx hb dX1_suspend_12 rfl (lv_at hl 2 rfl) ?_
  refine z_iast hx hb hK hP hD hS 10 0 rfl rfl x1' e_x1 (by omega) rfl dX1_suspend_13 (wFi cI cJ cZ a ld sl bd pw dt (upd st x1' 3) uc sv tl (upd so x1' dy) lm n nd) rfl (fun H locs hP hD hS => ?_)
  refine lv_aload_n hx hb dX1_suspend_14 rfl (lv_at hl 0 rfl) ?_
  refine z_get (ci := 1) (C := RX1) (T := TX1) (N := 13) hx hb hts b_X1_suspend_wsX10 hown hK hP 0 rfl rfl 7 (by decide) (hts _ k_X1_suspend_3) rfl (.ref (a 11)) rfl dX1_suspend_15 ?_
  refine lv_iload_n hx hb dX1_suspend_18 rfl (lv_at hl 1 rfl) ?_
  refine lv_iconst (v := (-1)) hx hb dX1_suspend_19 (by decide) ?_
  refine z_iast hx hb hK hP hD hS 8 0 rfl rfl x1' e_x1 (by omega) rfl dX1_suspend_20 (wFi cI cJ cZ a ld sl bd pw dt (upd st x1' 3) uc (upd sv x1' (-1)) tl (upd so x1' dy) lm n nd) rfl (fun H locs hP hD hS => ?_)
  exact W.vret hx hb hr (fun t ht hW => ⟨⟨(), rfl, trivial, (z_at ht hP)⟩, hS.F ht⟩) hS.2.2 dX1_suspend_21
theorem k_X1_lapse_1 : (Cond.fieldLink RX1 27 "Orbitregister$Filings" "state" "[I") ∈ wsX1_lapse := List.mem_of_getElem? (i := 1) rfl
theorem b_X1_lapse_wsX10 : ∀ w ∈ wsX10, w ∈ wsX1_lapse := fun _ h => List.mem_cons_of_mem _ (List.mem_append_right _ h)
theorem k_X1_lapse_2 : (Cond.fieldLink RX1 34 "Orbitregister$Filings" "server" "[I") ∈ wsX1_lapse := List.mem_of_getElem? (i := 2) rfl
set_option maxHeartbeats 4000000 in
set_option maxRecDepth 100000 in
theorem c_X1_lapse (l : Launch) (D : va_G) (cI cJ cZ : ClassId) (a : Nat → Nat) (sz : Nat) (ld : A32) (sl : A32) (bd : A32) (pw : A32) (dt : A32) (st : A32) (uc : A32) (sv : A32) (tl : A32) (so : A32) (lm : A32) (n : Nat) (nd : Int32) (x1 : Int32) (x1' : Nat) (e_x1 : x1 = nI x1') (h_x1 : x1' < 40) : Met l yX1_lapse wsX1_lapse ({ frames := 0, cells := 0, slots := 0, locals := 0 }) (va_Pc [.ref (a 3), .int x1] (ZP D (zt cI cJ cZ) (wFi cI cJ cZ a ld sl bd pw dt st uc sv tl so lm n nd) sz zT)) (va_Qv (fun (_ : Unit) => True) (fun _ t => va_P D vwCl (wFi cI cJ cZ a ld sl bd pw dt (upd st x1' 4) uc (upd sv x1' (-1)) tl so lm n nd) t.heap) (va_A (wFi cI cJ cZ a ld sl bd pw dt st uc sv tl so lm n nd) sz)) 0 0 (va_A (wFi cI cJ cZ a ld sl bd pw dt st uc sv tl so lm n nd) sz) := by
  refine Met.ofW (cc := cX1_lapse) (maxL := 2) (ret := none) (by decide) rfl ?_
  intro p e s m args below meth c s₁ B hml hv
  obtain ⟨rfl, hsz, hP, hK, hD0, hE⟩ := hv
  have hx := B.exec
  have hb := B.bytes
  have hr := B.returns
  have hts := atoms_spec (ws := wsX1_lapse) B.pre
  have hown : s.vm.findClass RX1 = some m.cls := findClass_of_methodNamed B.named
  have hlocks := B.notSynchronized
  subst hsz
  have hD := hD0.self (sz := s.heap.size)
  generalize hAe : va_A (wFi cI cJ cZ a ld sl bd pw dt st uc sv tl so lm n nd) s.heap.size = A at hD ⊢
  have hA : ∀ q : Nat, s.heap.size ≤ q → A q := fun q h => by rw [← hAe]; exact Or.inr h
  have hS : va_S A s.heap s.heap [] := va_S.rf
  have hl := lv_entry ([.ref (a 3), .int x1]) (n := 2) (Nat.le_of_ble_eq_true rfl)
  rw [lg_entry_eq]
  generalize (lg_sl ([.ref (a 3), .int x1]) ++ List.replicate (2 - (lg_sl ([.ref (a 3), .int x1])).length) Slot.unset).toArray = ls at hl ⊢
  have hl : lv_has ls 2 [(0, .ref (a 3)), (1, .int x1)] := hl
  have hP : va_P D vwCl (wFi cI cJ cZ a ld sl bd pw dt st uc sv tl so lm n nd) s.heap := hP
  refine lv_aload_n hx hb dX1_lapse_0 rfl (lv_at hl 0 rfl) ?_
  refine z_get (ci := 1) (C := RX1) (T := TX1) (N := 13) hx hb hts b_X1_lapse_wsX10 hown hK hP 0 rfl rfl 5 (by decide) (hts _ k_X1_lapse_1) rfl (.ref (a 9)) rfl dX1_lapse_1 ?_
  refine lv_iload_n hx hb dX1_lapse_4 rfl (lv_at hl 1 rfl) ?_
  refine lv_iconst (v := 4) hx hb dX1_lapse_5 (by decide) ?_
  refine z_iast hx hb hK hP hD hS 6 0 rfl rfl x1' e_x1 (by omega) rfl dX1_lapse_6 (wFi cI cJ cZ a ld sl bd pw dt (upd st x1' 4) uc sv tl so lm n nd) rfl (fun H locs hP hD hS => ?_)
  refine lv_aload_n hx hb dX1_lapse_7 rfl (lv_at hl 0 rfl) ?_
  refine z_get (ci := 1) (C := RX1) (T := TX1) (N := 13) hx hb hts b_X1_lapse_wsX10 hown hK hP 0 rfl rfl 7 (by decide) (hts _ k_X1_lapse_2) rfl (.ref (a 11)) rfl dX1_lapse_8 ?_
  refine lv_iload_n hx hb dX1_lapse_11 rfl (lv_at hl 1 rfl) ?_
  refine lv_iconst (v := (-1)) hx hb dX1_lapse_12 (by decide) ?_
  refine z_iast hx hb hK hP hD hS 8 0 rfl rfl x1' e_x1 (by omega) rfl dX1_lapse_13 (wFi cI cJ cZ a ld sl bd pw dt (upd st x1' 4) uc (upd sv x1' (-1)) tl so lm n nd) rfl (fun H locs hP hD hS => ?_)
  exact W.vret hx hb hr (fun t ht hW => ⟨⟨(), rfl, trivial, (z_at ht hP)⟩, hS.F ht⟩) hS.2.2 dX1_lapse_14
theorem k_X1_harmFrom_1 : (Cond.fieldLink RX1 18 "Orbitregister$Filings" "band" "[I") ∈ wsX1_harmFrom := List.mem_of_getElem? (i := 1) rfl
theorem b_X1_harmFrom_wsX10 : ∀ w ∈ wsX10, w ∈ wsX1_harmFrom := fun _ h => List.mem_cons_of_mem _ (List.mem_append_right _ h)
theorem k_X1_harmFrom_2 : (Cond.fieldLink RX1 15 "Orbitregister$Filings" "slot" "[I") ∈ wsX1_harmFrom := List.mem_of_getElem? (i := 2) rfl
theorem k_X1_harmFrom_3 : (Cond.methodLink RX1 69 Lib.Math.abs.name) ∈ wsX1_harmFrom := List.mem_of_getElem? (i := 3) rfl
theorem k_X1_harmFrom_4 : (Cond.static Lib.Math.abs.name) ∈ wsX1_harmFrom := List.mem_of_getElem? (i := 4) rfl
theorem k_X1_harmFrom_5 : (Cond.initialized "java/lang/Math") ∈ wsX1_harmFrom := List.mem_of_getElem? (i := 5) rfl
theorem k_X1_harmFrom_6 : (Cond.code Lib.Math.abs.name Lib.Math.abs.code 1 (some .int)) ∈ wsX1_harmFrom := List.mem_of_getElem? (i := 6) rfl
theorem k_X1_harmFrom_7 : (Cond.methodLink RX1 75 Lib.Math.min.name) ∈ wsX1_harmFrom := List.mem_of_getElem? (i := 7) rfl
theorem k_X1_harmFrom_8 : (Cond.static Lib.Math.min.name) ∈ wsX1_harmFrom := List.mem_of_getElem? (i := 8) rfl
theorem k_X1_harmFrom_9 : (Cond.code Lib.Math.min.name Lib.Math.min.code 2 (some .int)) ∈ wsX1_harmFrom := List.mem_of_getElem? (i := 9) rfl
theorem k_X1_harmFrom_10 : (Cond.methodLink RX1 79 Lib.Math.max.name) ∈ wsX1_harmFrom := List.mem_of_getElem? (i := 10) rfl
theorem k_X1_harmFrom_11 : (Cond.static Lib.Math.max.name) ∈ wsX1_harmFrom := List.mem_of_getElem? (i := 11) rfl
theorem k_X1_harmFrom_12 : (Cond.code Lib.Math.max.name Lib.Math.max.code 2 (some .int)) ∈ wsX1_harmFrom := List.mem_of_getElem? (i := 12) rfl
set_option maxHeartbeats 4000000 in
set_option maxRecDepth 100000 in
theorem c_X1_harmFrom (l : Launch) (D : va_G) (cI cJ cZ : ClassId) (a : Nat → Nat) (sz : Nat) (ld : A32) (sl : A32) (bd : A32) (pw : A32) (dt : A32) (st : A32) (uc : A32) (sv : A32) (tl : A32) (so : A32) (lm : A32) (n : Nat) (nd : Int32) (x1 : Int32) (x1' : Nat) (e_x1 : x1 = nI x1') (h_x1 : x1' < 40) (fs : Int32) (w : Int32) (x2 : Int32) (x2' : Nat) (e_x2 : x2 = nI x2') (h_x2 : x2' < 40) : Met l yX1_harmFrom wsX1_harmFrom ({ frames := 1, cells := 0, slots := 0, locals := 21 }) (va_Pc [.ref (a 3), .int x1, .int fs, .int w, .int x2] (ZP D (zt cI cJ cZ) (wFi cI cJ cZ a ld sl bd pw dt st uc sv tl so lm n nd) sz zT)) (va_Qi (fun (r : Int32) (_ : Unit) => r = F_harm bd st sl x1' fs w x2') (fun _ _ => True) (va_A [] sz)) 0 0 (va_A [] sz) := by
  refine Met.ofW (cc := cX1_harmFrom) (maxL := 7) (ret := (some .int)) (by decide) rfl ?_
  intro p e s m args below meth c s₁ B hml hv
  obtain ⟨rfl, hsz, hP, hK, hD0, hE⟩ := hv
  have hx := B.exec
  have hb := B.bytes
  have hr := B.returns
  have hts := atoms_spec (ws := wsX1_harmFrom) B.pre
  have hown : s.vm.findClass RX1 = some m.cls := findClass_of_methodNamed B.named
  have hlocks := B.notSynchronized
  subst hsz
  have hD := hD0
  generalize hAe : va_A [] s.heap.size = A at ⊢
  have hA : ∀ q : Nat, s.heap.size ≤ q → A q := fun q h => by rw [← hAe]; exact Or.inr h
  have hS : va_S A s.heap s.heap [] := va_S.rf
  have hl := lv_entry ([.ref (a 3), .int x1, .int fs, .int w, .int x2]) (n := 7) (Nat.le_of_ble_eq_true rfl)
  rw [lg_entry_eq]
  generalize (lg_sl ([.ref (a 3), .int x1, .int fs, .int w, .int x2]) ++ List.replicate (7 - (lg_sl ([.ref (a 3), .int x1, .int fs, .int w, .int x2])).length) Slot.unset).toArray = ls at hl ⊢
  have hl : lv_has ls 7 [(0, .ref (a 3)), (1, .int x1), (2, .int fs), (3, .int w), (4, .int x2)] := hl
  have hP : va_P D vwCl (wFi cI cJ cZ a ld sl bd pw dt st uc sv tl so lm n nd) s.heap := hP
  refine lv_iload_n hx hb dX1_harmFrom_0 rfl (lv_at hl 1 rfl) ?_
  refine lv_iload hx hb dX1_harmFrom_1 (lv_at hl 4 rfl) ?_
  refine lv_icmp_eq (tgt := 39) hx hb dX1_harmFrom_3 (by decide) (fun c_1 => ?_) (fun c_1 => ?_)
  · have f_1 := z_eqN (a := x1') (b := x2') c_1 e_x1 e_x2 (by omega) (by omega)
    refine lv_iconst (v := 0) hx hb dX1_harmFrom_39 (by decide) ?_
    exact W.iret (v := 0) hx hb hr (fun t ht hW => ⟨⟨0, (), rfl, (by first | with_reducible rfl | (simp only [F_harm, F_way, if_pos c_1]; done) | (simp +decide only [F_harm, F_way, f_1, if_pos c_1]; done) | (simp [F_harm, F_way, c_1, f_1]; done) | (simp +decide [F_harm, F_way, c_1, f_1]; done)), trivial⟩, hS.F ht⟩) hS.2.2 dX1_harmFrom_40
  · have f_1 := z_neN (a := x1') (b := x2') c_1 e_x1 e_x2 (by omega) (by omega)
    refine lv_aload_n hx hb dX1_harmFrom_6 rfl (lv_at hl 0 rfl) ?_
    refine z_get (ci := 1) (C := RX1) (T := TX1) (N := 13) hx hb hts b_X1_harmFrom_wsX10 hown hK hP 0 rfl rfl 2 (by decide) (hts _ k_X1_harmFrom_1) rfl (.ref (a 6)) rfl dX1_harmFrom_7 ?_
    refine lv_iload_n hx hb dX1_harmFrom_10 rfl (lv_at hl 1 rfl) ?_
    refine z_iald hx hb hK hP 3 0 rfl rfl x1' e_x1 (by omega) rfl dX1_harmFrom_11 ?_
    refine lv_aload_n hx hb dX1_harmFrom_12 rfl (lv_at hl 0 rfl) ?_
    refine z_get (ci := 1) (C := RX1) (T := TX1) (N := 13) hx hb hts b_X1_harmFrom_wsX10 hown hK hP 0 rfl rfl 2 (by decide) (hts _ k_X1_harmFrom_1) rfl (.ref (a 6)) rfl dX1_harmFrom_13 ?_
    refine lv_iload hx hb dX1_harmFrom_16 (lv_at hl 4 rfl) ?_
    refine z_iald hx hb hK hP 3 0 rfl rfl x2' e_x2 (by omega) rfl dX1_harmFrom_18 ?_
    refine lv_icmp_ne (tgt := 39) hx hb dX1_harmFrom_19 (by decide) (fun c_2 => ?_) (fun c_2 => ?_)
    · refine lv_iconst (v := 0) hx hb dX1_harmFrom_39 (by decide) ?_
      exact W.iret (v := 0) hx hb hr (fun t ht hW => ⟨⟨0, (), rfl, (by first | with_reducible rfl | (simp only [F_harm, F_way, if_neg c_1, if_neg c_2]; done) | (simp +decide only [F_harm, F_way, f_1, if_neg c_1, if_neg c_2]; done) | (simp [F_harm, F_way, c_1, c_2, f_1]; done) | (simp +decide [F_harm, F_way, c_1, c_2, f_1]; done)), trivial⟩, hS.F ht⟩) hS.2.2 dX1_harmFrom_40
    · refine lv_aload_n hx hb dX1_harmFrom_22 rfl (lv_at hl 0 rfl) ?_
      refine lv_iload_n hx hb dX1_harmFrom_23 rfl (lv_at hl 1 rfl) ?_
      refine z_ri (va_runV (As := [.int x1]) (rest := []) ⟨hx, hb, hml, hown, hts⟩ (c_X1_isLapsed l D cI cJ cZ a s.heap.size ld sl bd pw dt st uc sv tl so lm n nd x1 x1' e_x1 (by omega)) (cwV 1 hts gX1_harmFrom_X1_isLapsed rfl rfl rfl (by decide +kernel) ⟨Nat.le_of_ble_eq_true rfl, Nat.le_of_ble_eq_true rfl⟩) (z_pv hK hP hD (q0 := 0) (ci := 1) rfl rfl zT_b zT_m) rfl rfl hl.1 rfl (lv_room (Nat.le_of_ble_eq_true rfl)) dX1_harmFrom_24 ⟨Nat.le_of_ble_eq_true rfl, Nat.le_of_ble_eq_true rfl⟩) hP hS hA (fun r_3 _ H locs hr_3 hP hS => ?_)
      subst hr_3
      refine lv_if_ne (tgt := 39) hx hb dX1_harmFrom_27 (by decide) (fun c_4 => ?_) (fun c_4 => ?_)
      · refine lv_iconst (v := 0) hx hb dX1_harmFrom_39 (by decide) ?_
        exact W.iret (v := 0) hx hb hr (fun t ht hW => ⟨⟨0, (), rfl, (by first | with_reducible rfl | (simp only [F_harm, F_way, if_neg c_1, if_pos c_2, if_neg c_4]; done) | (simp +decide only [F_harm, F_way, f_1, if_neg c_1, if_pos c_2, if_neg c_4]; done) | (simp [F_harm, F_way, c_1, c_2, c_4, f_1]; done) | (simp +decide [F_harm, F_way, c_1, c_2, c_4, f_1]; done)), trivial⟩, hS.F ht⟩) hS.2.2 dX1_harmFrom_40
      · refine lv_aload_n hx hb dX1_harmFrom_30 rfl (lv_at hl 0 rfl) ?_
        refine lv_iload hx hb dX1_harmFrom_31 (lv_at hl 4 rfl) ?_
        refine z_ri (va_runV (As := [.int x2]) (rest := []) ⟨hx, hb, hml, hown, hts⟩ (c_X1_isLapsed l D cI cJ cZ a H.size ld sl bd pw dt st uc sv tl so lm n nd x2 x2' e_x2 (by omega)) (cwV 1 hts gX1_harmFrom_X1_isLapsed rfl rfl rfl (by decide +kernel) ⟨Nat.le_of_ble_eq_true rfl, Nat.le_of_ble_eq_true rfl⟩) (z_pv hK hP hD (q0 := 0) (ci := 1) rfl rfl zT_b zT_m) rfl rfl hl.1 rfl (lv_room (Nat.le_of_ble_eq_true rfl)) dX1_harmFrom_33 ⟨Nat.le_of_ble_eq_true rfl, Nat.le_of_ble_eq_true rfl⟩) hP hS hA (fun r_5 _ H locs hr_5 hP hS => ?_)
        subst hr_5
        refine lv_if_eq (tgt := 41) hx hb dX1_harmFrom_36 (by decide) (fun c_6 => ?_) (fun c_6 => ?_)
        · refine lv_iload_n hx hb dX1_harmFrom_41 rfl (lv_at hl 2 rfl) ?_
          refine lv_aload_n hx hb dX1_harmFrom_42 rfl (lv_at hl 0 rfl) ?_
          refine z_get (ci := 1) (C := RX1) (T := TX1) (N := 13) hx hb hts b_X1_harmFrom_wsX10 hown hK hP 0 rfl rfl 1 (by decide) (hts _ k_X1_harmFrom_2) rfl (.ref (a 5)) rfl dX1_harmFrom_43 ?_
          refine lv_iload hx hb dX1_harmFrom_46 (lv_at hl 4 rfl) ?_
          refine z_iald hx hb hK hP 2 0 rfl rfl x2' e_x2 (by omega) rfl dX1_harmFrom_48 ?_
          refine lv_isub hx hb dX1_harmFrom_49 ?_
          refine va_mabs hx hb (hml.trans hl.1.symm) hown (hts _ k_X1_harmFrom_3) (hts _ k_X1_harmFrom_4) (hts _ k_X1_harmFrom_5) (hts _ k_X1_harmFrom_6) (Nat.le_of_ble_eq_true rfl) (Nat.le_of_ble_eq_true rfl) (Nat.le_of_ble_eq_true rfl) (Nat.le_of_ble_eq_true rfl) dX1_harmFrom_50 ?_
          refine W.eq (g2 := F0 m 53 ls [.int (F_abs (fs - (sl x2')))]) rfl ?_
          refine lv_istore (lv' := [(5, .int (F_abs (fs - (sl x2')))), (0, .ref (a 3)), (1, .int x1), (2, .int fs), (3, .int w), (4, .int x2)]) hx hb dX1_harmFrom_53 hl (by decide) rfl (fun ls hl => ?_)
          refine lv_iload hx hb dX1_harmFrom_55 (lv_at hl 0 rfl) ?_
          refine lv_sipush (v := 360) hx hb dX1_harmFrom_57 (by decide) ?_
          refine lv_iload hx hb dX1_harmFrom_60 (lv_at hl 0 rfl) ?_
          refine lv_isub hx hb dX1_harmFrom_62 ?_
          refine va_mmin hx hb (hml.trans hl.1.symm) hown (hts _ k_X1_harmFrom_7) (hts _ k_X1_harmFrom_8) (hts _ k_X1_harmFrom_5) (hts _ k_X1_harmFrom_9) (Nat.le_of_ble_eq_true rfl) (Nat.le_of_ble_eq_true rfl) (Nat.le_of_ble_eq_true rfl) (Nat.le_of_ble_eq_true rfl) dX1_harmFrom_63 ?_
          refine W.eq (g2 := F0 m 66 ls [.int (F_min (F_abs (fs - (sl x2'))) (360 - (F_abs (fs - (sl x2')))))]) rfl ?_
          refine lv_istore (lv' := [(6, .int (F_min (F_abs (fs - (sl x2'))) (360 - (F_abs (fs - (sl x2')))))), (5, .int (F_abs (fs - (sl x2')))), (0, .ref (a 3)), (1, .int x1), (2, .int fs), (3, .int w), (4, .int x2)]) hx hb dX1_harmFrom_66 hl (by decide) rfl (fun ls hl => ?_)
          refine lv_iload_n hx hb dX1_harmFrom_68 rfl (lv_at hl 5 rfl) ?_
          refine lv_bipush (v := 12) hx hb dX1_harmFrom_69 (by decide) ?_
          refine lv_iload hx hb dX1_harmFrom_71 (lv_at hl 0 rfl) ?_
          refine lv_isub hx hb dX1_harmFrom_73 ?_
          refine lv_iconst (v := 0) hx hb dX1_harmFrom_74 (by decide) ?_
          refine va_mmax hx hb (hml.trans hl.1.symm) hown (hts _ k_X1_harmFrom_10) (hts _ k_X1_harmFrom_11) (hts _ k_X1_harmFrom_5) (hts _ k_X1_harmFrom_12) (Nat.le_of_ble_eq_true rfl) (Nat.le_of_ble_eq_true rfl) (Nat.le_of_ble_eq_true rfl) (Nat.le_of_ble_eq_true rfl) dX1_harmFrom_75 ?_
          refine W.eq (g2 := F0 m 78 ls [.int (F_max (12 - (F_min (F_abs (fs - (sl x2'))) (360 - (F_abs (fs - (sl x2')))))) 0), .int w]) rfl ?_
          refine lv_imul hx hb dX1_harmFrom_78 ?_
          exact W.iret (v := w * (F_max (12 - (F_min (F_abs (fs - (sl x2'))) (360 - (F_abs (fs - (sl x2')))))) 0)) hx hb hr (fun t ht hW => ⟨⟨w * (F_max (12 - (F_min (F_abs (fs - (sl x2'))) (360 - (F_abs (fs - (sl x2')))))) 0), (), rfl, (by first | with_reducible rfl | (simp only [F_harm, F_way, if_neg c_1, if_pos c_2, if_pos c_4, if_pos c_6]; done) | (simp +decide only [F_harm, F_way, f_1, if_neg c_1, if_pos c_2, if_pos c_4, if_pos c_6]; done) | (simp [F_harm, F_way, c_1, c_2, c_4, c_6, f_1]; done) | (simp +decide [F_harm, F_way, c_1, c_2, c_4, c_6, f_1]; done)), trivial⟩, hS.F ht⟩) hS.2.2 dX1_harmFrom_79
        · refine lv_iconst (v := 0) hx hb dX1_harmFrom_39 (by decide) ?_
          exact W.iret (v := 0) hx hb hr (fun t ht hW => ⟨⟨0, (), rfl, (by first | with_reducible rfl | (simp only [F_harm, F_way, if_neg c_1, if_pos c_2, if_pos c_4, if_neg c_6]; done) | (simp +decide only [F_harm, F_way, f_1, if_neg c_1, if_pos c_2, if_pos c_4, if_neg c_6]; done) | (simp [F_harm, F_way, c_1, c_2, c_4, c_6, f_1]; done) | (simp +decide [F_harm, F_way, c_1, c_2, c_4, c_6, f_1]; done)), trivial⟩, hS.F ht⟩) hS.2.2 dX1_harmFrom_40
theorem k_X1_harmTo_1 : (Cond.fieldLink RX1 15 "Orbitregister$Filings" "slot" "[I") ∈ wsX1_harmTo := List.mem_of_getElem? (i := 1) rfl
theorem b_X1_harmTo_wsX10 : ∀ w ∈ wsX10, w ∈ wsX1_harmTo := fun _ h => List.mem_cons_of_mem _ (List.mem_append_right _ h)
theorem k_X1_harmTo_2 : (Cond.fieldLink RX1 21 "Orbitregister$Filings" "power" "[I") ∈ wsX1_harmTo := List.mem_of_getElem? (i := 2) rfl
set_option maxHeartbeats 4000000 in
set_option maxRecDepth 100000 in
theorem c_X1_harmTo (l : Launch) (D : va_G) (cI cJ cZ : ClassId) (a : Nat → Nat) (sz : Nat) (ld : A32) (sl : A32) (bd : A32) (pw : A32) (dt : A32) (st : A32) (uc : A32) (sv : A32) (tl : A32) (so : A32) (lm : A32) (n : Nat) (nd : Int32) (x1 : Int32) (x1' : Nat) (e_x1 : x1 = nI x1') (h_x1 : x1' < 40) (x2 : Int32) (x2' : Nat) (e_x2 : x2 = nI x2') (h_x2 : x2' < 40) : Met l yX1_harmTo wsX1_harmTo ({ frames := 2, cells := 0, slots := 0, locals := 47 }) (va_Pc [.ref (a 3), .int x1, .int x2] (ZP D (zt cI cJ cZ) (wFi cI cJ cZ a ld sl bd pw dt st uc sv tl so lm n nd) sz zT)) (va_Qi (fun (r : Int32) (_ : Unit) => r = F_harmTo bd st sl pw x1' x2') (fun _ _ => True) (va_A [] sz)) 0 0 (va_A [] sz) := by
  refine Met.ofW (cc := cX1_harmTo) (maxL := 3) (ret := (some .int)) (by decide) rfl ?_
  intro p e s m args below meth c s₁ B hml hv
  obtain ⟨rfl, hsz, hP, hK, hD0, hE⟩ := hv
  have hx := B.exec
  have hb := B.bytes
  have hr := B.returns
  have hts := atoms_spec (ws := wsX1_harmTo) B.pre
  have hown : s.vm.findClass RX1 = some m.cls := findClass_of_methodNamed B.named
  have hlocks := B.notSynchronized
  subst hsz
  have hD := hD0
  generalize hAe : va_A [] s.heap.size = A at ⊢
  have hA : ∀ q : Nat, s.heap.size ≤ q → A q := fun q h => by rw [← hAe]; exact Or.inr h
  have hS : va_S A s.heap s.heap [] := va_S.rf
  have hl := lv_entry ([.ref (a 3), .int x1, .int x2]) (n := 3) (Nat.le_of_ble_eq_true rfl)
  rw [lg_entry_eq]
  generalize (lg_sl ([.ref (a 3), .int x1, .int x2]) ++ List.replicate (3 - (lg_sl ([.ref (a 3), .int x1, .int x2])).length) Slot.unset).toArray = ls at hl ⊢
  have hl : lv_has ls 3 [(0, .ref (a 3)), (1, .int x1), (2, .int x2)] := hl
  have hP : va_P D vwCl (wFi cI cJ cZ a ld sl bd pw dt st uc sv tl so lm n nd) s.heap := hP
  refine lv_aload_n hx hb dX1_harmTo_0 rfl (lv_at hl 0 rfl) ?_
  refine lv_iload_n hx hb dX1_harmTo_1 rfl (lv_at hl 1 rfl) ?_
  refine lv_aload_n hx hb dX1_harmTo_2 rfl (lv_at hl 0 rfl) ?_
  refine z_get (ci := 1) (C := RX1) (T := TX1) (N := 13) hx hb hts b_X1_harmTo_wsX10 hown hK hP 0 rfl rfl 1 (by decide) (hts _ k_X1_harmTo_1) rfl (.ref (a 5)) rfl dX1_harmTo_3 ?_
  refine lv_iload_n hx hb dX1_harmTo_6 rfl (lv_at hl 1 rfl) ?_
  refine z_iald hx hb hK hP 2 0 rfl rfl x1' e_x1 (by omega) rfl dX1_harmTo_7 ?_
  refine lv_aload_n hx hb dX1_harmTo_8 rfl (lv_at hl 0 rfl) ?_
  refine z_get (ci := 1) (C := RX1) (T := TX1) (N := 13) hx hb hts b_X1_harmTo_wsX10 hown hK hP 0 rfl rfl 3 (by decide) (hts _ k_X1_harmTo_2) rfl (.ref (a 7)) rfl dX1_harmTo_9 ?_
  refine lv_iload_n hx hb dX1_harmTo_12 rfl (lv_at hl 1 rfl) ?_
  refine z_iald hx hb hK hP 4 0 rfl rfl x1' e_x1 (by omega) rfl dX1_harmTo_13 ?_
  refine lv_iload_n hx hb dX1_harmTo_14 rfl (lv_at hl 2 rfl) ?_
  refine z_ri (va_runV (As := [.int x1, .int (sl x1'), .int (pw x1'), .int x2]) (rest := []) ⟨hx, hb, hml, hown, hts⟩ (c_X1_harmFrom l D cI cJ cZ a s.heap.size ld sl bd pw dt st uc sv tl so lm n nd x1 x1' e_x1 (by omega) (sl x1') (pw x1') x2 x2' e_x2 (by omega)) (cwV 4 hts gX1_harmTo_X1_harmFrom rfl rfl rfl (by decide +kernel) ⟨Nat.le_of_ble_eq_true rfl, Nat.le_of_ble_eq_true rfl⟩) (z_pv hK hP hD (q0 := 0) (ci := 1) rfl rfl zT_b zT_m) rfl rfl hl.1 rfl (lv_room (Nat.le_of_ble_eq_true rfl)) dX1_harmTo_15 ⟨Nat.le_of_ble_eq_true rfl, Nat.le_of_ble_eq_true rfl⟩) hP hS hA (fun r_1 _ H locs hr_1 hP hS => ?_)
  subst hr_1
  exact W.iret (v := F_harm bd st sl x1' (sl x1') (pw x1') x2') hx hb hr (fun t ht hW => ⟨⟨F_harm bd st sl x1' (sl x1') (pw x1') x2', (), rfl, (by first | with_reducible rfl | (simp only [F_harmTo]; done) | (simp +decide only [F_harmTo]; done) | (simp [F_harmTo]; done) | (simp +decide [F_harmTo]; done)), trivial⟩, hS.F ht⟩) hS.2.2 dX1_harmTo_18
set_option maxHeartbeats 4000000 in
set_option maxRecDepth 100000 in
theorem c_X1_isOverLimit (l : Launch) (D : va_G) (cI cJ cZ : ClassId) (a : Nat → Nat) (sz : Nat) (ld : A32) (sl : A32) (bd : A32) (pw : A32) (dt : A32) (st : A32) (uc : A32) (sv : A32) (tl : A32) (so : A32) (lm : A32) (n : Nat) (nd : Int32) (x1 : Int32) (x1' : Nat) (e_x1 : x1 = nI x1') (h_x1 : x1' < 40) (x2 : Int32) (x2' : Nat) (e_x2 : x2 = nI x2') (h_x2 : x2' < 40) : Met l yX1_isOverLimit wsX1_isOverLimit ({ frames := 3, cells := 0, slots := 0, locals := 69 }) (va_Pc [.ref (a 3), .int x1, .int x2] (ZP D (zt cI cJ cZ) (wFi cI cJ cZ a ld sl bd pw dt st uc sv tl so lm n nd) sz zT)) (va_Qi (fun (r : Int32) (_ : Unit) => r = F_over bd st sl pw dt lm x1' x2') (fun _ _ => True) (va_A [] sz)) 0 0 (va_A [] sz) := by
  refine Met.ofW (cc := cX1_isOverLimit) (maxL := 3) (ret := (some .boolean)) (by decide) rfl ?_
  intro p e s m args below meth c s₁ B hml hv
  obtain ⟨rfl, hsz, hP, hK, hD0, hE⟩ := hv
  have hx := B.exec
  have hb := B.bytes
  have hr := B.returns
  have hts := atoms_spec (ws := wsX1_isOverLimit) B.pre
  have hown : s.vm.findClass RX1 = some m.cls := findClass_of_methodNamed B.named
  have hlocks := B.notSynchronized
  subst hsz
  have hD := hD0
  generalize hAe : va_A [] s.heap.size = A at ⊢
  have hA : ∀ q : Nat, s.heap.size ≤ q → A q := fun q h => by rw [← hAe]; exact Or.inr h
  have hS : va_S A s.heap s.heap [] := va_S.rf
  have hl := lv_entry ([.ref (a 3), .int x1, .int x2]) (n := 3) (Nat.le_of_ble_eq_true rfl)
  rw [lg_entry_eq]
  generalize (lg_sl ([.ref (a 3), .int x1, .int x2]) ++ List.replicate (3 - (lg_sl ([.ref (a 3), .int x1, .int x2])).length) Slot.unset).toArray = ls at hl ⊢
  have hl : lv_has ls 3 [(0, .ref (a 3)), (1, .int x1), (2, .int x2)] := hl
  have hP : va_P D vwCl (wFi cI cJ cZ a ld sl bd pw dt st uc sv tl so lm n nd) s.heap := hP
  refine lv_aload_n hx hb dX1_isOverLimit_0 rfl (lv_at hl 0 rfl) ?_
  refine lv_iload_n hx hb dX1_isOverLimit_1 rfl (lv_at hl 2 rfl) ?_
  refine lv_iload_n hx hb dX1_isOverLimit_2 rfl (lv_at hl 1 rfl) ?_
  refine z_ri (va_runV (As := [.int x2, .int x1]) (rest := []) ⟨hx, hb, hml, hown, hts⟩ (c_X1_isAhead l D cI cJ cZ a s.heap.size ld sl bd pw dt st uc sv tl so lm n nd x2 x2' e_x2 (by omega) x1 x1' e_x1 (by omega)) (cwV 2 hts gX1_isOverLimit_X1_isAhead rfl rfl rfl (by decide +kernel) ⟨Nat.le_of_ble_eq_true rfl, Nat.le_of_ble_eq_true rfl⟩) (z_pv hK hP hD (q0 := 0) (ci := 1) rfl rfl zT_b zT_m) rfl rfl hl.1 rfl (lv_room (Nat.le_of_ble_eq_true rfl)) dX1_isOverLimit_3 ⟨Nat.le_of_ble_eq_true rfl, Nat.le_of_ble_eq_true rfl⟩) hP hS hA (fun r_1 _ H locs hr_1 hP hS => ?_)
  subst hr_1
  refine lv_if_eq (tgt := 28) hx hb dX1_isOverLimit_6 (by decide) (fun c_2 => ?_) (fun c_2 => ?_)
  · refine lv_iconst (v := 0) hx hb dX1_isOverLimit_28 (by decide) ?_
    exact W.zret (v := 0) hx hb hr (by decide) (fun t ht hW => ⟨⟨0, (), rfl, (by first | with_reducible rfl | (simp only [F_over, if_pos c_2]; done) | (simp +decide only [F_over, if_pos c_2]; done) | (simp [F_over, c_2]; done) | (simp +decide [F_over, c_2]; done)), trivial⟩, hS.F ht⟩) hS.2.2 dX1_isOverLimit_29
  · refine lv_aload_n hx hb dX1_isOverLimit_9 rfl (lv_at hl 0 rfl) ?_
    refine lv_iload_n hx hb dX1_isOverLimit_10 rfl (lv_at hl 1 rfl) ?_
    refine lv_iload_n hx hb dX1_isOverLimit_11 rfl (lv_at hl 2 rfl) ?_
    refine z_ri (va_runV (As := [.int x1, .int x2]) (rest := []) ⟨hx, hb, hml, hown, hts⟩ (c_X1_harmTo l D cI cJ cZ a H.size ld sl bd pw dt st uc sv tl so lm n nd x1 x1' e_x1 (by omega) x2 x2' e_x2 (by omega)) (cwV 2 hts gX1_isOverLimit_X1_harmTo rfl rfl rfl (by decide +kernel) ⟨Nat.le_of_ble_eq_true rfl, Nat.le_of_ble_eq_true rfl⟩) (z_pv hK hP hD (q0 := 0) (ci := 1) rfl rfl zT_b zT_m) rfl rfl hl.1 rfl (lv_room (Nat.le_of_ble_eq_true rfl)) dX1_isOverLimit_12 ⟨Nat.le_of_ble_eq_true rfl, Nat.le_of_ble_eq_true rfl⟩) hP hS hA (fun r_3 _ H locs hr_3 hP hS => ?_)
    subst hr_3
    refine lv_aload_n hx hb dX1_isOverLimit_15 rfl (lv_at hl 0 rfl) ?_
    refine lv_iload_n hx hb dX1_isOverLimit_16 rfl (lv_at hl 1 rfl) ?_
    refine lv_iload_n hx hb dX1_isOverLimit_17 rfl (lv_at hl 2 rfl) ?_
    refine z_ri (va_runV (As := [.int x1, .int x2]) (rest := [.int (F_harmTo bd st sl pw x1' x2')]) ⟨hx, hb, hml, hown, hts⟩ (c_X1_limitOfPair l D cI cJ cZ a H.size ld sl bd pw dt st uc sv tl so lm n nd x1 x1' e_x1 (by omega) x2 x2' e_x2 (by omega)) (cwV 2 hts gX1_isOverLimit_X1_limitOfPair rfl rfl rfl (by decide +kernel) ⟨Nat.le_of_ble_eq_true rfl, Nat.le_of_ble_eq_true rfl⟩) (z_pv hK hP hD (q0 := 0) (ci := 1) rfl rfl zT_b zT_m) rfl rfl hl.1 rfl (lv_room (Nat.le_of_ble_eq_true rfl)) dX1_isOverLimit_18 ⟨Nat.le_of_ble_eq_true rfl, Nat.le_of_ble_eq_true rfl⟩) hP hS hA (fun r_4 _ H locs hr_4 hP hS => ?_)
    subst hr_4
    refine lv_icmp_le (tgt := 28) hx hb dX1_isOverLimit_21 (by decide) (fun c_5 => ?_) (fun c_5 => ?_)
    · refine lv_iconst (v := 0) hx hb dX1_isOverLimit_28 (by decide) ?_
      exact W.zret (v := 0) hx hb hr (by decide) (fun t ht hW => ⟨⟨0, (), rfl, (by first | with_reducible rfl | (simp only [F_over, if_neg c_2, if_pos c_5]; done) | (simp +decide only [F_over, if_neg c_2, if_pos c_5]; done) | (simp [F_over, c_2, c_5]; done) | (simp +decide [F_over, c_2, c_5]; done)), trivial⟩, hS.F ht⟩) hS.2.2 dX1_isOverLimit_29
    · refine lv_iconst (v := 1) hx hb dX1_isOverLimit_24 (by decide) ?_
      refine lv_goto (tgt := 29) hx hb dX1_isOverLimit_25 (by decide) ?_
      exact W.zret (v := 1) hx hb hr (by decide) (fun t ht hW => ⟨⟨1, (), rfl, (by first | with_reducible rfl | (simp only [F_over, if_neg c_2, if_neg c_5]; done) | (simp +decide only [F_over, if_neg c_2, if_neg c_5]; done) | (simp [F_over, c_2, c_5]; done) | (simp +decide [F_over, c_2, c_5]; done)), trivial⟩, hS.F ht⟩) hS.2.2 dX1_isOverLimit_29
theorem k_X1_countOverLimit_1 : (Cond.fieldLink RX1 46 "Orbitregister$Filings" "count" "I") ∈ wsX1_countOverLimit := List.mem_of_getElem? (i := 1) rfl
theorem b_X1_countOverLimit_wsX10 : ∀ w ∈ wsX10, w ∈ wsX1_countOverLimit := fun _ h => List.mem_cons_of_mem _ (List.mem_append_right _ h)
set_option maxHeartbeats 4000000 in
set_option maxRecDepth 100000 in
theorem c_X1_countOverLimit (l : Launch) (D : va_G) (cI cJ cZ : ClassId) (a : Nat → Nat) (sz : Nat) (ld : A32) (sl : A32) (bd : A32) (pw : A32) (dt : A32) (st : A32) (uc : A32) (sv : A32) (tl : A32) (so : A32) (lm : A32) (n : Nat) (nd : Int32) (x1 : Int32) (x1' : Nat) (e_x1 : x1 = nI x1') (h_x1 : x1' < 40) (hn : n ≤ 40) : Met l yX1_countOverLimit wsX1_countOverLimit ({ frames := 4, cells := 0, slots := 0, locals := 91 }) (va_Pc [.ref (a 3), .int x1] (ZP D (zt cI cJ cZ) (wFi cI cJ cZ a ld sl bd pw dt st uc sv tl so lm n nd) sz zT)) (va_Qi (fun (r : Int32) (_ : Unit) => r = F_cnt (fun k => F_over bd st sl pw dt lm x1' k) n) (fun _ _ => True) (va_A [] sz)) 0 0 (va_A [] sz) := by
  refine Met.ofW (cc := cX1_countOverLimit) (maxL := 4) (ret := (some .int)) (by decide) rfl ?_
  intro p e s m args below meth c s₁ B hml hv
  obtain ⟨rfl, hsz, hP, hK, hD0, hE⟩ := hv
  have hx := B.exec
  have hb := B.bytes
  have hr := B.returns
  have hts := atoms_spec (ws := wsX1_countOverLimit) B.pre
  have hown : s.vm.findClass RX1 = some m.cls := findClass_of_methodNamed B.named
  have hlocks := B.notSynchronized
  subst hsz
  have hD := hD0
  generalize hAe : va_A [] s.heap.size = A at ⊢
  have hA : ∀ q : Nat, s.heap.size ≤ q → A q := fun q h => by rw [← hAe]; exact Or.inr h
  have hS : va_S A s.heap s.heap [] := va_S.rf
  have hl := lv_entry ([.ref (a 3), .int x1]) (n := 4) (Nat.le_of_ble_eq_true rfl)
  rw [lg_entry_eq]
  generalize (lg_sl ([.ref (a 3), .int x1]) ++ List.replicate (4 - (lg_sl ([.ref (a 3), .int x1])).length) Slot.unset).toArray = ls at hl ⊢
  have hl : lv_has ls 4 [(0, .ref (a 3)), (1, .int x1)] := hl
  have hP : va_P D vwCl (wFi cI cJ cZ a ld sl bd pw dt st uc sv tl so lm n nd) s.heap := hP
  refine lv_iconst (v := 0) hx hb dX1_countOverLimit_0 (by decide) ?_
  refine lv_istore_n (lv' := [(2, .int 0), (0, .ref (a 3)), (1, .int x1)]) hx hb dX1_countOverLimit_1 rfl hl (by decide) rfl (fun ls hl => ?_)
  refine lv_iconst (v := 0) hx hb dX1_countOverLimit_2 (by decide) ?_
  refine lv_istore_n (lv' := [(3, .int 0), (2, .int 0), (0, .ref (a 3)), (1, .int x1)]) hx hb dX1_countOverLimit_3 rfl hl (by decide) rfl (fun ls hl => ?_)
  have e_l2 : (F_cnt (fun k => F_over bd st sl pw dt lm x1' k) 0) = 0 := by rfl
  have e_l3 : (nI 0) = 0 := by rfl
  have hl : lv_has ls 4 [(2, .int (F_cnt (fun k => F_over bd st sl pw dt lm x1' k) 0)), (3, .int (nI 0)), (0, .ref (a 3)), (1, .int x1)] := by rw [e_l2, e_l3]; exact lv_sub hl [1, 0, 2, 3] rfl
  refine z_loop (D := D) (A := A) (H0 := s.heap) (N := n) (Wf := fun i => (wFi cI cJ cZ a ld sl bd pw dt st uc sv tl so lm n nd)) (lvf := fun i => [(2, .int (F_cnt (fun k => F_over bd st sl pw dt lm x1' k) i)), (3, .int (nI i)), (0, .ref (a 3)), (1, .int x1)]) (Inv := fun i => True) 0 (by omega) trivial hP hS hl (fun i hi hinv H locs ls hP hS hl ih => ?_)
  have hP : va_P D vwCl (wFi cI cJ cZ a ld sl bd pw dt st uc sv tl so lm n nd) H := hP
  have hl : lv_has ls 4 [(2, .int (F_cnt (fun k => F_over bd st sl pw dt lm x1' k) i)), (3, .int (nI i)), (0, .ref (a 3)), (1, .int x1)] := hl
  have hinv : True := hinv
  refine lv_iload_n hx hb dX1_countOverLimit_4 rfl (lv_at hl 1 rfl) ?_
  refine lv_aload_n hx hb dX1_countOverLimit_5 rfl (lv_at hl 2 rfl) ?_
  refine z_get (ci := 1) (C := RX1) (T := TX1) (N := 13) hx hb hts b_X1_countOverLimit_wsX10 hown hK hP 0 rfl rfl 11 (by decide) (hts _ k_X1_countOverLimit_1) rfl (.int (nI n)) rfl dX1_countOverLimit_6 ?_
  refine lv_icmp_ge (tgt := 30) hx hb dX1_countOverLimit_9 (by decide) (fun c_1 => ?_) (fun c_1 => ?_)
  · have f_1 := z_leN (a := n) (b := i) c_1 rfl rfl (by omega) (by omega)
    obtain rfl : n = i := by omega
    refine lv_iload_n hx hb dX1_countOverLimit_30 rfl (lv_at hl 0 rfl) ?_
    exact W.iret (v := F_cnt (fun k => F_over bd st sl pw dt lm x1' k) n) hx hb hr (fun t ht hW => ⟨⟨F_cnt (fun k => F_over bd st sl pw dt lm x1' k) n, (), rfl, rfl, trivial⟩, hS.F ht⟩) hS.2.2 dX1_countOverLimit_31
  · have f_1 := z_nleN (a := n) (b := i) c_1 rfl rfl (by omega) (by omega)
    refine lv_aload_n hx hb dX1_countOverLimit_12 rfl (lv_at hl 2 rfl) ?_
    refine lv_iload_n hx hb dX1_countOverLimit_13 rfl (lv_at hl 3 rfl) ?_
    refine lv_iload_n hx hb dX1_countOverLimit_14 rfl (lv_at hl 1 rfl) ?_
    refine z_ri (va_runV (As := [.int x1, .int (nI i)]) (rest := []) ⟨hx, hb, hml, hown, hts⟩ (c_X1_isOverLimit l D cI cJ cZ a H.size ld sl bd pw dt st uc sv tl so lm n nd x1 x1' e_x1 (by omega) (nI i) i rfl (by omega)) (cwV 2 hts gX1_countOverLimit_X1_isOverLimit rfl rfl rfl (by decide +kernel) ⟨Nat.le_of_ble_eq_true rfl, Nat.le_of_ble_eq_true rfl⟩) (z_pv hK hP hD (q0 := 0) (ci := 1) rfl rfl zT_b zT_m) rfl rfl hl.1 rfl (lv_room (Nat.le_of_ble_eq_true rfl)) dX1_countOverLimit_15 ⟨Nat.le_of_ble_eq_true rfl, Nat.le_of_ble_eq_true rfl⟩) hP hS hA (fun r_2 _ H locs hr_2 hP hS => ?_)
    subst hr_2
    refine lv_if_eq (tgt := 24) hx hb dX1_countOverLimit_18 (by decide) (fun c_3 => ?_) (fun c_3 => ?_)
    · refine lv_iinc (v := nI (i + 1)) (lv' := [(3, .int (nI (i + 1))), (2, .int (F_cnt (fun k => F_over bd st sl pw dt lm x1' k) i)), (0, .ref (a 3)), (1, .int x1)]) hx hb dX1_countOverLimit_24 hl (k := 1) rfl (z_inc1 i) (by decide) rfl (fun ls hl => ?_)
      refine lv_goto (tgt := 4) hx hb dX1_countOverLimit_27 (by decide) ?_
      have e_l2 : (F_cnt (fun k => F_over bd st sl pw dt lm x1' k) (i + 1)) = F_cnt (fun k => F_over bd st sl pw dt lm x1' k) i := by simp [F_cnt, c_1, c_3]
      have hl : lv_has ls 4 [(2, .int (F_cnt (fun k => F_over bd st sl pw dt lm x1' k) (i + 1))), (3, .int (nI (i + 1))), (0, .ref (a 3)), (1, .int x1)] := by rw [e_l2]; exact lv_sub hl [1, 0, 2, 3] rfl
      exact ih H locs ls (by omega) trivial hP hS hl
    · refine lv_iinc (v := (F_cnt (fun k => F_over bd st sl pw dt lm x1' k) i) + 1) (lv' := [(2, .int ((F_cnt (fun k => F_over bd st sl pw dt lm x1' k) i) + 1)), (3, .int (nI i)), (0, .ref (a 3)), (1, .int x1)]) hx hb dX1_countOverLimit_21 hl (k := 0) rfl rfl (by decide) rfl (fun ls hl => ?_)
      refine lv_iinc (v := nI (i + 1)) (lv' := [(3, .int (nI (i + 1))), (2, .int ((F_cnt (fun k => F_over bd st sl pw dt lm x1' k) i) + 1)), (0, .ref (a 3)), (1, .int x1)]) hx hb dX1_countOverLimit_24 hl (k := 1) rfl (z_inc1 i) (by decide) rfl (fun ls hl => ?_)
      refine lv_goto (tgt := 4) hx hb dX1_countOverLimit_27 (by decide) ?_
      have e_l2 : (F_cnt (fun k => F_over bd st sl pw dt lm x1' k) (i + 1)) = (F_cnt (fun k => F_over bd st sl pw dt lm x1' k) i) + 1 := by simp [F_cnt, c_1, c_3]
      have hl : lv_has ls 4 [(2, .int (F_cnt (fun k => F_over bd st sl pw dt lm x1' k) (i + 1))), (3, .int (nI (i + 1))), (0, .ref (a 3)), (1, .int x1)] := by rw [e_l2]; exact lv_sub hl [1, 0, 2, 3] rfl
      exact ih H locs ls (by omega) trivial hP hS hl
theorem k_X1_wouldHarmMore_1 : (Cond.fieldLink RX1 46 "Orbitregister$Filings" "count" "I") ∈ wsX1_wouldHarmMore := List.mem_of_getElem? (i := 1) rfl
theorem b_X1_wouldHarmMore_wsX10 : ∀ w ∈ wsX10, w ∈ wsX1_wouldHarmMore := fun _ h => List.mem_cons_of_mem _ (List.mem_append_right _ h)
set_option maxHeartbeats 4000000 in
set_option maxRecDepth 100000 in
theorem c_X1_wouldHarmMore (l : Launch) (D : va_G) (cI cJ cZ : ClassId) (a : Nat → Nat) (sz : Nat) (ld : A32) (sl : A32) (bd : A32) (pw : A32) (dt : A32) (st : A32) (uc : A32) (sv : A32) (tl : A32) (so : A32) (lm : A32) (n : Nat) (nd : Int32) (x1 : Int32) (x1' : Nat) (e_x1 : x1 = nI x1') (h_x1 : x1' < 40) (x2 : Int32) (x3 : Int32) (hn : n ≤ 40) : Met l yX1_wouldHarmMore wsX1_wouldHarmMore ({ frames := 3, cells := 0, slots := 0, locals := 69 }) (va_Pc [.ref (a 3), .int x1, .int x2, .int x3] (ZP D (zt cI cJ cZ) (wFi cI cJ cZ a ld sl bd pw dt st uc sv tl so lm n nd) sz zT)) (va_Qi (fun (r : Int32) (_ : Unit) => r = F_any (fun k => F_harm bd st sl x1' x2 x3 k) (fun k => F_harmTo bd st sl pw x1' k) n) (fun _ _ => True) (va_A [] sz)) 0 0 (va_A [] sz) := by
  refine Met.ofW (cc := cX1_wouldHarmMore) (maxL := 5) (ret := (some .boolean)) (by decide) rfl ?_
  intro p e s m args below meth c s₁ B hml hv
  obtain ⟨rfl, hsz, hP, hK, hD0, hE⟩ := hv
  have hx := B.exec
  have hb := B.bytes
  have hr := B.returns
  have hts := atoms_spec (ws := wsX1_wouldHarmMore) B.pre
  have hown : s.vm.findClass RX1 = some m.cls := findClass_of_methodNamed B.named
  have hlocks := B.notSynchronized
  subst hsz
  have hD := hD0
  generalize hAe : va_A [] s.heap.size = A at ⊢
  have hA : ∀ q : Nat, s.heap.size ≤ q → A q := fun q h => by rw [← hAe]; exact Or.inr h
  have hS : va_S A s.heap s.heap [] := va_S.rf
  have hl := lv_entry ([.ref (a 3), .int x1, .int x2, .int x3]) (n := 5) (Nat.le_of_ble_eq_true rfl)
  rw [lg_entry_eq]
  generalize (lg_sl ([.ref (a 3), .int x1, .int x2, .int x3]) ++ List.replicate (5 - (lg_sl ([.ref (a 3), .int x1, .int x2, .int x3])).length) Slot.unset).toArray = ls at hl ⊢
  have hl : lv_has ls 5 [(0, .ref (a 3)), (1, .int x1), (2, .int x2), (3, .int x3)] := hl
  have hP : va_P D vwCl (wFi cI cJ cZ a ld sl bd pw dt st uc sv tl so lm n nd) s.heap := hP
  refine lv_iconst (v := 0) hx hb dX1_wouldHarmMore_0 (by decide) ?_
  refine lv_istore (lv' := [(4, .int 0), (0, .ref (a 3)), (1, .int x1), (2, .int x2), (3, .int x3)]) hx hb dX1_wouldHarmMore_1 hl (by decide) rfl (fun ls hl => ?_)
  have e_l4 : (nI 0) = 0 := by first | rfl | exact nI_0
  have hl : lv_has ls 5 [(4, .int (nI 0)), (0, .ref (a 3)), (1, .int x1), (2, .int x2), (3, .int x3)] := by rw [e_l4]; exact lv_sub hl [0, 1, 2, 3, 4] rfl
  refine z_loop (D := D) (A := A) (H0 := s.heap) (N := n) (Wf := fun i => (wFi cI cJ cZ a ld sl bd pw dt st uc sv tl so lm n nd)) (lvf := fun i => [(4, .int (nI i)), (0, .ref (a 3)), (1, .int x1), (2, .int x2), (3, .int x3)]) (Inv := fun i => F_any (fun k => F_harm bd st sl x1' x2 x3 k) (fun k => F_harmTo bd st sl pw x1' k) i = 0) 0 (by omega) rfl hP hS hl (fun i hi hinv H locs ls hP hS hl ih => ?_)
  have hP : va_P D vwCl (wFi cI cJ cZ a ld sl bd pw dt st uc sv tl so lm n nd) H := hP
  have hl : lv_has ls 5 [(4, .int (nI i)), (0, .ref (a 3)), (1, .int x1), (2, .int x2), (3, .int x3)] := hl
  have hinv : F_any (fun k => F_harm bd st sl x1' x2 x3 k) (fun k => F_harmTo bd st sl pw x1' k) i = 0 := hinv
  refine lv_iload hx hb dX1_wouldHarmMore_3 (lv_at hl 0 rfl) ?_
  refine lv_aload_n hx hb dX1_wouldHarmMore_5 rfl (lv_at hl 1 rfl) ?_
  refine z_get (ci := 1) (C := RX1) (T := TX1) (N := 13) hx hb hts b_X1_wouldHarmMore_wsX10 hown hK hP 0 rfl rfl 11 (by decide) (hts _ k_X1_wouldHarmMore_1) rfl (.int (nI n)) rfl dX1_wouldHarmMore_6 ?_
  refine lv_icmp_ge (tgt := 39) hx hb dX1_wouldHarmMore_9 (by decide) (fun c_1 => ?_) (fun c_1 => ?_)
  · have f_1 := z_leN (a := n) (b := i) c_1 rfl rfl (by omega) (by omega)
    obtain rfl : n = i := by omega
    refine lv_iconst (v := 0) hx hb dX1_wouldHarmMore_39 (by decide) ?_
    exact W.zret (v := 0) hx hb hr (by decide) (fun t ht hW => ⟨⟨0, (), rfl, hinv.symm, trivial⟩, hS.F ht⟩) hS.2.2 dX1_wouldHarmMore_40
  · have f_1 := z_nleN (a := n) (b := i) c_1 rfl rfl (by omega) (by omega)
    refine lv_aload_n hx hb dX1_wouldHarmMore_12 rfl (lv_at hl 1 rfl) ?_
    refine lv_iload_n hx hb dX1_wouldHarmMore_13 rfl (lv_at hl 2 rfl) ?_
    refine lv_iload_n hx hb dX1_wouldHarmMore_14 rfl (lv_at hl 3 rfl) ?_
    refine lv_iload_n hx hb dX1_wouldHarmMore_15 rfl (lv_at hl 4 rfl) ?_
    refine lv_iload hx hb dX1_wouldHarmMore_16 (lv_at hl 0 rfl) ?_
    refine z_ri (va_runV (As := [.int x1, .int x2, .int x3, .int (nI i)]) (rest := []) ⟨hx, hb, hml, hown, hts⟩ (c_X1_harmFrom l D cI cJ cZ a H.size ld sl bd pw dt st uc sv tl so lm n nd x1 x1' e_x1 (by omega) x2 x3 (nI i) i rfl (by omega)) (cwV 4 hts gX1_wouldHarmMore_X1_harmFrom rfl rfl rfl (by decide +kernel) ⟨Nat.le_of_ble_eq_true rfl, Nat.le_of_ble_eq_true rfl⟩) (z_pv hK hP hD (q0 := 0) (ci := 1) rfl rfl zT_b zT_m) rfl rfl hl.1 rfl (lv_room (Nat.le_of_ble_eq_true rfl)) dX1_wouldHarmMore_18 ⟨Nat.le_of_ble_eq_true rfl, Nat.le_of_ble_eq_true rfl⟩) hP hS hA (fun r_2 _ H locs hr_2 hP hS => ?_)
    subst hr_2
    refine lv_aload_n hx hb dX1_wouldHarmMore_21 rfl (lv_at hl 1 rfl) ?_
    refine lv_iload_n hx hb dX1_wouldHarmMore_22 rfl (lv_at hl 2 rfl) ?_
    refine lv_iload hx hb dX1_wouldHarmMore_23 (lv_at hl 0 rfl) ?_
    refine z_ri (va_runV (As := [.int x1, .int (nI i)]) (rest := [.int (F_harm bd st sl x1' x2 x3 i)]) ⟨hx, hb, hml, hown, hts⟩ (c_X1_harmTo l D cI cJ cZ a H.size ld sl bd pw dt st uc sv tl so lm n nd x1 x1' e_x1 (by omega) (nI i) i rfl (by omega)) (cwV 2 hts gX1_wouldHarmMore_X1_harmTo rfl rfl rfl (by decide +kernel) ⟨Nat.le_of_ble_eq_true rfl, Nat.le_of_ble_eq_true rfl⟩) (z_pv hK hP hD (q0 := 0) (ci := 1) rfl rfl zT_b zT_m) rfl rfl hl.1 rfl (lv_room (Nat.le_of_ble_eq_true rfl)) dX1_wouldHarmMore_25 ⟨Nat.le_of_ble_eq_true rfl, Nat.le_of_ble_eq_true rfl⟩) hP hS hA (fun r_3 _ H locs hr_3 hP hS => ?_)
    subst hr_3
    refine lv_icmp_le (tgt := 33) hx hb dX1_wouldHarmMore_28 (by decide) (fun c_4 => ?_) (fun c_4 => ?_)
    · refine lv_iinc (v := nI (i + 1)) (lv' := [(4, .int (nI (i + 1))), (0, .ref (a 3)), (1, .int x1), (2, .int x2), (3, .int x3)]) hx hb dX1_wouldHarmMore_33 hl (k := 0) rfl (z_inc1 i) (by decide) rfl (fun ls hl => ?_)
      refine lv_goto (tgt := 3) hx hb dX1_wouldHarmMore_36 (by decide) ?_
      have hl : lv_has ls 5 [(4, .int (nI (i + 1))), (0, .ref (a 3)), (1, .int x1), (2, .int x2), (3, .int x3)] := lv_sub hl [0, 1, 2, 3, 4] rfl
      exact ih H locs ls (by omega) (by simp [F_any, hinv, c_4]) hP hS hl
    · refine lv_iconst (v := 1) hx hb dX1_wouldHarmMore_31 (by decide) ?_
      exact W.zret (v := 1) hx hb hr (by decide) (fun t ht hW => ⟨⟨1, (), rfl, (F_any_1 (f := (fun k => F_harm bd st sl x1' x2 x3 k)) (g := (fun k => F_harmTo bd st sl pw x1' k)) (i := i) c_4 n (by omega)).symm, trivial⟩, hS.F ht⟩) hS.2.2 dX1_wouldHarmMore_32
theorem k_X1_harmBorne_1 : (Cond.fieldLink RX1 46 "Orbitregister$Filings" "count" "I") ∈ wsX1_harmBorne := List.mem_of_getElem? (i := 1) rfl
theorem b_X1_harmBorne_wsX10 : ∀ w ∈ wsX10, w ∈ wsX1_harmBorne := fun _ h => List.mem_cons_of_mem _ (List.mem_append_right _ h)
theorem k_X1_harmBorne_2 : (Cond.fieldLink RX1 27 "Orbitregister$Filings" "state" "[I") ∈ wsX1_harmBorne := List.mem_of_getElem? (i := 2) rfl
set_option maxHeartbeats 4000000 in
set_option maxRecDepth 100000 in
theorem c_X1_harmBorne (l : Launch) (D : va_G) (cI cJ cZ : ClassId) (a : Nat → Nat) (sz : Nat) (ld : A32) (sl : A32) (bd : A32) (pw : A32) (dt : A32) (st : A32) (uc : A32) (sv : A32) (tl : A32) (so : A32) (lm : A32) (n : Nat) (nd : Int32) (x1 : Int32) (x1' : Nat) (e_x1 : x1 = nI x1') (h_x1 : x1' < 40) (hn : n ≤ 40) : Met l yX1_harmBorne wsX1_harmBorne ({ frames := 3, cells := 0, slots := 0, locals := 69 }) (va_Pc [.ref (a 3), .int x1] (ZP D (zt cI cJ cZ) (wFi cI cJ cZ a ld sl bd pw dt st uc sv tl so lm n nd) sz zT)) (va_Qi (fun (r : Int32) (_ : Unit) => r = F_borne bd st sl pw dt x1' n) (fun _ _ => True) (va_A [] sz)) 0 0 (va_A [] sz) := by
  refine Met.ofW (cc := cX1_harmBorne) (maxL := 4) (ret := (some .int)) (by decide) rfl ?_
  intro p e s m args below meth c s₁ B hml hv
  obtain ⟨rfl, hsz, hP, hK, hD0, hE⟩ := hv
  have hx := B.exec
  have hb := B.bytes
  have hr := B.returns
  have hts := atoms_spec (ws := wsX1_harmBorne) B.pre
  have hown : s.vm.findClass RX1 = some m.cls := findClass_of_methodNamed B.named
  have hlocks := B.notSynchronized
  subst hsz
  have hD := hD0
  generalize hAe : va_A [] s.heap.size = A at ⊢
  have hA : ∀ q : Nat, s.heap.size ≤ q → A q := fun q h => by rw [← hAe]; exact Or.inr h
  have hS : va_S A s.heap s.heap [] := va_S.rf
  have hl := lv_entry ([.ref (a 3), .int x1]) (n := 4) (Nat.le_of_ble_eq_true rfl)
  rw [lg_entry_eq]
  generalize (lg_sl ([.ref (a 3), .int x1]) ++ List.replicate (4 - (lg_sl ([.ref (a 3), .int x1])).length) Slot.unset).toArray = ls at hl ⊢
  have hl : lv_has ls 4 [(0, .ref (a 3)), (1, .int x1)] := hl
  have hP : va_P D vwCl (wFi cI cJ cZ a ld sl bd pw dt st uc sv tl so lm n nd) s.heap := hP
  refine lv_iconst (v := 0) hx hb dX1_harmBorne_0 (by decide) ?_
  refine lv_istore_n (lv' := [(2, .int 0), (0, .ref (a 3)), (1, .int x1)]) hx hb dX1_harmBorne_1 rfl hl (by decide) rfl (fun ls hl => ?_)
  refine lv_iconst (v := 0) hx hb dX1_harmBorne_2 (by decide) ?_
  refine lv_istore_n (lv' := [(3, .int 0), (2, .int 0), (0, .ref (a 3)), (1, .int x1)]) hx hb dX1_harmBorne_3 rfl hl (by decide) rfl (fun ls hl => ?_)
  have e_l2 : (F_borne bd st sl pw dt x1' 0) = 0 := by first | rfl | exact nI_0
  have e_l3 : (nI 0) = 0 := by first | rfl | exact nI_0
  have hl : lv_has ls 4 [(2, .int (F_borne bd st sl pw dt x1' 0)), (3, .int (nI 0)), (0, .ref (a 3)), (1, .int x1)] := by rw [e_l2, e_l3]; exact lv_sub hl [1, 0, 2, 3] rfl
  refine z_loop (D := D) (A := A) (H0 := s.heap) (N := n) (Wf := fun i => (wFi cI cJ cZ a ld sl bd pw dt st uc sv tl so lm n nd)) (lvf := fun i => [(2, .int (F_borne bd st sl pw dt x1' i)), (3, .int (nI i)), (0, .ref (a 3)), (1, .int x1)]) (Inv := fun i => True) 0 (by omega) trivial hP hS hl (fun i hi hinv H locs ls hP hS hl ih => ?_)
  have hP : va_P D vwCl (wFi cI cJ cZ a ld sl bd pw dt st uc sv tl so lm n nd) H := hP
  have hl : lv_has ls 4 [(2, .int (F_borne bd st sl pw dt x1' i)), (3, .int (nI i)), (0, .ref (a 3)), (1, .int x1)] := hl
  have hinv : True := hinv
  refine lv_iload_n hx hb dX1_harmBorne_4 rfl (lv_at hl 1 rfl) ?_
  refine lv_aload_n hx hb dX1_harmBorne_5 rfl (lv_at hl 2 rfl) ?_
  refine z_get (ci := 1) (C := RX1) (T := TX1) (N := 13) hx hb hts b_X1_harmBorne_wsX10 hown hK hP 0 rfl rfl 11 (by decide) (hts _ k_X1_harmBorne_1) rfl (.int (nI n)) rfl dX1_harmBorne_6 ?_
  refine lv_icmp_ge (tgt := 46) hx hb dX1_harmBorne_9 (by decide) (fun c_1 => ?_) (fun c_1 => ?_)
  · have f_1 := z_leN (a := n) (b := i) c_1 rfl rfl (by omega) (by omega)
    obtain rfl : n = i := by omega
    refine lv_iload_n hx hb dX1_harmBorne_46 rfl (lv_at hl 0 rfl) ?_
    exact W.iret (v := F_borne bd st sl pw dt x1' n) hx hb hr (fun t ht hW => ⟨⟨F_borne bd st sl pw dt x1' n, (), rfl, rfl, trivial⟩, hS.F ht⟩) hS.2.2 dX1_harmBorne_47
  · have f_1 := z_nleN (a := n) (b := i) c_1 rfl rfl (by omega) (by omega)
    refine lv_aload_n hx hb dX1_harmBorne_12 rfl (lv_at hl 2 rfl) ?_
    refine z_get (ci := 1) (C := RX1) (T := TX1) (N := 13) hx hb hts b_X1_harmBorne_wsX10 hown hK hP 0 rfl rfl 5 (by decide) (hts _ k_X1_harmBorne_2) rfl (.ref (a 9)) rfl dX1_harmBorne_13 ?_
    refine lv_iload_n hx hb dX1_harmBorne_16 rfl (lv_at hl 1 rfl) ?_
    refine z_iald hx hb hK hP 6 0 rfl rfl i rfl (by omega) rfl dX1_harmBorne_17 ?_
    refine lv_iconst (v := 2) hx hb dX1_harmBorne_18 (by decide) ?_
    refine lv_icmp_ne (tgt := 40) hx hb dX1_harmBorne_19 (by decide) (fun c_2 => ?_) (fun c_2 => ?_)
    · refine lv_iinc (v := nI (i + 1)) (lv' := [(3, .int (nI (i + 1))), (2, .int (F_borne bd st sl pw dt x1' i)), (0, .ref (a 3)), (1, .int x1)]) hx hb dX1_harmBorne_40 hl (k := 1) rfl (z_inc1 i) (by decide) rfl (fun ls hl => ?_)
      refine lv_goto (tgt := 4) hx hb dX1_harmBorne_43 (by decide) ?_
      have e_l2 : (F_borne bd st sl pw dt x1' (i + 1)) = F_borne bd st sl pw dt x1' i := by first | with_reducible rfl | (simp only [F_borne, if_neg c_1, if_neg c_2]; done) | (simp +decide only [F_borne, f_1, if_neg c_1, if_neg c_2]; done) | (simp [F_borne, c_1, c_2, f_1]; done) | (simp +decide [F_borne, c_1, c_2, f_1]; done)
      have hl : lv_has ls 4 [(2, .int (F_borne bd st sl pw dt x1' (i + 1))), (3, .int (nI (i + 1))), (0, .ref (a 3)), (1, .int x1)] := by rw [e_l2]; exact lv_sub hl [1, 0, 2, 3] rfl
      exact ih H locs ls (by omega) trivial hP hS hl
    · refine lv_aload_n hx hb dX1_harmBorne_22 rfl (lv_at hl 2 rfl) ?_
      refine lv_iload_n hx hb dX1_harmBorne_23 rfl (lv_at hl 3 rfl) ?_
      refine lv_iload_n hx hb dX1_harmBorne_24 rfl (lv_at hl 1 rfl) ?_
      refine z_ri (va_runV (As := [.int x1, .int (nI i)]) (rest := []) ⟨hx, hb, hml, hown, hts⟩ (c_X1_isAhead l D cI cJ cZ a H.size ld sl bd pw dt st uc sv tl so lm n nd x1 x1' e_x1 (by omega) (nI i) i rfl (by omega)) (cwV 2 hts gX1_harmBorne_X1_isAhead rfl rfl rfl (by decide +kernel) ⟨Nat.le_of_ble_eq_true rfl, Nat.le_of_ble_eq_true rfl⟩) (z_pv hK hP hD (q0 := 0) (ci := 1) rfl rfl zT_b zT_m) rfl rfl hl.1 rfl (lv_room (Nat.le_of_ble_eq_true rfl)) dX1_harmBorne_25 ⟨Nat.le_of_ble_eq_true rfl, Nat.le_of_ble_eq_true rfl⟩) hP hS hA (fun r_3 _ H locs hr_3 hP hS => ?_)
      subst hr_3
      refine lv_if_eq (tgt := 40) hx hb dX1_harmBorne_28 (by decide) (fun c_4 => ?_) (fun c_4 => ?_)
      · refine lv_iinc (v := nI (i + 1)) (lv' := [(3, .int (nI (i + 1))), (2, .int (F_borne bd st sl pw dt x1' i)), (0, .ref (a 3)), (1, .int x1)]) hx hb dX1_harmBorne_40 hl (k := 1) rfl (z_inc1 i) (by decide) rfl (fun ls hl => ?_)
        refine lv_goto (tgt := 4) hx hb dX1_harmBorne_43 (by decide) ?_
        have e_l2 : (F_borne bd st sl pw dt x1' (i + 1)) = F_borne bd st sl pw dt x1' i := by first | with_reducible rfl | (simp only [F_borne, if_neg c_1, if_pos c_2, if_pos c_4]; done) | (simp +decide only [F_borne, f_1, if_neg c_1, if_pos c_2, if_pos c_4]; done) | (simp [F_borne, c_1, c_2, c_4, f_1]; done) | (simp +decide [F_borne, c_1, c_2, c_4, f_1]; done)
        have hl : lv_has ls 4 [(2, .int (F_borne bd st sl pw dt x1' (i + 1))), (3, .int (nI (i + 1))), (0, .ref (a 3)), (1, .int x1)] := by rw [e_l2]; exact lv_sub hl [1, 0, 2, 3] rfl
        exact ih H locs ls (by omega) trivial hP hS hl
      · refine lv_iload_n hx hb dX1_harmBorne_31 rfl (lv_at hl 0 rfl) ?_
        refine lv_aload_n hx hb dX1_harmBorne_32 rfl (lv_at hl 2 rfl) ?_
        refine lv_iload_n hx hb dX1_harmBorne_33 rfl (lv_at hl 1 rfl) ?_
        refine lv_iload_n hx hb dX1_harmBorne_34 rfl (lv_at hl 3 rfl) ?_
        refine z_ri (va_runV (As := [.int (nI i), .int x1]) (rest := [.int (F_borne bd st sl pw dt x1' i)]) ⟨hx, hb, hml, hown, hts⟩ (c_X1_harmTo l D cI cJ cZ a H.size ld sl bd pw dt st uc sv tl so lm n nd (nI i) i rfl (by omega) x1 x1' e_x1 (by omega)) (cwV 2 hts gX1_harmBorne_X1_harmTo rfl rfl rfl (by decide +kernel) ⟨Nat.le_of_ble_eq_true rfl, Nat.le_of_ble_eq_true rfl⟩) (z_pv hK hP hD (q0 := 0) (ci := 1) rfl rfl zT_b zT_m) rfl rfl hl.1 rfl (lv_room (Nat.le_of_ble_eq_true rfl)) dX1_harmBorne_35 ⟨Nat.le_of_ble_eq_true rfl, Nat.le_of_ble_eq_true rfl⟩) hP hS hA (fun r_5 _ H locs hr_5 hP hS => ?_)
        subst hr_5
        refine lv_iadd hx hb dX1_harmBorne_38 ?_
        refine lv_istore_n (lv' := [(2, .int ((F_borne bd st sl pw dt x1' i) + (F_harmTo bd st sl pw i x1'))), (3, .int (nI i)), (0, .ref (a 3)), (1, .int x1)]) hx hb dX1_harmBorne_39 rfl hl (by decide) rfl (fun ls hl => ?_)
        refine lv_iinc (v := nI (i + 1)) (lv' := [(3, .int (nI (i + 1))), (2, .int ((F_borne bd st sl pw dt x1' i) + (F_harmTo bd st sl pw i x1'))), (0, .ref (a 3)), (1, .int x1)]) hx hb dX1_harmBorne_40 hl (k := 1) rfl (z_inc1 i) (by decide) rfl (fun ls hl => ?_)
        refine lv_goto (tgt := 4) hx hb dX1_harmBorne_43 (by decide) ?_
        have e_l2 : (F_borne bd st sl pw dt x1' (i + 1)) = (F_borne bd st sl pw dt x1' i) + (F_harmTo bd st sl pw i x1') := by first | with_reducible rfl | (simp only [F_borne, if_neg c_1, if_pos c_2, if_neg c_4]; done) | (simp +decide only [F_borne, f_1, if_neg c_1, if_pos c_2, if_neg c_4]; done) | (simp [F_borne, c_1, c_2, c_4, f_1]; done) | (simp +decide [F_borne, c_1, c_2, c_4, f_1]; done)
        have hl : lv_has ls 4 [(2, .int (F_borne bd st sl pw dt x1' (i + 1))), (3, .int (nI (i + 1))), (0, .ref (a 3)), (1, .int x1)] := by rw [e_l2]; exact lv_sub hl [1, 0, 2, 3] rfl
        exact ih H locs ls (by omega) trivial hP hS hl
theorem k_X1_findFirst_1 : (Cond.fieldLink RX1 46 "Orbitregister$Filings" "count" "I") ∈ wsX1_findFirst := List.mem_of_getElem? (i := 1) rfl
theorem b_X1_findFirst_wsX10 : ∀ w ∈ wsX10, w ∈ wsX1_findFirst := fun _ h => List.mem_cons_of_mem _ (List.mem_append_right _ h)
theorem k_X1_findFirst_2 : (Cond.fieldLink RX1 15 "Orbitregister$Filings" "slot" "[I") ∈ wsX1_findFirst := List.mem_of_getElem? (i := 2) rfl
theorem k_X1_findFirst_3 : (Cond.fieldLink RX1 18 "Orbitregister$Filings" "band" "[I") ∈ wsX1_findFirst := List.mem_of_getElem? (i := 3) rfl
set_option maxHeartbeats 4000000 in
set_option maxRecDepth 100000 in
theorem c_X1_findFirst (l : Launch) (D : va_G) (cI cJ cZ : ClassId) (a : Nat → Nat) (sz : Nat) (ld : A32) (sl : A32) (bd : A32) (pw : A32) (dt : A32) (st : A32) (uc : A32) (sv : A32) (tl : A32) (so : A32) (lm : A32) (n : Nat) (nd : Int32) (x1 : Int32) (x2 : Int32) (hn : n ≤ 40) : Met l yX1_findFirst wsX1_findFirst ({ frames := 1, cells := 0, slots := 0, locals := 22 }) (va_Pc [.ref (a 3), .int x1, .int x2] (ZP D (zt cI cJ cZ) (wFi cI cJ cZ a ld sl bd pw dt st uc sv tl so lm n nd) sz zT)) (va_Qi (fun (r : Int32) (_ : Unit) => r = F_fst bd st sl dt x1 x2 n) (fun _ _ => True) (va_A [] sz)) 0 0 (va_A [] sz) := by
  refine Met.ofW (cc := cX1_findFirst) (maxL := 6) (ret := (some .int)) (by decide) rfl ?_
  intro p e s m args below meth c s₁ B hml hv
  obtain ⟨rfl, hsz, hP, hK, hD0, hE⟩ := hv
  have hx := B.exec
  have hb := B.bytes
  have hr := B.returns
  have hts := atoms_spec (ws := wsX1_findFirst) B.pre
  have hown : s.vm.findClass RX1 = some m.cls := findClass_of_methodNamed B.named
  have hlocks := B.notSynchronized
  subst hsz
  have hD := hD0
  generalize hAe : va_A [] s.heap.size = A at ⊢
  have hA : ∀ q : Nat, s.heap.size ≤ q → A q := fun q h => by rw [← hAe]; exact Or.inr h
  have hS : va_S A s.heap s.heap [] := va_S.rf
  have hl := lv_entry ([.ref (a 3), .int x1, .int x2]) (n := 6) (Nat.le_of_ble_eq_true rfl)
  rw [lg_entry_eq]
  generalize (lg_sl ([.ref (a 3), .int x1, .int x2]) ++ List.replicate (6 - (lg_sl ([.ref (a 3), .int x1, .int x2])).length) Slot.unset).toArray = ls at hl ⊢
  have hl : lv_has ls 6 [(0, .ref (a 3)), (1, .int x1), (2, .int x2)] := hl
  have hP : va_P D vwCl (wFi cI cJ cZ a ld sl bd pw dt st uc sv tl so lm n nd) s.heap := hP
  refine lv_iconst (v := (-1)) hx hb dX1_findFirst_0 (by decide) ?_
  refine lv_istore_n (lv' := [(3, .int (-1)), (0, .ref (a 3)), (1, .int x1), (2, .int x2)]) hx hb dX1_findFirst_1 rfl hl (by decide) rfl (fun ls hl => ?_)
  refine lv_iconst (v := 0) hx hb dX1_findFirst_2 (by decide) ?_
  refine lv_istore (lv' := [(4, .int 0), (3, .int (-1)), (0, .ref (a 3)), (1, .int x1), (2, .int x2)]) hx hb dX1_findFirst_3 hl (by decide) rfl (fun ls hl => ?_)
  have e_l3 : (F_fst bd st sl dt x1 x2 0) = (-1) := by first | rfl | exact nI_0
  have e_l4 : (nI 0) = 0 := by first | rfl | exact nI_0
  have hl : lv_has ls 6 [(3, .int (F_fst bd st sl dt x1 x2 0)), (4, .int (nI 0)), (0, .ref (a 3)), (1, .int x1), (2, .int x2)] := by rw [e_l3, e_l4]; exact lv_sub hl [1, 0, 2, 3, 4] rfl
  refine z_loop (D := D) (A := A) (H0 := s.heap) (N := n) (Wf := fun i => (wFi cI cJ cZ a ld sl bd pw dt st uc sv tl so lm n nd)) (lvf := fun i => [(3, .int (F_fst bd st sl dt x1 x2 i)), (4, .int (nI i)), (0, .ref (a 3)), (1, .int x1), (2, .int x2)]) (Inv := fun i => True) 0 (by omega) trivial hP hS hl (fun i hi hinv H locs ls hP hS hl ih => ?_)
  have hP : va_P D vwCl (wFi cI cJ cZ a ld sl bd pw dt st uc sv tl so lm n nd) H := hP
  have hl : lv_has ls 6 [(3, .int (F_fst bd st sl dt x1 x2 i)), (4, .int (nI i)), (0, .ref (a 3)), (1, .int x1), (2, .int x2)] := hl
  have hinv : True := hinv
  refine lv_iload hx hb dX1_findFirst_5 (lv_at hl 1 rfl) ?_
  refine lv_aload_n hx hb dX1_findFirst_7 rfl (lv_at hl 2 rfl) ?_
  refine z_get (ci := 1) (C := RX1) (T := TX1) (N := 13) hx hb hts b_X1_findFirst_wsX10 hown hK hP 0 rfl rfl 11 (by decide) (hts _ k_X1_findFirst_1) rfl (.int (nI n)) rfl dX1_findFirst_8 ?_
  refine lv_icmp_ge (tgt := 81) hx hb dX1_findFirst_11 (by decide) (fun c_1 => ?_) (fun c_1 => ?_)
  · have f_1 := z_leN (a := n) (b := i) c_1 rfl rfl (by omega) (by omega)
    obtain rfl : n = i := by omega
    refine lv_iload_n hx hb dX1_findFirst_81 rfl (lv_at hl 0 rfl) ?_
    exact W.iret (v := F_fst bd st sl dt x1 x2 n) hx hb hr (fun t ht hW => ⟨⟨F_fst bd st sl dt x1 x2 n, (), rfl, rfl, trivial⟩, hS.F ht⟩) hS.2.2 dX1_findFirst_82
  · have f_1 := z_nleN (a := n) (b := i) c_1 rfl rfl (by omega) (by omega)
    refine lv_aload_n hx hb dX1_findFirst_14 rfl (lv_at hl 2 rfl) ?_
    refine lv_iload hx hb dX1_findFirst_15 (lv_at hl 1 rfl) ?_
    refine z_ri (va_runV (As := [.int (nI i)]) (rest := []) ⟨hx, hb, hml, hown, hts⟩ (c_X1_isLapsed l D cI cJ cZ a H.size ld sl bd pw dt st uc sv tl so lm n nd (nI i) i rfl (by omega)) (cwV 1 hts gX1_findFirst_X1_isLapsed rfl rfl rfl (by decide +kernel) ⟨Nat.le_of_ble_eq_true rfl, Nat.le_of_ble_eq_true rfl⟩) (z_pv hK hP hD (q0 := 0) (ci := 1) rfl rfl zT_b zT_m) rfl rfl hl.1 rfl (lv_room (Nat.le_of_ble_eq_true rfl)) dX1_findFirst_17 ⟨Nat.le_of_ble_eq_true rfl, Nat.le_of_ble_eq_true rfl⟩) hP hS hA (fun r_2 _ H locs hr_2 hP hS => ?_)
    subst hr_2
    refine lv_if_ne (tgt := 49) hx hb dX1_findFirst_20 (by decide) (fun c_3 => ?_) (fun c_3 => ?_)
    · refine lv_iconst (v := 0) hx hb dX1_findFirst_49 (by decide) ?_
      refine lv_istore (lv' := [(5, .int 0), (3, .int (F_fst bd st sl dt x1 x2 i)), (4, .int (nI i)), (0, .ref (a 3)), (1, .int x1), (2, .int x2)]) hx hb dX1_findFirst_50 hl (by decide) rfl (fun ls hl => ?_)
      refine lv_iload hx hb dX1_findFirst_52 (lv_at hl 0 rfl) ?_
      refine lv_if_eq (tgt := 75) hx hb dX1_findFirst_54 (by decide) (fun _ => ?_) (fun c9 => absurd (by decide) c9)
      refine lv_iinc (v := nI (i + 1)) (lv' := [(4, .int (nI (i + 1))), (5, .int 0), (3, .int (F_fst bd st sl dt x1 x2 i)), (0, .ref (a 3)), (1, .int x1), (2, .int x2)]) hx hb dX1_findFirst_75 hl (k := 2) rfl (z_inc1 i) (by decide) rfl (fun ls hl => ?_)
      refine lv_goto (tgt := 5) hx hb dX1_findFirst_78 (by decide) ?_
      have e_l3 : (F_fst bd st sl dt x1 x2 (i + 1)) = F_fst bd st sl dt x1 x2 i := by first | with_reducible rfl | (simp only [F_fst, if_neg c_1, if_neg c_3]; done) | (simp +decide only [F_fst, f_1, if_neg c_1, if_neg c_3]; done) | (simp [F_fst, c_1, c_3, f_1]; done) | (simp +decide [F_fst, c_1, c_3, f_1]; done)
      have hl : lv_has ls 6 [(3, .int (F_fst bd st sl dt x1 x2 (i + 1))), (4, .int (nI (i + 1))), (0, .ref (a 3)), (1, .int x1), (2, .int x2)] := by rw [e_l3]; exact lv_sub hl [2, 0, 3, 4, 5] rfl
      exact ih H locs ls (by omega) trivial hP hS hl
    · refine lv_aload_n hx hb dX1_findFirst_23 rfl (lv_at hl 2 rfl) ?_
      refine z_get (ci := 1) (C := RX1) (T := TX1) (N := 13) hx hb hts b_X1_findFirst_wsX10 hown hK hP 0 rfl rfl 1 (by decide) (hts _ k_X1_findFirst_2) rfl (.ref (a 5)) rfl dX1_findFirst_24 ?_
      refine lv_iload hx hb dX1_findFirst_27 (lv_at hl 1 rfl) ?_
      refine z_iald hx hb hK hP 2 0 rfl rfl i rfl (by omega) rfl dX1_findFirst_29 ?_
      refine lv_iload_n hx hb dX1_findFirst_30 rfl (lv_at hl 3 rfl) ?_
      refine lv_icmp_ne (tgt := 49) hx hb dX1_findFirst_31 (by decide) (fun c_4 => ?_) (fun c_4 => ?_)
      · refine lv_iconst (v := 0) hx hb dX1_findFirst_49 (by decide) ?_
        refine lv_istore (lv' := [(5, .int 0), (3, .int (F_fst bd st sl dt x1 x2 i)), (4, .int (nI i)), (0, .ref (a 3)), (1, .int x1), (2, .int x2)]) hx hb dX1_findFirst_50 hl (by decide) rfl (fun ls hl => ?_)
        refine lv_iload hx hb dX1_findFirst_52 (lv_at hl 0 rfl) ?_
        refine lv_if_eq (tgt := 75) hx hb dX1_findFirst_54 (by decide) (fun _ => ?_) (fun c9 => absurd (by decide) c9)
        refine lv_iinc (v := nI (i + 1)) (lv' := [(4, .int (nI (i + 1))), (5, .int 0), (3, .int (F_fst bd st sl dt x1 x2 i)), (0, .ref (a 3)), (1, .int x1), (2, .int x2)]) hx hb dX1_findFirst_75 hl (k := 2) rfl (z_inc1 i) (by decide) rfl (fun ls hl => ?_)
        refine lv_goto (tgt := 5) hx hb dX1_findFirst_78 (by decide) ?_
        have e_l3 : (F_fst bd st sl dt x1 x2 (i + 1)) = F_fst bd st sl dt x1 x2 i := by first | with_reducible rfl | (simp only [F_fst, if_neg c_1, if_pos c_3, if_neg c_4]; done) | (simp +decide only [F_fst, f_1, if_neg c_1, if_pos c_3, if_neg c_4]; done) | (simp [F_fst, c_1, c_3, c_4, f_1]; done) | (simp +decide [F_fst, c_1, c_3, c_4, f_1]; done)
        have hl : lv_has ls 6 [(3, .int (F_fst bd st sl dt x1 x2 (i + 1))), (4, .int (nI (i + 1))), (0, .ref (a 3)), (1, .int x1), (2, .int x2)] := by rw [e_l3]; exact lv_sub hl [2, 0, 3, 4, 5] rfl
        exact ih H locs ls (by omega) trivial hP hS hl
      · refine lv_aload_n hx hb dX1_findFirst_34 rfl (lv_at hl 2 rfl) ?_
        refine z_get (ci := 1) (C := RX1) (T := TX1) (N := 13) hx hb hts b_X1_findFirst_wsX10 hown hK hP 0 rfl rfl 2 (by decide) (hts _ k_X1_findFirst_3) rfl (.ref (a 6)) rfl dX1_findFirst_35 ?_
        refine lv_iload hx hb dX1_findFirst_38 (lv_at hl 1 rfl) ?_
        refine z_iald hx hb hK hP 3 0 rfl rfl i rfl (by omega) rfl dX1_findFirst_40 ?_
        refine lv_iload_n hx hb dX1_findFirst_41 rfl (lv_at hl 4 rfl) ?_
        refine lv_icmp_ne (tgt := 49) hx hb dX1_findFirst_42 (by decide) (fun c_5 => ?_) (fun c_5 => ?_)
        · refine lv_iconst (v := 0) hx hb dX1_findFirst_49 (by decide) ?_
          refine lv_istore (lv' := [(5, .int 0), (3, .int (F_fst bd st sl dt x1 x2 i)), (4, .int (nI i)), (0, .ref (a 3)), (1, .int x1), (2, .int x2)]) hx hb dX1_findFirst_50 hl (by decide) rfl (fun ls hl => ?_)
          refine lv_iload hx hb dX1_findFirst_52 (lv_at hl 0 rfl) ?_
          refine lv_if_eq (tgt := 75) hx hb dX1_findFirst_54 (by decide) (fun _ => ?_) (fun c9 => absurd (by decide) c9)
          refine lv_iinc (v := nI (i + 1)) (lv' := [(4, .int (nI (i + 1))), (5, .int 0), (3, .int (F_fst bd st sl dt x1 x2 i)), (0, .ref (a 3)), (1, .int x1), (2, .int x2)]) hx hb dX1_findFirst_75 hl (k := 2) rfl (z_inc1 i) (by decide) rfl (fun ls hl => ?_)
          refine lv_goto (tgt := 5) hx hb dX1_findFirst_78 (by decide) ?_
          have e_l3 : (F_fst bd st sl dt x1 x2 (i + 1)) = F_fst bd st sl dt x1 x2 i := by first | with_reducible rfl | (simp only [F_fst, if_neg c_1, if_pos c_3, if_pos c_4, if_neg c_5]; done) | (simp +decide only [F_fst, f_1, if_neg c_1, if_pos c_3, if_pos c_4, if_neg c_5]; done) | (simp [F_fst, c_1, c_3, c_4, c_5, f_1]; done) | (simp +decide [F_fst, c_1, c_3, c_4, c_5, f_1]; done)
          have hl : lv_has ls 6 [(3, .int (F_fst bd st sl dt x1 x2 (i + 1))), (4, .int (nI (i + 1))), (0, .ref (a 3)), (1, .int x1), (2, .int x2)] := by rw [e_l3]; exact lv_sub hl [2, 0, 3, 4, 5] rfl
          exact ih H locs ls (by omega) trivial hP hS hl
        · refine lv_iconst (v := 1) hx hb dX1_findFirst_45 (by decide) ?_
          refine lv_goto (tgt := 50) hx hb dX1_findFirst_46 (by decide) ?_
          refine lv_istore (lv' := [(5, .int 1), (3, .int (F_fst bd st sl dt x1 x2 i)), (4, .int (nI i)), (0, .ref (a 3)), (1, .int x1), (2, .int x2)]) hx hb dX1_findFirst_50 hl (by decide) rfl (fun ls hl => ?_)
          refine lv_iload hx hb dX1_findFirst_52 (lv_at hl 0 rfl) ?_
          refine lv_if_eq (tgt := 75) hx hb dX1_findFirst_54 (by decide) (fun c9 => absurd c9 (by decide)) (fun _ => ?_)
          refine lv_iload_n hx hb dX1_findFirst_57 rfl (lv_at hl 1 rfl) ?_
          refine lv_iconst (v := (-1)) hx hb dX1_findFirst_58 (by decide) ?_
          refine lv_icmp_eq (tgt := 72) hx hb dX1_findFirst_59 (by decide) (fun c_6 => ?_) (fun c_6 => ?_)
          · refine lv_iload hx hb dX1_findFirst_72 (lv_at hl 2 rfl) ?_
            refine lv_istore_n (lv' := [(3, .int (nI i)), (5, .int 1), (4, .int (nI i)), (0, .ref (a 3)), (1, .int x1), (2, .int x2)]) hx hb dX1_findFirst_74 rfl hl (by decide) rfl (fun ls hl => ?_)
            refine lv_iinc (v := nI (i + 1)) (lv' := [(4, .int (nI (i + 1))), (3, .int (nI i)), (5, .int 1), (0, .ref (a 3)), (1, .int x1), (2, .int x2)]) hx hb dX1_findFirst_75 hl (k := 2) rfl (z_inc1 i) (by decide) rfl (fun ls hl => ?_)
            refine lv_goto (tgt := 5) hx hb dX1_findFirst_78 (by decide) ?_
            have e_l3 : (F_fst bd st sl dt x1 x2 (i + 1)) = nI i := by first | with_reducible rfl | (simp only [F_fst, if_neg c_1, if_pos c_3, if_pos c_4, if_pos c_5, if_pos c_6]; done) | (simp +decide only [F_fst, f_1, if_neg c_1, if_pos c_3, if_pos c_4, if_pos c_5, if_pos c_6]; done) | (simp [F_fst, c_1, c_3, c_4, c_5, c_6, f_1]; done) | (simp +decide [F_fst, c_1, c_3, c_4, c_5, c_6, f_1]; done)
            have hl : lv_has ls 6 [(3, .int (F_fst bd st sl dt x1 x2 (i + 1))), (4, .int (nI (i + 1))), (0, .ref (a 3)), (1, .int x1), (2, .int x2)] := by rw [e_l3]; exact lv_sub hl [1, 0, 3, 4, 5] rfl
            exact ih H locs ls (by omega) trivial hP hS hl
          · refine lv_aload_n hx hb dX1_findFirst_62 rfl (lv_at hl 3 rfl) ?_
            refine lv_iload hx hb dX1_findFirst_63 (lv_at hl 2 rfl) ?_
            refine lv_iload_n hx hb dX1_findFirst_65 rfl (lv_at hl 1 rfl) ?_
            refine z_ri (va_runV (As := [.int (nI i), .int (F_fst bd st sl dt x1 x2 i)]) (rest := []) ⟨hx, hb, hml, hown, hts⟩ (c_X1_isAhead l D cI cJ cZ a H.size ld sl bd pw dt st uc sv tl so lm n nd (nI i) i rfl (by omega) (F_fst bd st sl dt x1 x2 i) ((F_fst bd st sl dt x1 x2 i).toNatClampNeg) ((F_fst_ix bd st sl dt x1 x2 i (by omega)).resolve_left c_6).1 (Nat.lt_of_lt_of_le ((F_fst_ix bd st sl dt x1 x2 i (by omega)).resolve_left c_6).2 (by omega))) (cwV 2 hts gX1_findFirst_X1_isAhead rfl rfl rfl (by decide +kernel) ⟨Nat.le_of_ble_eq_true rfl, Nat.le_of_ble_eq_true rfl⟩) (z_pv hK hP hD (q0 := 0) (ci := 1) rfl rfl zT_b zT_m) rfl rfl hl.1 rfl (lv_room (Nat.le_of_ble_eq_true rfl)) dX1_findFirst_66 ⟨Nat.le_of_ble_eq_true rfl, Nat.le_of_ble_eq_true rfl⟩) hP hS hA (fun r_7 _ H locs hr_7 hP hS => ?_)
            subst hr_7
            refine lv_if_eq (tgt := 75) hx hb dX1_findFirst_69 (by decide) (fun c_8 => ?_) (fun c_8 => ?_)
            · refine lv_iinc (v := nI (i + 1)) (lv' := [(4, .int (nI (i + 1))), (5, .int 1), (3, .int (F_fst bd st sl dt x1 x2 i)), (0, .ref (a 3)), (1, .int x1), (2, .int x2)]) hx hb dX1_findFirst_75 hl (k := 2) rfl (z_inc1 i) (by decide) rfl (fun ls hl => ?_)
              refine lv_goto (tgt := 5) hx hb dX1_findFirst_78 (by decide) ?_
              have e_l3 : (F_fst bd st sl dt x1 x2 (i + 1)) = F_fst bd st sl dt x1 x2 i := by first | with_reducible rfl | (simp only [F_fst, if_neg c_1, if_pos c_3, if_pos c_4, if_pos c_5, if_neg c_6, if_pos c_8]; done) | (simp +decide only [F_fst, f_1, if_neg c_1, if_pos c_3, if_pos c_4, if_pos c_5, if_neg c_6, if_pos c_8]; done) | (simp [F_fst, c_1, c_3, c_4, c_5, c_6, c_8, f_1]; done) | (simp +decide [F_fst, c_1, c_3, c_4, c_5, c_6, c_8, f_1]; done)
              have hl : lv_has ls 6 [(3, .int (F_fst bd st sl dt x1 x2 (i + 1))), (4, .int (nI (i + 1))), (0, .ref (a 3)), (1, .int x1), (2, .int x2)] := by rw [e_l3]; exact lv_sub hl [2, 0, 3, 4, 5] rfl
              exact ih H locs ls (by omega) trivial hP hS hl
            · refine lv_iload hx hb dX1_findFirst_72 (lv_at hl 2 rfl) ?_
              refine lv_istore_n (lv' := [(3, .int (nI i)), (5, .int 1), (4, .int (nI i)), (0, .ref (a 3)), (1, .int x1), (2, .int x2)]) hx hb dX1_findFirst_74 rfl hl (by decide) rfl (fun ls hl => ?_)
              refine lv_iinc (v := nI (i + 1)) (lv' := [(4, .int (nI (i + 1))), (3, .int (nI i)), (5, .int 1), (0, .ref (a 3)), (1, .int x1), (2, .int x2)]) hx hb dX1_findFirst_75 hl (k := 2) rfl (z_inc1 i) (by decide) rfl (fun ls hl => ?_)
              refine lv_goto (tgt := 5) hx hb dX1_findFirst_78 (by decide) ?_
              have e_l3 : (F_fst bd st sl dt x1 x2 (i + 1)) = nI i := by first | with_reducible rfl | (simp only [F_fst, if_neg c_1, if_pos c_3, if_pos c_4, if_pos c_5, if_neg c_6, if_neg c_8]; done) | (simp +decide only [F_fst, f_1, if_neg c_1, if_pos c_3, if_pos c_4, if_pos c_5, if_neg c_6, if_neg c_8]; done) | (simp [F_fst, c_1, c_3, c_4, c_5, c_6, c_8, f_1]; done) | (simp +decide [F_fst, c_1, c_3, c_4, c_5, c_6, c_8, f_1]; done)
              have hl : lv_has ls 6 [(3, .int (F_fst bd st sl dt x1 x2 (i + 1))), (4, .int (nI (i + 1))), (0, .ref (a 3)), (1, .int x1), (2, .int x2)] := by rw [e_l3]; exact lv_sub hl [1, 0, 3, 4, 5] rfl
              exact ih H locs ls (by omega) trivial hP hS hl
theorem k_X1_countServedBy_1 : (Cond.fieldLink RX1 46 "Orbitregister$Filings" "count" "I") ∈ wsX1_countServedBy := List.mem_of_getElem? (i := 1) rfl
theorem b_X1_countServedBy_wsX10 : ∀ w ∈ wsX10, w ∈ wsX1_countServedBy := fun _ h => List.mem_cons_of_mem _ (List.mem_append_right _ h)
theorem k_X1_countServedBy_2 : (Cond.fieldLink RX1 34 "Orbitregister$Filings" "server" "[I") ∈ wsX1_countServedBy := List.mem_of_getElem? (i := 2) rfl
set_option maxHeartbeats 4000000 in
set_option maxRecDepth 100000 in
theorem c_X1_countServedBy (l : Launch) (D : va_G) (cI cJ cZ : ClassId) (a : Nat → Nat) (sz : Nat) (ld : A32) (sl : A32) (bd : A32) (pw : A32) (dt : A32) (st : A32) (uc : A32) (sv : A32) (tl : A32) (so : A32) (lm : A32) (n : Nat) (nd : Int32) (x1 : Int32) (hn : n ≤ 40) : Met l yX1_countServedBy wsX1_countServedBy ({ frames := 0, cells := 0, slots := 0, locals := 0 }) (va_Pc [.ref (a 3), .int x1] (ZP D (zt cI cJ cZ) (wFi cI cJ cZ a ld sl bd pw dt st uc sv tl so lm n nd) sz zT)) (va_Qi (fun (r : Int32) (_ : Unit) => r = F_served sv x1 n) (fun _ _ => True) (va_A [] sz)) 0 0 (va_A [] sz) := by
  refine Met.ofW (cc := cX1_countServedBy) (maxL := 4) (ret := (some .int)) (by decide) rfl ?_
  intro p e s m args below meth c s₁ B hml hv
  obtain ⟨rfl, hsz, hP, hK, hD0, hE⟩ := hv
  have hx := B.exec
  have hb := B.bytes
  have hr := B.returns
  have hts := atoms_spec (ws := wsX1_countServedBy) B.pre
  have hown : s.vm.findClass RX1 = some m.cls := findClass_of_methodNamed B.named
  have hlocks := B.notSynchronized
  subst hsz
  have hD := hD0
  generalize hAe : va_A [] s.heap.size = A at ⊢
  have hA : ∀ q : Nat, s.heap.size ≤ q → A q := fun q h => by rw [← hAe]; exact Or.inr h
  have hS : va_S A s.heap s.heap [] := va_S.rf
  have hl := lv_entry ([.ref (a 3), .int x1]) (n := 4) (Nat.le_of_ble_eq_true rfl)
  rw [lg_entry_eq]
  generalize (lg_sl ([.ref (a 3), .int x1]) ++ List.replicate (4 - (lg_sl ([.ref (a 3), .int x1])).length) Slot.unset).toArray = ls at hl ⊢
  have hl : lv_has ls 4 [(0, .ref (a 3)), (1, .int x1)] := hl
  have hP : va_P D vwCl (wFi cI cJ cZ a ld sl bd pw dt st uc sv tl so lm n nd) s.heap := hP
  refine lv_iconst (v := 0) hx hb dX1_countServedBy_0 (by decide) ?_
  refine lv_istore_n (lv' := [(2, .int 0), (0, .ref (a 3)), (1, .int x1)]) hx hb dX1_countServedBy_1 rfl hl (by decide) rfl (fun ls hl => ?_)
  refine lv_iconst (v := 0) hx hb dX1_countServedBy_2 (by decide) ?_
  refine lv_istore_n (lv' := [(3, .int 0), (2, .int 0), (0, .ref (a 3)), (1, .int x1)]) hx hb dX1_countServedBy_3 rfl hl (by decide) rfl (fun ls hl => ?_)
  have e_l2 : (F_served sv x1 0) = 0 := by first | rfl | exact nI_0
  have e_l3 : (nI 0) = 0 := by first | rfl | exact nI_0
  have hl : lv_has ls 4 [(2, .int (F_served sv x1 0)), (3, .int (nI 0)), (0, .ref (a 3)), (1, .int x1)] := by rw [e_l2, e_l3]; exact lv_sub hl [1, 0, 2, 3] rfl
  refine z_loop (D := D) (A := A) (H0 := s.heap) (N := n) (Wf := fun i => (wFi cI cJ cZ a ld sl bd pw dt st uc sv tl so lm n nd)) (lvf := fun i => [(2, .int (F_served sv x1 i)), (3, .int (nI i)), (0, .ref (a 3)), (1, .int x1)]) (Inv := fun i => True) 0 (by omega) trivial hP hS hl (fun i hi hinv H locs ls hP hS hl ih => ?_)
  have hP : va_P D vwCl (wFi cI cJ cZ a ld sl bd pw dt st uc sv tl so lm n nd) H := hP
  have hl : lv_has ls 4 [(2, .int (F_served sv x1 i)), (3, .int (nI i)), (0, .ref (a 3)), (1, .int x1)] := hl
  have hinv : True := hinv
  refine lv_iload_n hx hb dX1_countServedBy_4 rfl (lv_at hl 1 rfl) ?_
  refine lv_aload_n hx hb dX1_countServedBy_5 rfl (lv_at hl 2 rfl) ?_
  refine z_get (ci := 1) (C := RX1) (T := TX1) (N := 13) hx hb hts b_X1_countServedBy_wsX10 hown hK hP 0 rfl rfl 11 (by decide) (hts _ k_X1_countServedBy_1) rfl (.int (nI n)) rfl dX1_countServedBy_6 ?_
  refine lv_icmp_ge (tgt := 31) hx hb dX1_countServedBy_9 (by decide) (fun c_1 => ?_) (fun c_1 => ?_)
  · have f_1 := z_leN (a := n) (b := i) c_1 rfl rfl (by omega) (by omega)
    obtain rfl : n = i := by omega
    refine lv_iload_n hx hb dX1_countServedBy_31 rfl (lv_at hl 0 rfl) ?_
    exact W.iret (v := F_served sv x1 n) hx hb hr (fun t ht hW => ⟨⟨F_served sv x1 n, (), rfl, rfl, trivial⟩, hS.F ht⟩) hS.2.2 dX1_countServedBy_32
  · have f_1 := z_nleN (a := n) (b := i) c_1 rfl rfl (by omega) (by omega)
    refine lv_aload_n hx hb dX1_countServedBy_12 rfl (lv_at hl 2 rfl) ?_
    refine z_get (ci := 1) (C := RX1) (T := TX1) (N := 13) hx hb hts b_X1_countServedBy_wsX10 hown hK hP 0 rfl rfl 7 (by decide) (hts _ k_X1_countServedBy_2) rfl (.ref (a 11)) rfl dX1_countServedBy_13 ?_
    refine lv_iload_n hx hb dX1_countServedBy_16 rfl (lv_at hl 1 rfl) ?_
    refine z_iald hx hb hK hP 8 0 rfl rfl i rfl (by omega) rfl dX1_countServedBy_17 ?_
    refine lv_iload_n hx hb dX1_countServedBy_18 rfl (lv_at hl 3 rfl) ?_
    refine lv_icmp_ne (tgt := 25) hx hb dX1_countServedBy_19 (by decide) (fun c_2 => ?_) (fun c_2 => ?_)
    · refine lv_iinc (v := nI (i + 1)) (lv' := [(3, .int (nI (i + 1))), (2, .int (F_served sv x1 i)), (0, .ref (a 3)), (1, .int x1)]) hx hb dX1_countServedBy_25 hl (k := 1) rfl (z_inc1 i) (by decide) rfl (fun ls hl => ?_)
      refine lv_goto (tgt := 4) hx hb dX1_countServedBy_28 (by decide) ?_
      have e_l2 : (F_served sv x1 (i + 1)) = F_served sv x1 i := by first | with_reducible rfl | (simp only [F_served, if_neg c_1, if_neg c_2]; done) | (simp +decide only [F_served, f_1, if_neg c_1, if_neg c_2]; done) | (simp [F_served, c_1, c_2, f_1]; done) | (simp +decide [F_served, c_1, c_2, f_1]; done)
      have hl : lv_has ls 4 [(2, .int (F_served sv x1 (i + 1))), (3, .int (nI (i + 1))), (0, .ref (a 3)), (1, .int x1)] := by rw [e_l2]; exact lv_sub hl [1, 0, 2, 3] rfl
      exact ih H locs ls (by omega) trivial hP hS hl
    · refine lv_iinc (v := (F_served sv x1 i) + 1) (lv' := [(2, .int ((F_served sv x1 i) + 1)), (3, .int (nI i)), (0, .ref (a 3)), (1, .int x1)]) hx hb dX1_countServedBy_22 hl (k := 0) rfl rfl (by decide) rfl (fun ls hl => ?_)
      refine lv_iinc (v := nI (i + 1)) (lv' := [(3, .int (nI (i + 1))), (2, .int ((F_served sv x1 i) + 1)), (0, .ref (a 3)), (1, .int x1)]) hx hb dX1_countServedBy_25 hl (k := 1) rfl (z_inc1 i) (by decide) rfl (fun ls hl => ?_)
      refine lv_goto (tgt := 4) hx hb dX1_countServedBy_28 (by decide) ?_
      have e_l2 : (F_served sv x1 (i + 1)) = (F_served sv x1 i) + 1 := by first | with_reducible rfl | (simp only [F_served, if_neg c_1, if_pos c_2]; done) | (simp +decide only [F_served, f_1, if_neg c_1, if_pos c_2]; done) | (simp [F_served, c_1, c_2, f_1]; done) | (simp +decide [F_served, c_1, c_2, f_1]; done)
      have hl : lv_has ls 4 [(2, .int (F_served sv x1 (i + 1))), (3, .int (nI (i + 1))), (0, .ref (a 3)), (1, .int x1)] := by rw [e_l2]; exact lv_sub hl [1, 0, 2, 3] rfl
      exact ih H locs ls (by omega) trivial hP hS hl
theorem k_X1_suspendServedBy_1 : (Cond.fieldLink RX1 46 "Orbitregister$Filings" "count" "I") ∈ wsX1_suspendServedBy := List.mem_of_getElem? (i := 1) rfl
theorem b_X1_suspendServedBy_wsX10 : ∀ w ∈ wsX10, w ∈ wsX1_suspendServedBy := fun _ h => List.mem_cons_of_mem _ (List.mem_append_right _ h)
theorem k_X1_suspendServedBy_2 : (Cond.fieldLink RX1 34 "Orbitregister$Filings" "server" "[I") ∈ wsX1_suspendServedBy := List.mem_of_getElem? (i := 2) rfl
set_option maxHeartbeats 4000000 in
set_option maxRecDepth 100000 in
theorem c_X1_suspendServedBy (l : Launch) (D : va_G) (cI cJ cZ : ClassId) (a : Nat → Nat) (sz : Nat) (ld : A32) (sl : A32) (bd : A32) (pw : A32) (dt : A32) (st : A32) (uc : A32) (sv : A32) (tl : A32) (so : A32) (lm : A32) (n : Nat) (nd : Int32) (x1 : Int32) (x2 : Int32) (hn : n ≤ 40) : Met l yX1_suspendServedBy wsX1_suspendServedBy ({ frames := 1, cells := 0, slots := 0, locals := 22 }) (va_Pc [.ref (a 3), .int x1, .int x2] (ZP D (zt cI cJ cZ) (wFi cI cJ cZ a ld sl bd pw dt st uc sv tl so lm n nd) sz zT)) (va_Qi (fun (r : Int32) (_ : Unit) => r = F_susN sv x1 n) (fun _ t => va_P D vwCl (wFi cI cJ cZ a ld sl bd pw dt (F_susSt st sv x1 n) uc (F_susSv sv x1 n) tl (F_susSo so sv x1 x2 n) lm n nd) t.heap) (va_A (wFi cI cJ cZ a ld sl bd pw dt st uc sv tl so lm n nd) sz)) 0 0 (va_A (wFi cI cJ cZ a ld sl bd pw dt st uc sv tl so lm n nd) sz) := by
  refine Met.ofW (cc := cX1_suspendServedBy) (maxL := 5) (ret := (some .int)) (by decide) rfl ?_
  intro p e s m args below meth c s₁ B hml hv
  obtain ⟨rfl, hsz, hP, hK, hD0, hE⟩ := hv
  have hx := B.exec
  have hb := B.bytes
  have hr := B.returns
  have hts := atoms_spec (ws := wsX1_suspendServedBy) B.pre
  have hown : s.vm.findClass RX1 = some m.cls := findClass_of_methodNamed B.named
  have hlocks := B.notSynchronized
  subst hsz
  have hD := hD0.self (sz := s.heap.size)
  generalize hAe : va_A (wFi cI cJ cZ a ld sl bd pw dt st uc sv tl so lm n nd) s.heap.size = A at hD ⊢
  have hA : ∀ q : Nat, s.heap.size ≤ q → A q := fun q h => by rw [← hAe]; exact Or.inr h
  have hS : va_S A s.heap s.heap [] := va_S.rf
  have hl := lv_entry ([.ref (a 3), .int x1, .int x2]) (n := 5) (Nat.le_of_ble_eq_true rfl)
  rw [lg_entry_eq]
  generalize (lg_sl ([.ref (a 3), .int x1, .int x2]) ++ List.replicate (5 - (lg_sl ([.ref (a 3), .int x1, .int x2])).length) Slot.unset).toArray = ls at hl ⊢
  have hl : lv_has ls 5 [(0, .ref (a 3)), (1, .int x1), (2, .int x2)] := hl
  have hP : va_P D vwCl (wFi cI cJ cZ a ld sl bd pw dt st uc sv tl so lm n nd) s.heap := hP
  refine lv_iconst (v := 0) hx hb dX1_suspendServedBy_0 (by decide) ?_
  refine lv_istore_n (lv' := [(3, .int 0), (0, .ref (a 3)), (1, .int x1), (2, .int x2)]) hx hb dX1_suspendServedBy_1 rfl hl (by decide) rfl (fun ls hl => ?_)
  refine lv_iconst (v := 0) hx hb dX1_suspendServedBy_2 (by decide) ?_
  refine lv_istore (lv' := [(4, .int 0), (3, .int 0), (0, .ref (a 3)), (1, .int x1), (2, .int x2)]) hx hb dX1_suspendServedBy_3 hl (by decide) rfl (fun ls hl => ?_)
  have e_wst : F_susSt st sv x1 0 = st := by first | rfl | exact nI_0
  have e_wsv : F_susSv sv x1 0 = sv := by first | rfl | exact nI_0
  have e_wso : F_susSo so sv x1 x2 0 = so := by first | rfl | exact nI_0
  have hP : va_P D vwCl (wFi cI cJ cZ a ld sl bd pw dt (F_susSt st sv x1 0) uc (F_susSv sv x1 0) tl (F_susSo so sv x1 x2 0) lm n nd) s.heap := by rw [e_wst, e_wsv, e_wso]; exact hP
  have e_l3 : (F_susN sv x1 0) = 0 := by first | rfl | exact nI_0
  have e_l4 : (nI 0) = 0 := by first | rfl | exact nI_0
  have hl : lv_has ls 5 [(3, .int (F_susN sv x1 0)), (4, .int (nI 0)), (0, .ref (a 3)), (1, .int x1), (2, .int x2)] := by rw [e_l3, e_l4]; exact lv_sub hl [1, 0, 2, 3, 4] rfl
  refine z_loop (D := D) (A := A) (H0 := s.heap) (N := n) (Wf := fun i => (wFi cI cJ cZ a ld sl bd pw dt (F_susSt st sv x1 i) uc (F_susSv sv x1 i) tl (F_susSo so sv x1 x2 i) lm n nd)) (lvf := fun i => [(3, .int (F_susN sv x1 i)), (4, .int (nI i)), (0, .ref (a 3)), (1, .int x1), (2, .int x2)]) (Inv := fun i => True) 0 (by omega) trivial hP hS hl (fun i hi hinv H locs ls hP hS hl ih => ?_)
  have hP : va_P D vwCl (wFi cI cJ cZ a ld sl bd pw dt (F_susSt st sv x1 i) uc (F_susSv sv x1 i) tl (F_susSo so sv x1 x2 i) lm n nd) H := hP
  have hD : va_D A (wFi cI cJ cZ a ld sl bd pw dt (F_susSt st sv x1 i) uc (F_susSv sv x1 i) tl (F_susSo so sv x1 x2 i) lm n nd) := zD_congr (w1 := (wFi cI cJ cZ a ld sl bd pw dt st uc sv tl so lm n nd)) rfl hD
  have hl : lv_has ls 5 [(3, .int (F_susN sv x1 i)), (4, .int (nI i)), (0, .ref (a 3)), (1, .int x1), (2, .int x2)] := hl
  have hinv : True := hinv
  refine lv_iload hx hb dX1_suspendServedBy_5 (lv_at hl 1 rfl) ?_
  refine lv_aload_n hx hb dX1_suspendServedBy_7 rfl (lv_at hl 2 rfl) ?_
  refine z_get (ci := 1) (C := RX1) (T := TX1) (N := 13) hx hb hts b_X1_suspendServedBy_wsX10 hown hK hP 0 rfl rfl 11 (by decide) (hts _ k_X1_suspendServedBy_1) rfl (.int (nI n)) rfl dX1_suspendServedBy_8 ?_
  refine lv_icmp_ge (tgt := 41) hx hb dX1_suspendServedBy_11 (by decide) (fun c_1 => ?_) (fun c_1 => ?_)
  · have f_1 := z_leN (a := n) (b := i) c_1 rfl rfl (by omega) (by omega)
    obtain rfl : n = i := by omega
    refine lv_iload_n hx hb dX1_suspendServedBy_41 rfl (lv_at hl 0 rfl) ?_
    exact W.iret (v := F_susN sv x1 n) hx hb hr (fun t ht hW => ⟨⟨F_susN sv x1 n, (), rfl, rfl, (z_at ht hP)⟩, hS.F ht⟩) hS.2.2 dX1_suspendServedBy_42
  · have f_1 := z_nleN (a := n) (b := i) c_1 rfl rfl (by omega) (by omega)
    refine lv_aload_n hx hb dX1_suspendServedBy_14 rfl (lv_at hl 2 rfl) ?_
    refine z_get (ci := 1) (C := RX1) (T := TX1) (N := 13) hx hb hts b_X1_suspendServedBy_wsX10 hown hK hP 0 rfl rfl 7 (by decide) (hts _ k_X1_suspendServedBy_2) rfl (.ref (a 11)) rfl dX1_suspendServedBy_15 ?_
    refine lv_iload hx hb dX1_suspendServedBy_18 (lv_at hl 1 rfl) ?_
    refine z_iald hx hb hK hP 8 0 rfl rfl i rfl (by omega) rfl dX1_suspendServedBy_20 ?_
    refine lv_iload_n hx hb dX1_suspendServedBy_21 rfl (lv_at hl 3 rfl) ?_
    refine lv_icmp_ne (tgt := 35) hx hb dX1_suspendServedBy_22 (by decide) (fun c_2 => ?_) (fun c_2 => ?_)
    · refine lv_iinc (v := nI (i + 1)) (lv' := [(4, .int (nI (i + 1))), (3, .int (F_susN sv x1 i)), (0, .ref (a 3)), (1, .int x1), (2, .int x2)]) hx hb dX1_suspendServedBy_35 hl (k := 1) rfl (z_inc1 i) (by decide) rfl (fun ls hl => ?_)
      refine lv_goto (tgt := 5) hx hb dX1_suspendServedBy_38 (by decide) ?_
      have e_wst : F_susSt st sv x1 (i + 1) = F_susSt st sv x1 i := by first | with_reducible rfl | (simp only [F_susSt, F_susSv, F_susSo, F_susN, if_neg c_1, if_neg c_2]; done) | (simp +decide only [F_susSt, F_susSv, F_susSo, F_susN, f_1, if_neg c_1, if_neg c_2]; done) | (simp [F_susSt, F_susSv, F_susSo, F_susN, c_1, c_2, f_1]; done) | (simp +decide [F_susSt, F_susSv, F_susSo, F_susN, c_1, c_2, f_1]; done)
      have e_wsv : F_susSv sv x1 (i + 1) = F_susSv sv x1 i := by first | with_reducible rfl | (simp only [F_susSt, F_susSv, F_susSo, F_susN, if_neg c_1, if_neg c_2]; done) | (simp +decide only [F_susSt, F_susSv, F_susSo, F_susN, f_1, if_neg c_1, if_neg c_2]; done) | (simp [F_susSt, F_susSv, F_susSo, F_susN, c_1, c_2, f_1]; done) | (simp +decide [F_susSt, F_susSv, F_susSo, F_susN, c_1, c_2, f_1]; done)
      have e_wso : F_susSo so sv x1 x2 (i + 1) = F_susSo so sv x1 x2 i := by first | with_reducible rfl | (simp only [F_susSt, F_susSv, F_susSo, F_susN, if_neg c_1, if_neg c_2]; done) | (simp +decide only [F_susSt, F_susSv, F_susSo, F_susN, f_1, if_neg c_1, if_neg c_2]; done) | (simp [F_susSt, F_susSv, F_susSo, F_susN, c_1, c_2, f_1]; done) | (simp +decide [F_susSt, F_susSv, F_susSo, F_susN, c_1, c_2, f_1]; done)
      have hP : va_P D vwCl (wFi cI cJ cZ a ld sl bd pw dt (F_susSt st sv x1 (i + 1)) uc (F_susSv sv x1 (i + 1)) tl (F_susSo so sv x1 x2 (i + 1)) lm n nd) H := by rw [e_wst, e_wsv, e_wso]; exact hP
      have e_l3 : (F_susN sv x1 (i + 1)) = F_susN sv x1 i := by first | with_reducible rfl | (simp only [F_susSt, F_susSv, F_susSo, F_susN, if_neg c_1, if_neg c_2]; done) | (simp +decide only [F_susSt, F_susSv, F_susSo, F_susN, f_1, if_neg c_1, if_neg c_2]; done) | (simp [F_susSt, F_susSv, F_susSo, F_susN, c_1, c_2, f_1]; done) | (simp +decide [F_susSt, F_susSv, F_susSo, F_susN, c_1, c_2, f_1]; done)
      have hl : lv_has ls 5 [(3, .int (F_susN sv x1 (i + 1))), (4, .int (nI (i + 1))), (0, .ref (a 3)), (1, .int x1), (2, .int x2)] := by rw [e_l3]; exact lv_sub hl [1, 0, 2, 3, 4] rfl
      exact ih H locs ls (by omega) trivial hP hS hl
    · refine lv_aload_n hx hb dX1_suspendServedBy_25 rfl (lv_at hl 2 rfl) ?_
      refine lv_iload hx hb dX1_suspendServedBy_26 (lv_at hl 1 rfl) ?_
      refine lv_iload_n hx hb dX1_suspendServedBy_28 rfl (lv_at hl 4 rfl) ?_
      refine z_cv (pre := ([] : va_W)) (wc := (wFi cI cJ cZ a ld sl bd pw dt (F_susSt st sv x1 i) uc (F_susSv sv x1 i) tl (F_susSo so sv x1 x2 i) lm n nd)) (suf := ([] : va_W)) (w1 := fun _ => (wFi cI cJ cZ a ld sl bd pw dt (upd (F_susSt st sv x1 i) i 3) uc (upd (F_susSv sv x1 i) i (-1)) tl (upd (F_susSo so sv x1 x2 i) i x2) lm n nd)) (va_runV (As := [.int (nI i), .int x2]) (rest := []) ⟨hx, hb, hml, hown, hts⟩ (c_X1_suspend l D cI cJ cZ a H.size ld sl bd pw dt (F_susSt st sv x1 i) uc (F_susSv sv x1 i) tl (F_susSo so sv x1 x2 i) lm n nd (nI i) i rfl (by omega) x2) (cwV 2 hts gX1_suspendServedBy_X1_suspend rfl rfl rfl (by decide +kernel) ⟨Nat.le_of_ble_eq_true rfl, Nat.le_of_ble_eq_true rfl⟩) (z_pv hK hP hD (q0 := 0) (ci := 1) rfl rfl zT_b zT_m) rfl rfl hl.1 rfl (lv_room (Nat.le_of_ble_eq_true rfl)) dX1_suspendServedBy_29 ⟨Nat.le_of_ble_eq_true rfl, Nat.le_of_ble_eq_true rfl⟩) hP hD hS hA (fun _ => rfl) (fun _ H locs hr_3 hP hD hS => ?_)
      refine lv_iinc (v := (F_susN sv x1 i) + 1) (lv' := [(3, .int ((F_susN sv x1 i) + 1)), (4, .int (nI i)), (0, .ref (a 3)), (1, .int x1), (2, .int x2)]) hx hb dX1_suspendServedBy_32 hl (k := 0) rfl rfl (by decide) rfl (fun ls hl => ?_)
      refine lv_iinc (v := nI (i + 1)) (lv' := [(4, .int (nI (i + 1))), (3, .int ((F_susN sv x1 i) + 1)), (0, .ref (a 3)), (1, .int x1), (2, .int x2)]) hx hb dX1_suspendServedBy_35 hl (k := 1) rfl (z_inc1 i) (by decide) rfl (fun ls hl => ?_)
      refine lv_goto (tgt := 5) hx hb dX1_suspendServedBy_38 (by decide) ?_
      have e_wst : F_susSt st sv x1 (i + 1) = upd (F_susSt st sv x1 i) i 3 := by first | with_reducible rfl | (simp only [F_susSt, F_susSv, F_susSo, F_susN, if_neg c_1, if_pos c_2]; done) | (simp +decide only [F_susSt, F_susSv, F_susSo, F_susN, f_1, if_neg c_1, if_pos c_2]; done) | (simp [F_susSt, F_susSv, F_susSo, F_susN, c_1, c_2, f_1]; done) | (simp +decide [F_susSt, F_susSv, F_susSo, F_susN, c_1, c_2, f_1]; done)
      have e_wsv : F_susSv sv x1 (i + 1) = upd (F_susSv sv x1 i) i (-1) := by first | with_reducible rfl | (simp only [F_susSt, F_susSv, F_susSo, F_susN, if_neg c_1, if_pos c_2]; done) | (simp +decide only [F_susSt, F_susSv, F_susSo, F_susN, f_1, if_neg c_1, if_pos c_2]; done) | (simp [F_susSt, F_susSv, F_susSo, F_susN, c_1, c_2, f_1]; done) | (simp +decide [F_susSt, F_susSv, F_susSo, F_susN, c_1, c_2, f_1]; done)
      have e_wso : F_susSo so sv x1 x2 (i + 1) = upd (F_susSo so sv x1 x2 i) i x2 := by first | with_reducible rfl | (simp only [F_susSt, F_susSv, F_susSo, F_susN, if_neg c_1, if_pos c_2]; done) | (simp +decide only [F_susSt, F_susSv, F_susSo, F_susN, f_1, if_neg c_1, if_pos c_2]; done) | (simp [F_susSt, F_susSv, F_susSo, F_susN, c_1, c_2, f_1]; done) | (simp +decide [F_susSt, F_susSv, F_susSo, F_susN, c_1, c_2, f_1]; done)
      have hP : va_P D vwCl (wFi cI cJ cZ a ld sl bd pw dt (F_susSt st sv x1 (i + 1)) uc (F_susSv sv x1 (i + 1)) tl (F_susSo so sv x1 x2 (i + 1)) lm n nd) H := by rw [e_wst, e_wsv, e_wso]; exact hP
      have e_l3 : (F_susN sv x1 (i + 1)) = (F_susN sv x1 i) + 1 := by first | with_reducible rfl | (simp only [F_susSt, F_susSv, F_susSo, F_susN, if_neg c_1, if_pos c_2]; done) | (simp +decide only [F_susSt, F_susSv, F_susSo, F_susN, f_1, if_neg c_1, if_pos c_2]; done) | (simp [F_susSt, F_susSv, F_susSo, F_susN, c_1, c_2, f_1]; done) | (simp +decide [F_susSt, F_susSv, F_susSo, F_susN, c_1, c_2, f_1]; done)
      have hl : lv_has ls 5 [(3, .int (F_susN sv x1 (i + 1))), (4, .int (nI (i + 1))), (0, .ref (a 3)), (1, .int x1), (2, .int x2)] := by rw [e_l3]; exact lv_sub hl [1, 0, 2, 3, 4] rfl
      exact ih H locs ls (by omega) trivial hP hS hl
theorem k_X1_lapseThoseDue_1 : (Cond.fieldLink RX1 46 "Orbitregister$Filings" "count" "I") ∈ wsX1_lapseThoseDue := List.mem_of_getElem? (i := 1) rfl
theorem b_X1_lapseThoseDue_wsX10 : ∀ w ∈ wsX10, w ∈ wsX1_lapseThoseDue := fun _ h => List.mem_cons_of_mem _ (List.mem_append_right _ h)
theorem k_X1_lapseThoseDue_2 : (Cond.fieldLink RX1 27 "Orbitregister$Filings" "state" "[I") ∈ wsX1_lapseThoseDue := List.mem_of_getElem? (i := 2) rfl
theorem k_X1_lapseThoseDue_3 : (Cond.fieldLink RX1 37 "Orbitregister$Filings" "toldOn" "[I") ∈ wsX1_lapseThoseDue := List.mem_of_getElem? (i := 3) rfl
theorem k_X1_lapseThoseDue_4 : (Cond.fieldLink RX1 40 "Orbitregister$Filings" "suspendedOn" "[I") ∈ wsX1_lapseThoseDue := List.mem_of_getElem? (i := 4) rfl
theorem k_X1_lapseThoseDue_5 : (Cond.static yX4_isLapseDue) ∈ wsX1_lapseThoseDue := List.mem_of_getElem? (i := 5) rfl
theorem k_X1_lapseThoseDue_6 : (Cond.initialized RX4) ∈ wsX1_lapseThoseDue := List.mem_of_getElem? (i := 6) rfl
set_option maxHeartbeats 4000000 in
set_option maxRecDepth 100000 in
theorem c_X1_lapseThoseDue (l : Launch) (D : va_G) (cI cJ cZ : ClassId) (a : Nat → Nat) (sz : Nat) (ld : A32) (sl : A32) (bd : A32) (pw : A32) (dt : A32) (st : A32) (uc : A32) (sv : A32) (tl : A32) (so : A32) (lm : A32) (n : Nat) (nd : Int32) (x1 : Int32) (hn : n ≤ 40) : Met l yX1_lapseThoseDue wsX1_lapseThoseDue ({ frames := 2, cells := 0, slots := 0, locals := 46 }) (va_Pc [.ref (a 3), .int x1] (ZP D (zt cI cJ cZ) (wFi cI cJ cZ a ld sl bd pw dt st uc sv tl so lm n nd) sz ZN)) (va_Qv (fun (_ : Unit) => True) (fun _ t => va_P D vwCl (wFi cI cJ cZ a ld sl bd pw dt (F_lapSt st tl so x1 n) uc (F_lapSv st sv tl so x1 n) tl so lm n nd) t.heap) (va_A (wFi cI cJ cZ a ld sl bd pw dt st uc sv tl so lm n nd) sz)) 0 0 (va_A (wFi cI cJ cZ a ld sl bd pw dt st uc sv tl so lm n nd) sz) := by
  refine Met.ofW (cc := cX1_lapseThoseDue) (maxL := 3) (ret := none) (by decide) rfl ?_
  intro p e s m args below meth c s₁ B hml hv
  obtain ⟨rfl, hsz, hP, hK, hD0, hE⟩ := hv
  have hx := B.exec
  have hb := B.bytes
  have hr := B.returns
  have hts := atoms_spec (ws := wsX1_lapseThoseDue) B.pre
  have hown : s.vm.findClass RX1 = some m.cls := findClass_of_methodNamed B.named
  have hlocks := B.notSynchronized
  subst hsz
  have hD := hD0.self (sz := s.heap.size)
  generalize hAe : va_A (wFi cI cJ cZ a ld sl bd pw dt st uc sv tl so lm n nd) s.heap.size = A at hD ⊢
  have hA : ∀ q : Nat, s.heap.size ≤ q → A q := fun q h => by rw [← hAe]; exact Or.inr h
  have hS : va_S A s.heap s.heap [] := va_S.rf
  have hl := lv_entry ([.ref (a 3), .int x1]) (n := 3) (Nat.le_of_ble_eq_true rfl)
  rw [lg_entry_eq]
  generalize (lg_sl ([.ref (a 3), .int x1]) ++ List.replicate (3 - (lg_sl ([.ref (a 3), .int x1])).length) Slot.unset).toArray = ls at hl ⊢
  have hl : lv_has ls 3 [(0, .ref (a 3)), (1, .int x1)] := hl
  have hP : va_P D vwCl (wFi cI cJ cZ a ld sl bd pw dt st uc sv tl so lm n nd) s.heap := hP
  refine lv_iconst (v := 0) hx hb dX1_lapseThoseDue_0 (by decide) ?_
  refine lv_istore_n (lv' := [(2, .int 0), (0, .ref (a 3)), (1, .int x1)]) hx hb dX1_lapseThoseDue_1 rfl hl (by decide) rfl (fun ls hl => ?_)
  have e_wst : F_lapSt st tl so x1 0 = st := by first | rfl | exact nI_0
  have e_wsv : F_lapSv st sv tl so x1 0 = sv := by first | rfl | exact nI_0
  have hP : va_P D vwCl (wFi cI cJ cZ a ld sl bd pw dt (F_lapSt st tl so x1 0) uc (F_lapSv st sv tl so x1 0) tl so lm n nd) s.heap := by rw [e_wst, e_wsv]; exact hP
  have e_l2 : (nI 0) = 0 := by first | rfl | exact nI_0
  have hl : lv_has ls 3 [(2, .int (nI 0)), (0, .ref (a 3)), (1, .int x1)] := by rw [e_l2]; exact lv_sub hl [0, 1, 2] rfl
  refine z_loop (D := D) (A := A) (H0 := s.heap) (N := n) (Wf := fun i => (wFi cI cJ cZ a ld sl bd pw dt (F_lapSt st tl so x1 i) uc (F_lapSv st sv tl so x1 i) tl so lm n nd)) (lvf := fun i => [(2, .int (nI i)), (0, .ref (a 3)), (1, .int x1)]) (Inv := fun i => True) 0 (by omega) trivial hP hS hl (fun i hi hinv H locs ls hP hS hl ih => ?_)
  have hP : va_P D vwCl (wFi cI cJ cZ a ld sl bd pw dt (F_lapSt st tl so x1 i) uc (F_lapSv st sv tl so x1 i) tl so lm n nd) H := hP
  have hD : va_D A (wFi cI cJ cZ a ld sl bd pw dt (F_lapSt st tl so x1 i) uc (F_lapSv st sv tl so x1 i) tl so lm n nd) := zD_congr (w1 := (wFi cI cJ cZ a ld sl bd pw dt st uc sv tl so lm n nd)) rfl hD
  have hl : lv_has ls 3 [(2, .int (nI i)), (0, .ref (a 3)), (1, .int x1)] := hl
  have hinv : True := hinv
  refine lv_iload_n hx hb dX1_lapseThoseDue_2 rfl (lv_at hl 0 rfl) ?_
  refine lv_aload_n hx hb dX1_lapseThoseDue_3 rfl (lv_at hl 1 rfl) ?_
  refine z_get (ci := 1) (C := RX1) (T := TX1) (N := 13) hx hb hts b_X1_lapseThoseDue_wsX10 hown hK hP 0 rfl rfl 11 (by decide) (hts _ k_X1_lapseThoseDue_1) rfl (.int (nI n)) rfl dX1_lapseThoseDue_4 ?_
  refine lv_icmp_ge (tgt := 46) hx hb dX1_lapseThoseDue_7 (by decide) (fun c_1 => ?_) (fun c_1 => ?_)
  · have f_1 := z_leN (a := n) (b := i) c_1 rfl rfl (by omega) (by omega)
    obtain rfl : n = i := by omega
    exact W.vret hx hb hr (fun t ht hW => ⟨⟨(), rfl, trivial, (z_at ht hP)⟩, hS.F ht⟩) hS.2.2 dX1_lapseThoseDue_46
  · have f_1 := z_nleN (a := n) (b := i) c_1 rfl rfl (by omega) (by omega)
    refine lv_aload_n hx hb dX1_lapseThoseDue_10 rfl (lv_at hl 1 rfl) ?_
    refine z_get (ci := 1) (C := RX1) (T := TX1) (N := 13) hx hb hts b_X1_lapseThoseDue_wsX10 hown hK hP 0 rfl rfl 5 (by decide) (hts _ k_X1_lapseThoseDue_2) rfl (.ref (a 9)) rfl dX1_lapseThoseDue_11 ?_
    refine lv_iload_n hx hb dX1_lapseThoseDue_14 rfl (lv_at hl 0 rfl) ?_
    refine z_iald hx hb hK hP 6 0 rfl rfl i rfl (by omega) rfl dX1_lapseThoseDue_15 ?_
    refine lv_aload_n hx hb dX1_lapseThoseDue_16 rfl (lv_at hl 1 rfl) ?_
    refine z_get (ci := 1) (C := RX1) (T := TX1) (N := 13) hx hb hts b_X1_lapseThoseDue_wsX10 hown hK hP 0 rfl rfl 8 (by decide) (hts _ k_X1_lapseThoseDue_3) rfl (.ref (a 12)) rfl dX1_lapseThoseDue_17 ?_
    refine lv_iload_n hx hb dX1_lapseThoseDue_20 rfl (lv_at hl 0 rfl) ?_
    refine z_iald hx hb hK hP 9 0 rfl rfl i rfl (by omega) rfl dX1_lapseThoseDue_21 ?_
    refine lv_aload_n hx hb dX1_lapseThoseDue_22 rfl (lv_at hl 1 rfl) ?_
    refine z_get (ci := 1) (C := RX1) (T := TX1) (N := 13) hx hb hts b_X1_lapseThoseDue_wsX10 hown hK hP 0 rfl rfl 9 (by decide) (hts _ k_X1_lapseThoseDue_4) rfl (.ref (a 13)) rfl dX1_lapseThoseDue_23 ?_
    refine lv_iload_n hx hb dX1_lapseThoseDue_26 rfl (lv_at hl 0 rfl) ?_
    refine z_iald hx hb hK hP 10 0 rfl rfl i rfl (by omega) rfl dX1_lapseThoseDue_27 ?_
    refine lv_iload_n hx hb dX1_lapseThoseDue_28 rfl (lv_at hl 2 rfl) ?_
    refine z_ri (va_runSN (As := [.int ((F_lapSt st tl so x1 i) i), .int (tl i), .int (so i), .int x1]) (rest := []) ⟨hx, hb, hml, hown, hts⟩ (c_X4_isLapseDue l D cI cJ cZ a H.size ((F_lapSt st tl so x1 i) i) (tl i) (so i) x1) ⟨va_cnB 4 hts gX1_lapseThoseDue_X4_isLapseDue_n99 rfl rfl rfl hE.2 (hts _ k_X1_lapseThoseDue_6) (by decide +kernel) ⟨Nat.le_of_ble_eq_true rfl, Nat.le_of_ble_eq_true rfl⟩, (hts _ k_X1_lapseThoseDue_5), trivial⟩ (z_ps hK zP_0 zD_0 zT_b zT_m) rfl rfl hl.1 rfl (lv_room (Nat.le_of_ble_eq_true rfl)) dX1_lapseThoseDue_29 ⟨Nat.le_of_ble_eq_true rfl, Nat.le_of_ble_eq_true rfl⟩) hP hS hA (fun r_2 _ H locs hr_2 hP hS => ?_)
    subst hr_2
    refine lv_if_eq (tgt := 40) hx hb dX1_lapseThoseDue_32 (by decide) (fun c_3 => ?_) (fun c_3 => ?_)
    · refine lv_iinc (v := nI (i + 1)) (lv' := [(2, .int (nI (i + 1))), (0, .ref (a 3)), (1, .int x1)]) hx hb dX1_lapseThoseDue_40 hl (k := 0) rfl (z_inc1 i) (by decide) rfl (fun ls hl => ?_)
      refine lv_goto (tgt := 2) hx hb dX1_lapseThoseDue_43 (by decide) ?_
      have e_wst : F_lapSt st tl so x1 (i + 1) = F_lapSt st tl so x1 i := by first | with_reducible rfl | (simp only [F_lapSt, F_lapSv, if_neg c_1, if_pos c_3]; done) | (simp +decide only [F_lapSt, F_lapSv, f_1, if_neg c_1, if_pos c_3]; done) | (simp [F_lapSt, F_lapSv, c_1, c_3, f_1]; done) | (simp +decide [F_lapSt, F_lapSv, c_1, c_3, f_1]; done)
      have e_wsv : F_lapSv st sv tl so x1 (i + 1) = F_lapSv st sv tl so x1 i := by first | with_reducible rfl | (simp only [F_lapSt, F_lapSv, if_neg c_1, if_pos c_3]; done) | (simp +decide only [F_lapSt, F_lapSv, f_1, if_neg c_1, if_pos c_3]; done) | (simp [F_lapSt, F_lapSv, c_1, c_3, f_1]; done) | (simp +decide [F_lapSt, F_lapSv, c_1, c_3, f_1]; done)
      have hP : va_P D vwCl (wFi cI cJ cZ a ld sl bd pw dt (F_lapSt st tl so x1 (i + 1)) uc (F_lapSv st sv tl so x1 (i + 1)) tl so lm n nd) H := by rw [e_wst, e_wsv]; exact hP
      have hl : lv_has ls 3 [(2, .int (nI (i + 1))), (0, .ref (a 3)), (1, .int x1)] := lv_sub hl [0, 1, 2] rfl
      exact ih H locs ls (by omega) trivial hP hS hl
    · refine lv_aload_n hx hb dX1_lapseThoseDue_35 rfl (lv_at hl 1 rfl) ?_
      refine lv_iload_n hx hb dX1_lapseThoseDue_36 rfl (lv_at hl 0 rfl) ?_
      refine z_cv (pre := ([] : va_W)) (wc := (wFi cI cJ cZ a ld sl bd pw dt (F_lapSt st tl so x1 i) uc (F_lapSv st sv tl so x1 i) tl so lm n nd)) (suf := ([] : va_W)) (w1 := fun _ => (wFi cI cJ cZ a ld sl bd pw dt (upd (F_lapSt st tl so x1 i) i 4) uc (upd (F_lapSv st sv tl so x1 i) i (-1)) tl so lm n nd)) (va_runV (As := [.int (nI i)]) (rest := []) ⟨hx, hb, hml, hown, hts⟩ (c_X1_lapse l D cI cJ cZ a H.size ld sl bd pw dt (F_lapSt st tl so x1 i) uc (F_lapSv st sv tl so x1 i) tl so lm n nd (nI i) i rfl (by omega)) (cwV 1 hts gX1_lapseThoseDue_X1_lapse rfl rfl rfl (by decide +kernel) ⟨Nat.le_of_ble_eq_true rfl, Nat.le_of_ble_eq_true rfl⟩) (z_pv hK hP hD (q0 := 0) (ci := 1) rfl rfl zT_b zT_m) rfl rfl hl.1 rfl (lv_room (Nat.le_of_ble_eq_true rfl)) dX1_lapseThoseDue_37 ⟨Nat.le_of_ble_eq_true rfl, Nat.le_of_ble_eq_true rfl⟩) hP hD hS hA (fun _ => rfl) (fun _ H locs hr_4 hP hD hS => ?_)
      refine lv_iinc (v := nI (i + 1)) (lv' := [(2, .int (nI (i + 1))), (0, .ref (a 3)), (1, .int x1)]) hx hb dX1_lapseThoseDue_40 hl (k := 0) rfl (z_inc1 i) (by decide) rfl (fun ls hl => ?_)
      refine lv_goto (tgt := 2) hx hb dX1_lapseThoseDue_43 (by decide) ?_
      have e_wst : F_lapSt st tl so x1 (i + 1) = upd (F_lapSt st tl so x1 i) i 4 := by first | with_reducible rfl | (simp only [F_lapSt, F_lapSv, if_neg c_1, if_neg c_3]; done) | (simp +decide only [F_lapSt, F_lapSv, f_1, if_neg c_1, if_neg c_3]; done) | (simp [F_lapSt, F_lapSv, c_1, c_3, f_1]; done) | (simp +decide [F_lapSt, F_lapSv, c_1, c_3, f_1]; done)
      have e_wsv : F_lapSv st sv tl so x1 (i + 1) = upd (F_lapSv st sv tl so x1 i) i (-1) := by first | with_reducible rfl | (simp only [F_lapSt, F_lapSv, if_neg c_1, if_neg c_3]; done) | (simp +decide only [F_lapSt, F_lapSv, f_1, if_neg c_1, if_neg c_3]; done) | (simp [F_lapSt, F_lapSv, c_1, c_3, f_1]; done) | (simp +decide [F_lapSt, F_lapSv, c_1, c_3, f_1]; done)
      have hP : va_P D vwCl (wFi cI cJ cZ a ld sl bd pw dt (F_lapSt st tl so x1 (i + 1)) uc (F_lapSv st sv tl so x1 (i + 1)) tl so lm n nd) H := by rw [e_wst, e_wsv]; exact hP
      have hl : lv_has ls 3 [(2, .int (nI (i + 1))), (0, .ref (a 3)), (1, .int x1)] := lv_sub hl [0, 1, 2] rfl
      exact ih H locs ls (by omega) trivial hP hS hl
theorem k_X1_add_1 : (Cond.fieldLink RX1 46 "Orbitregister$Filings" "count" "I") ∈ wsX1_add := List.mem_of_getElem? (i := 1) rfl
theorem b_X1_add_wsX10 : ∀ w ∈ wsX10, w ∈ wsX1_add := fun _ h => List.mem_cons_of_mem _ (List.mem_append_right _ h)
theorem k_X1_add_2 : (Cond.fieldLink RX1 9 "Orbitregister$Filings" "land" "[I") ∈ wsX1_add := List.mem_of_getElem? (i := 2) rfl
theorem k_X1_add_3 : (Cond.fieldLink RX1 15 "Orbitregister$Filings" "slot" "[I") ∈ wsX1_add := List.mem_of_getElem? (i := 3) rfl
theorem k_X1_add_4 : (Cond.fieldLink RX1 18 "Orbitregister$Filings" "band" "[I") ∈ wsX1_add := List.mem_of_getElem? (i := 4) rfl
theorem k_X1_add_5 : (Cond.fieldLink RX1 21 "Orbitregister$Filings" "power" "[I") ∈ wsX1_add := List.mem_of_getElem? (i := 5) rfl
theorem k_X1_add_6 : (Cond.fieldLink RX1 27 "Orbitregister$Filings" "state" "[I") ∈ wsX1_add := List.mem_of_getElem? (i := 6) rfl
theorem k_X1_add_7 : (Cond.fieldLink RX1 34 "Orbitregister$Filings" "server" "[I") ∈ wsX1_add := List.mem_of_getElem? (i := 7) rfl
theorem k_X1_add_8 : (Cond.fieldLink RX1 37 "Orbitregister$Filings" "toldOn" "[I") ∈ wsX1_add := List.mem_of_getElem? (i := 8) rfl
set_option maxHeartbeats 4000000 in
set_option maxRecDepth 100000 in
theorem c_X1_add (l : Launch) (D : va_G) (cI cJ cZ : ClassId) (a : Nat → Nat) (sz : Nat) (ld : A32) (sl : A32) (bd : A32) (pw : A32) (dt : A32) (st : A32) (uc : A32) (sv : A32) (tl : A32) (so : A32) (lm : A32) (n : Nat) (nd : Int32) (x1 : Int32) (x2 : Int32) (x3 : Int32) (x4 : Int32) (x5 : Int32) (hn : n < 40) : Met l yX1_add wsX1_add ({ frames := 1, cells := 0, slots := 0, locals := 23 }) (va_Pc [.ref (a 3), .int x1, .int x2, .int x3, .int x4, .int x5] (ZP D (zt cI cJ cZ) (wFi cI cJ cZ a ld sl bd pw dt st uc sv tl so lm n nd) sz zT)) (va_Qi (fun (r : Int32) (_ : Unit) => r = nI n) (fun _ t => va_P D vwCl (wFi cI cJ cZ a (upd ld n x1) (upd sl n x2) (upd bd n x3) (upd pw n x4) (upd dt n nd) (upd st n 0) uc (upd sv n (-1)) (upd tl n x5) so (F_lim lm n n) (n + 1) (nd + 1)) t.heap) (va_A (wFi cI cJ cZ a ld sl bd pw dt st uc sv tl so lm n nd) sz)) 0 0 (va_A (wFi cI cJ cZ a ld sl bd pw dt st uc sv tl so lm n nd) sz) := by
  refine Met.ofW (cc := cX1_add) (maxL := 8) (ret := (some .int)) (by decide) rfl ?_
  intro p e s m args below meth c s₁ B hml hv
  obtain ⟨rfl, hsz, hP, hK, hD0, hE⟩ := hv
  have hx := B.exec
  have hb := B.bytes
  have hr := B.returns
  have hts := atoms_spec (ws := wsX1_add) B.pre
  have hown : s.vm.findClass RX1 = some m.cls := findClass_of_methodNamed B.named
  have hlocks := B.notSynchronized
  subst hsz
  have hD := hD0.self (sz := s.heap.size)
  generalize hAe : va_A (wFi cI cJ cZ a ld sl bd pw dt st uc sv tl so lm n nd) s.heap.size = A at hD ⊢
  have hA : ∀ q : Nat, s.heap.size ≤ q → A q := fun q h => by rw [← hAe]; exact Or.inr h
  have hS : va_S A s.heap s.heap [] := va_S.rf
  have hl := lv_entry ([.ref (a 3), .int x1, .int x2, .int x3, .int x4, .int x5]) (n := 8) (Nat.le_of_ble_eq_true rfl)
  rw [lg_entry_eq]
  generalize (lg_sl ([.ref (a 3), .int x1, .int x2, .int x3, .int x4, .int x5]) ++ List.replicate (8 - (lg_sl ([.ref (a 3), .int x1, .int x2, .int x3, .int x4, .int x5])).length) Slot.unset).toArray = ls at hl ⊢
  have hl : lv_has ls 8 [(0, .ref (a 3)), (1, .int x1), (2, .int x2), (3, .int x3), (4, .int x4), (5, .int x5)] := hl
  have hP : va_P D vwCl (wFi cI cJ cZ a ld sl bd pw dt st uc sv tl so lm n nd) s.heap := hP
  refine lv_aload_n hx hb dX1_add_0 rfl (lv_at hl 0 rfl) ?_
  refine z_get (ci := 1) (C := RX1) (T := TX1) (N := 13) hx hb hts b_X1_add_wsX10 hown hK hP 0 rfl rfl 11 (by decide) (hts _ k_X1_add_1) rfl (.int (nI n)) rfl dX1_add_1 ?_
  refine lv_istore (lv' := [(6, .int (nI n)), (0, .ref (a 3)), (1, .int x1), (2, .int x2), (3, .int x3), (4, .int x4), (5, .int x5)]) hx hb dX1_add_4 hl (by decide) rfl (fun ls hl => ?_)
  refine lv_aload_n hx hb dX1_add_6 rfl (lv_at hl 1 rfl) ?_
  refine lv_dup hx hb dX1_add_7 rfl ?_
  refine z_get (ci := 1) (C := RX1) (T := TX1) (N := 13) hx hb hts b_X1_add_wsX10 hown hK hP 0 rfl rfl 11 (by decide) (hts _ k_X1_add_1) rfl (.int (nI n)) rfl dX1_add_8 ?_
  refine lv_iconst (v := 1) hx hb dX1_add_11 (by decide) ?_
  refine lv_iadd hx hb dX1_add_12 ?_
  rw [show (nI n) + 1 = nI (n + 1) from (z_iadd rfl (by decide))]
  refine z_put (ci := 1) (C := RX1) (T := TX1) (N := 13) hx hb hts b_X1_add_wsX10 tyX1 tyX1_ok nmX1 hown hK hP hD hS 0 rfl rfl 11 (by decide) (hts _ k_X1_add_1) rfl rfl (by decide +kernel) (Nat.le_of_ble_eq_true rfl) dX1_add_13 (wFi cI cJ cZ a ld sl bd pw dt st uc sv tl so lm (n + 1) nd) rfl (fun H locs hP hD hS => ?_)
  refine lv_aload_n hx hb dX1_add_16 rfl (lv_at hl 1 rfl) ?_
  refine z_get (ci := 1) (C := RX1) (T := TX1) (N := 13) hx hb hts b_X1_add_wsX10 hown hK hP 0 rfl rfl 0 (by decide) (hts _ k_X1_add_2) rfl (.ref (a 4)) rfl dX1_add_17 ?_
  refine lv_iload hx hb dX1_add_20 (lv_at hl 0 rfl) ?_
  refine lv_iload_n hx hb dX1_add_22 rfl (lv_at hl 2 rfl) ?_
  refine z_iast hx hb hK hP hD hS 1 0 rfl rfl n rfl (by omega) rfl dX1_add_23 (wFi cI cJ cZ a (upd ld n x1) sl bd pw dt st uc sv tl so lm (n + 1) nd) rfl (fun H locs hP hD hS => ?_)
  refine lv_aload_n hx hb dX1_add_24 rfl (lv_at hl 1 rfl) ?_
  refine z_get (ci := 1) (C := RX1) (T := TX1) (N := 13) hx hb hts b_X1_add_wsX10 hown hK hP 0 rfl rfl 1 (by decide) (hts _ k_X1_add_3) rfl (.ref (a 5)) rfl dX1_add_25 ?_
  refine lv_iload hx hb dX1_add_28 (lv_at hl 0 rfl) ?_
  refine lv_iload_n hx hb dX1_add_30 rfl (lv_at hl 3 rfl) ?_
  refine z_iast hx hb hK hP hD hS 2 0 rfl rfl n rfl (by omega) rfl dX1_add_31 (wFi cI cJ cZ a (upd ld n x1) (upd sl n x2) bd pw dt st uc sv tl so lm (n + 1) nd) rfl (fun H locs hP hD hS => ?_)
  refine lv_aload_n hx hb dX1_add_32 rfl (lv_at hl 1 rfl) ?_
  refine z_get (ci := 1) (C := RX1) (T := TX1) (N := 13) hx hb hts b_X1_add_wsX10 hown hK hP 0 rfl rfl 2 (by decide) (hts _ k_X1_add_4) rfl (.ref (a 6)) rfl dX1_add_33 ?_
  refine lv_iload hx hb dX1_add_36 (lv_at hl 0 rfl) ?_
  refine lv_iload_n hx hb dX1_add_38 rfl (lv_at hl 4 rfl) ?_
  refine z_iast hx hb hK hP hD hS 3 0 rfl rfl n rfl (by omega) rfl dX1_add_39 (wFi cI cJ cZ a (upd ld n x1) (upd sl n x2) (upd bd n x3) pw dt st uc sv tl so lm (n + 1) nd) rfl (fun H locs hP hD hS => ?_)
  refine lv_aload_n hx hb dX1_add_40 rfl (lv_at hl 1 rfl) ?_
  refine z_get (ci := 1) (C := RX1) (T := TX1) (N := 13) hx hb hts b_X1_add_wsX10 hown hK hP 0 rfl rfl 3 (by decide) (hts _ k_X1_add_5) rfl (.ref (a 7)) rfl dX1_add_41 ?_
  refine lv_iload hx hb dX1_add_44 (lv_at hl 0 rfl) ?_
  refine lv_iload hx hb dX1_add_46 (lv_at hl 5 rfl) ?_
  refine z_iast hx hb hK hP hD hS 4 0 rfl rfl n rfl (by omega) rfl dX1_add_48 (wFi cI cJ cZ a (upd ld n x1) (upd sl n x2) (upd bd n x3) (upd pw n x4) dt st uc sv tl so lm (n + 1) nd) rfl (fun H locs hP hD hS => ?_)
  refine lv_aload_n hx hb dX1_add_49 rfl (lv_at hl 1 rfl) ?_
  refine z_get (ci := 1) (C := RX1) (T := TX1) (N := 13) hx hb hts b_X1_add_wsX10 hown hK hP 0 rfl rfl 5 (by decide) (hts _ k_X1_add_6) rfl (.ref (a 9)) rfl dX1_add_50 ?_
  refine lv_iload hx hb dX1_add_53 (lv_at hl 0 rfl) ?_
  refine lv_iconst (v := 0) hx hb dX1_add_55 (by decide) ?_
  refine z_iast hx hb hK hP hD hS 6 0 rfl rfl n rfl (by omega) rfl dX1_add_56 (wFi cI cJ cZ a (upd ld n x1) (upd sl n x2) (upd bd n x3) (upd pw n x4) dt (upd st n 0) uc sv tl so lm (n + 1) nd) rfl (fun H locs hP hD hS => ?_)
  refine lv_aload_n hx hb dX1_add_57 rfl (lv_at hl 1 rfl) ?_
  refine z_get (ci := 1) (C := RX1) (T := TX1) (N := 13) hx hb hts b_X1_add_wsX10 hown hK hP 0 rfl rfl 7 (by decide) (hts _ k_X1_add_7) rfl (.ref (a 11)) rfl dX1_add_58 ?_
  refine lv_iload hx hb dX1_add_61 (lv_at hl 0 rfl) ?_
  refine lv_iconst (v := (-1)) hx hb dX1_add_63 (by decide) ?_
  refine z_iast hx hb hK hP hD hS 8 0 rfl rfl n rfl (by omega) rfl dX1_add_64 (wFi cI cJ cZ a (upd ld n x1) (upd sl n x2) (upd bd n x3) (upd pw n x4) dt (upd st n 0) uc (upd sv n (-1)) tl so lm (n + 1) nd) rfl (fun H locs hP hD hS => ?_)
  refine lv_aload_n hx hb dX1_add_65 rfl (lv_at hl 1 rfl) ?_
  refine z_get (ci := 1) (C := RX1) (T := TX1) (N := 13) hx hb hts b_X1_add_wsX10 hown hK hP 0 rfl rfl 8 (by decide) (hts _ k_X1_add_8) rfl (.ref (a 12)) rfl dX1_add_66 ?_
  refine lv_iload hx hb dX1_add_69 (lv_at hl 0 rfl) ?_
  refine lv_iload hx hb dX1_add_71 (lv_at hl 6 rfl) ?_
  refine z_iast hx hb hK hP hD hS 9 0 rfl rfl n rfl (by omega) rfl dX1_add_73 (wFi cI cJ cZ a (upd ld n x1) (upd sl n x2) (upd bd n x3) (upd pw n x4) dt (upd st n 0) uc (upd sv n (-1)) (upd tl n x5) so lm (n + 1) nd) rfl (fun H locs hP hD hS => ?_)
  refine lv_aload_n hx hb dX1_add_74 rfl (lv_at hl 1 rfl) ?_
  refine lv_iload hx hb dX1_add_75 (lv_at hl 0 rfl) ?_
  refine z_cv (pre := ([] : va_W)) (wc := (wFi cI cJ cZ a (upd ld n x1) (upd sl n x2) (upd bd n x3) (upd pw n x4) dt (upd st n 0) uc (upd sv n (-1)) (upd tl n x5) so lm (n + 1) nd)) (suf := ([] : va_W)) (w1 := fun _ => (wFi cI cJ cZ a (upd ld n x1) (upd sl n x2) (upd bd n x3) (upd pw n x4) (upd dt n nd) (upd st n 0) uc (upd sv n (-1)) (upd tl n x5) so lm (n + 1) (nd + 1))) (va_runV (As := [.int (nI n)]) (rest := []) ⟨hx, hb, hml, hown, hts⟩ (c_X1_renewDate l D cI cJ cZ a H.size (upd ld n x1) (upd sl n x2) (upd bd n x3) (upd pw n x4) dt (upd st n 0) uc (upd sv n (-1)) (upd tl n x5) so lm (n + 1) nd (nI n) n rfl (by omega)) (cwV 1 hts gX1_add_X1_renewDate rfl rfl rfl (by decide +kernel) ⟨Nat.le_of_ble_eq_true rfl, Nat.le_of_ble_eq_true rfl⟩) (z_pv hK hP hD (q0 := 0) (ci := 1) rfl rfl zT_b zT_m) rfl rfl hl.1 rfl (lv_room (Nat.le_of_ble_eq_true rfl)) dX1_add_77 ⟨Nat.le_of_ble_eq_true rfl, Nat.le_of_ble_eq_true rfl⟩) hP hD hS hA (fun _ => rfl) (fun _ H locs hr_1 hP hD hS => ?_)
  refine lv_iconst (v := 0) hx hb dX1_add_80 (by decide) ?_
  refine lv_istore (lv' := [(7, .int 0), (6, .int (nI n)), (0, .ref (a 3)), (1, .int x1), (2, .int x2), (3, .int x3), (4, .int x4), (5, .int x5)]) hx hb dX1_add_81 hl (by decide) rfl (fun ls hl => ?_)
  have e_wlm : F_lim lm n 0 = lm := by first | rfl | exact nI_0
  have hP : va_P D vwCl (wFi cI cJ cZ a (upd ld n x1) (upd sl n x2) (upd bd n x3) (upd pw n x4) (upd dt n nd) (upd st n 0) uc (upd sv n (-1)) (upd tl n x5) so (F_lim lm n 0) (n + 1) (nd + 1)) H := by rw [e_wlm]; exact hP
  have e_l7 : (nI 0) = 0 := by first | rfl | exact nI_0
  have hl : lv_has ls 8 [(7, .int (nI 0)), (6, .int (nI n)), (0, .ref (a 3)), (1, .int x1), (2, .int x2), (3, .int x3), (4, .int x4), (5, .int x5)] := by rw [e_l7]; exact lv_sub hl [0, 1, 2, 3, 4, 5, 6, 7] rfl
  refine z_loop (D := D) (A := A) (H0 := s.heap) (N := n) (Wf := fun i => (wFi cI cJ cZ a (upd ld n x1) (upd sl n x2) (upd bd n x3) (upd pw n x4) (upd dt n nd) (upd st n 0) uc (upd sv n (-1)) (upd tl n x5) so (F_lim lm n i) (n + 1) (nd + 1))) (lvf := fun i => [(7, .int (nI i)), (6, .int (nI n)), (0, .ref (a 3)), (1, .int x1), (2, .int x2), (3, .int x3), (4, .int x4), (5, .int x5)]) (Inv := fun i => True) 0 (by omega) trivial hP hS hl (fun i hi hinv H locs ls hP hS hl ih => ?_)
  have hP : va_P D vwCl (wFi cI cJ cZ a (upd ld n x1) (upd sl n x2) (upd bd n x3) (upd pw n x4) (upd dt n nd) (upd st n 0) uc (upd sv n (-1)) (upd tl n x5) so (F_lim lm n i) (n + 1) (nd + 1)) H := hP
  have hD : va_D A (wFi cI cJ cZ a (upd ld n x1) (upd sl n x2) (upd bd n x3) (upd pw n x4) (upd dt n nd) (upd st n 0) uc (upd sv n (-1)) (upd tl n x5) so (F_lim lm n i) (n + 1) (nd + 1)) := zD_congr (w1 := (wFi cI cJ cZ a (upd ld n x1) (upd sl n x2) (upd bd n x3) (upd pw n x4) (upd dt n nd) (upd st n 0) uc (upd sv n (-1)) (upd tl n x5) so lm (n + 1) (nd + 1))) rfl hD
  have hl : lv_has ls 8 [(7, .int (nI i)), (6, .int (nI n)), (0, .ref (a 3)), (1, .int x1), (2, .int x2), (3, .int x3), (4, .int x4), (5, .int x5)] := hl
  have hinv : True := hinv
  refine lv_iload hx hb dX1_add_83 (lv_at hl 0 rfl) ?_
  refine lv_iload hx hb dX1_add_85 (lv_at hl 1 rfl) ?_
  refine lv_icmp_ge (tgt := 106) hx hb dX1_add_87 (by decide) (fun c_2 => ?_) (fun c_2 => ?_)
  · have f_2 := z_leN (a := n) (b := i) c_2 rfl rfl (by omega) (by omega)
    obtain rfl : n = i := by omega
    refine lv_iload hx hb dX1_add_106 (lv_at hl 1 rfl) ?_
    exact W.iret (v := nI n) hx hb hr (fun t ht hW => ⟨⟨nI n, (), rfl, rfl, (z_at ht hP)⟩, hS.F ht⟩) hS.2.2 dX1_add_108
  · have f_2 := z_nleN (a := n) (b := i) c_2 rfl rfl (by omega) (by omega)
    refine lv_aload_n hx hb dX1_add_90 rfl (lv_at hl 2 rfl) ?_
    refine lv_iload hx hb dX1_add_91 (lv_at hl 1 rfl) ?_
    refine lv_iload hx hb dX1_add_93 (lv_at hl 0 rfl) ?_
    refine lv_bipush (v := 20) hx hb dX1_add_95 (by decide) ?_
    refine z_cv (pre := ([] : va_W)) (wc := (wFi cI cJ cZ a (upd ld n x1) (upd sl n x2) (upd bd n x3) (upd pw n x4) (upd dt n nd) (upd st n 0) uc (upd sv n (-1)) (upd tl n x5) so (F_lim lm n i) (n + 1) (nd + 1))) (suf := ([] : va_W)) (w1 := fun _ => (wFi cI cJ cZ a (upd ld n x1) (upd sl n x2) (upd bd n x3) (upd pw n x4) (upd dt n nd) (upd st n 0) uc (upd sv n (-1)) (upd tl n x5) so (upd (upd (F_lim lm n i) (n * 40 + i) 20) (i * 40 + n) 20) (n + 1) (nd + 1))) (va_runV (As := [.int (nI n), .int (nI i), .int 20]) (rest := []) ⟨hx, hb, hml, hown, hts⟩ (c_X1_setLimitOfPair l D cI cJ cZ a H.size (upd ld n x1) (upd sl n x2) (upd bd n x3) (upd pw n x4) (upd dt n nd) (upd st n 0) uc (upd sv n (-1)) (upd tl n x5) so (F_lim lm n i) (n + 1) (nd + 1) (nI n) n rfl (by omega) (nI i) i rfl (by omega) 20) (cwV 3 hts gX1_add_X1_setLimitOfPair rfl rfl rfl (by decide +kernel) ⟨Nat.le_of_ble_eq_true rfl, Nat.le_of_ble_eq_true rfl⟩) (z_pv hK hP hD (q0 := 0) (ci := 1) rfl rfl zT_b zT_m) rfl rfl hl.1 rfl (lv_room (Nat.le_of_ble_eq_true rfl)) dX1_add_97 ⟨Nat.le_of_ble_eq_true rfl, Nat.le_of_ble_eq_true rfl⟩) hP hD hS hA (fun _ => rfl) (fun _ H locs hr_3 hP hD hS => ?_)
    refine lv_iinc (v := nI (i + 1)) (lv' := [(7, .int (nI (i + 1))), (6, .int (nI n)), (0, .ref (a 3)), (1, .int x1), (2, .int x2), (3, .int x3), (4, .int x4), (5, .int x5)]) hx hb dX1_add_100 hl (k := 0) rfl (z_inc1 i) (by decide) rfl (fun ls hl => ?_)
    refine lv_goto (tgt := 83) hx hb dX1_add_103 (by decide) ?_
    have e_wlm : F_lim lm n (i + 1) = upd (upd (F_lim lm n i) (n * 40 + i) 20) (i * 40 + n) 20 := by first | with_reducible rfl | (simp only [F_lim, if_neg c_2]; done) | (simp +decide only [F_lim, f_2, if_neg c_2]; done) | (simp [F_lim, c_2, f_2]; done) | (simp +decide [F_lim, c_2, f_2]; done)
    have hP : va_P D vwCl (wFi cI cJ cZ a (upd ld n x1) (upd sl n x2) (upd bd n x3) (upd pw n x4) (upd dt n nd) (upd st n 0) uc (upd sv n (-1)) (upd tl n x5) so (F_lim lm n (i + 1)) (n + 1) (nd + 1)) H := by rw [e_wlm]; exact hP
    have hl : lv_has ls 8 [(7, .int (nI (i + 1))), (6, .int (nI n)), (0, .ref (a 3)), (1, .int x1), (2, .int x2), (3, .int x3), (4, .int x4), (5, .int x5)] := lv_sub hl [0, 1, 2, 3, 4, 5, 6, 7] rfl
    exact ih H locs ls (by omega) trivial hP hS hl
