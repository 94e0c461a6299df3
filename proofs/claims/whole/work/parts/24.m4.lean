theorem k_X5_claim_1 : (Cond.constant RX5 153 (1000000)) ∈ wsX5_claim := List.mem_of_getElem? (i := 1) rfl
theorem k_X5_claim_3 : (Cond.fieldLink RX5 71 "OrbitregisterModel" "paid" "[J") ∈ wsX5_claim := List.mem_of_getElem? (i := 3) rfl
theorem b_X5_claim_wsX50 : ∀ w ∈ wsX50, w ∈ wsX5_claim := fun _ h => List.mem_cons_of_mem _ (List.mem_append_right _ h)
theorem k_X5_claim_2 : (Cond.fieldLink RX5 44 "OrbitregisterModel" "states" "[I") ∈ wsX5_claim := List.mem_of_getElem? (i := 2) rfl
set_option maxHeartbeats 4000000 in
set_option maxRecDepth 100000 in
theorem c_X5_claim (l : Launch) (D : va_G) (cI cJ cZ : ClassId) (a : Nat → Nat) (sz : Nat) (th : Int32) (td : Int32) (nd : Int32) (n : Nat) (ld : A32) (sl : A32) (bd : A32) (pw : A32) (dt : A32) (st : A32) (uc : A32) (sv : A32) (tl : A32) (so : A32) (ag : A32) (ns : Nat) (ss : A32) (rg : A32) (hw : A32) (ax : A32) (fu : A32) (si : A32) (au : A32) (px : A32) (pg : A32) (py : A64) (x1 : Int32) (x2 : Int32) (x3 : Int32) (x4 : Int32) (hs : ns ≤ 16) (hmy : ∀ i, i < ns → ¬ G_many (ss i) 8 = 0) : Met l yX5_claim wsX5_claim ({ frames := 2, cells := 0, slots := 0, locals := 43 }) (va_Pc [.ref (a 30), .int x1, .int x2, .int x3, .int x4] (ZP D (zt cI cJ cZ) (wMo cI cJ cZ a th td nd n ld sl bd pw dt st uc sv tl so ag ns ss rg hw ax fu si au px pg py) sz zT)) (va_Qi (fun (r : Int32) (_ : Unit) => r = F_sel (E_claim x1 x2 ns) (F_ifI (G_cl x3 x4) 0 (G_many (ss (ix x1)) 8 * G_share (ss (ix x1)) x2)) 0) (fun _ t => va_P D vwCl (wMo cI cJ cZ a (nI (E_claim x1 x2 ns)) td nd n ld sl bd pw dt st uc sv tl so ag ns ss rg hw ax fu si au px pg (F_sel (E_claim x1 x2 ns) (F_if6 (G_cl x3 x4) py (G_pay (ss (ix x1)) (G_share (ss (ix x1)) x2) py 8)) py)) t.heap) (va_A (wMo cI cJ cZ a th td nd n ld sl bd pw dt st uc sv tl so ag ns ss rg hw ax fu si au px pg py) sz)) 0 0 (va_A (wMo cI cJ cZ a th td nd n ld sl bd pw dt st uc sv tl so ag ns ss rg hw ax fu si au px pg py) sz) := by
  refine Met.ofW (cc := cX5_claim) (maxL := 8) (ret := (some .int)) (by decide) rfl ?_
  intro p e s m args below meth c s₁ B hml hv
  obtain ⟨rfl, hsz, hP, hK, hD0, hE⟩ := hv
  have hx := B.exec
  have hb := B.bytes
  have hr := B.returns
  have hts := atoms_spec (ws := wsX5_claim) B.pre
  have hown : s.vm.findClass RX5 = some m.cls := findClass_of_methodNamed B.named
  have hlocks := B.notSynchronized
  subst hsz
  have hD := hD0.self (sz := s.heap.size)
  generalize hAe : va_A (wMo cI cJ cZ a th td nd n ld sl bd pw dt st uc sv tl so ag ns ss rg hw ax fu si au px pg py) s.heap.size = A at hD ⊢
  have hA : ∀ q : Nat, s.heap.size ≤ q → A q := fun q h => by rw [← hAe]; exact Or.inr h
  have hS : va_S A s.heap s.heap [] := va_S.rf
  have hl := lv_entry ([.ref (a 30), .int x1, .int x2, .int x3, .int x4]) (n := 8) (Nat.le_of_ble_eq_true rfl)
  rw [lg_entry_eq]
  generalize (lg_sl ([.ref (a 30), .int x1, .int x2, .int x3, .int x4]) ++ List.replicate (8 - (lg_sl ([.ref (a 30), .int x1, .int x2, .int x3, .int x4])).length) Slot.unset).toArray = ls at hl ⊢
  have hl : lv_has ls 8 [(0, .ref (a 30)), (1, .int x1), (2, .int x2), (3, .int x3), (4, .int x4)] := hl
  have hP : va_P D vwCl (wMo cI cJ cZ a th td nd n ld sl bd pw dt st uc sv tl so ag ns ss rg hw ax fu si au px pg py) s.heap := hP
  refine lv_aload_n hx hb dX5_claim_0 rfl (lv_at hl 0 rfl) ?_
  refine lv_aload_n hx hb dX5_claim_1 rfl (lv_at hl 0 rfl) ?_
  refine lv_iload_n hx hb dX5_claim_2 rfl (lv_at hl 1 rfl) ?_
  refine z_ri (va_runV (As := [.int x1]) (rest := [.ref (a 30)]) ⟨hx, hb, hml, hown, hts⟩ (c_X5_isSatellite l D cI cJ cZ a s.heap.size th td nd n ld sl bd pw dt st uc sv tl so ag ns ss rg hw ax fu si au px pg py x1) (cwV 1 hts gX5_claim_X5_isSatellite rfl rfl rfl (by decide +kernel) ⟨Nat.le_of_ble_eq_true rfl, Nat.le_of_ble_eq_true rfl⟩) (z_pv hK hP hD (q0 := 0) (ci := 5) rfl rfl zT_b zT_m) rfl rfl hl.1 rfl (lv_room (Nat.le_of_ble_eq_true rfl)) dX5_claim_3 ⟨Nat.le_of_ble_eq_true rfl, Nat.le_of_ble_eq_true rfl⟩) hP hS hA (fun r_1 _ H locs hr_1 hP hS => ?_)
  subst hr_1
  refine lv_if_ne (tgt := 13) hx hb dX5_claim_6 (by decide) (fun c_2 => ?_) (fun c_2 => ?_)
  · obtain ⟨g_x1, g_x1b⟩ := F_in_ix c_2 (by omega)
    refine lv_iload_n hx hb dX5_claim_13 rfl (lv_at hl 2 rfl) ?_
    refine lv_iconst (v := 1) hx hb dX5_claim_14 (by decide) ?_
    refine lv_ldc (v := 1000000) hx hb hown (hts _ k_X5_claim_1) dX5_claim_15 ?_
    refine z_ri (va_runS (As := [.int x2, .int 1, .int 1000000]) (rest := [.ref (a 30)]) ⟨hx, hb, hml, hown, hts⟩ (c_X5_in l D cI cJ cZ a H.size x2 1 1000000) (va_cwS 3 hts gX5_claim_X5_in rfl rfl rfl (by decide +kernel) ⟨Nat.le_of_ble_eq_true rfl, Nat.le_of_ble_eq_true rfl⟩) (z_ps hK zP_0 zD_0 zT_b zT_m) rfl rfl hl.1 rfl (lv_room (Nat.le_of_ble_eq_true rfl)) dX5_claim_17 ⟨Nat.le_of_ble_eq_true rfl, Nat.le_of_ble_eq_true rfl⟩) hP hS hA (fun r_3 _ H locs hr_3 hP hS => ?_)
    subst hr_3
    refine lv_if_ne (tgt := 27) hx hb dX5_claim_20 (by decide) (fun c_4 => ?_) (fun c_4 => ?_)
    · refine lv_iconst (v := 0) hx hb dX5_claim_27 (by decide) ?_
      refine z_ci (pre := ([] : va_W)) (wc := (wMo cI cJ cZ a th td nd n ld sl bd pw dt st uc sv tl so ag ns ss rg hw ax fu si au px pg py)) (suf := ([] : va_W)) (w1 := fun _ => (wMo cI cJ cZ a 0 td nd n ld sl bd pw dt st uc sv tl so ag ns ss rg hw ax fu si au px pg py)) (va_runV (As := [.int 0]) (rest := []) ⟨hx, hb, hml, hown, hts⟩ (c_X5_refused l D cI cJ cZ a H.size th td nd n ld sl bd pw dt st uc sv tl so ag ns ss rg hw ax fu si au px pg py 0) (cwV 1 hts gX5_claim_X5_refused rfl rfl rfl (by decide +kernel) ⟨Nat.le_of_ble_eq_true rfl, Nat.le_of_ble_eq_true rfl⟩) (z_pv hK hP hD (q0 := 0) (ci := 5) rfl rfl zT_b zT_m) rfl rfl hl.1 rfl (lv_room (Nat.le_of_ble_eq_true rfl)) dX5_claim_28 ⟨Nat.le_of_ble_eq_true rfl, Nat.le_of_ble_eq_true rfl⟩) hP hD hS hA (fun _ => rfl) (fun r_5 _ H locs hr_5 hP hD hS => ?_)
      subst hr_5
      refine W.eq (g2 := F0 m 31 ls [.int 0]) rfl ?_
      refine lv_if_eq (tgt := 36) hx hb dX5_claim_31 (by decide) (fun _ => ?_) (fun c9 => absurd (by decide) c9)
      refine lv_iload_n hx hb dX5_claim_36 rfl (lv_at hl 3 rfl) ?_
      refine lv_if_ne (tgt := 47) hx hb dX5_claim_37 (by decide) (fun c_6 => ?_) (fun c_6 => ?_)
      · refine lv_iconst (v := 0) hx hb dX5_claim_47 (by decide) ?_
        refine lv_istore (lv' := [(5, .int 0), (0, .ref (a 30)), (1, .int x1), (2, .int x2), (3, .int x3), (4, .int x4)]) hx hb dX5_claim_48 hl (by decide) rfl (fun ls hl => ?_)
        refine lv_iconst (v := 0) hx hb dX5_claim_50 (by decide) ?_
        refine lv_istore (lv' := [(6, .int 0), (5, .int 0), (0, .ref (a 30)), (1, .int x1), (2, .int x2), (3, .int x3), (4, .int x4)]) hx hb dX5_claim_51 hl (by decide) rfl (fun ls hl => ?_)
        have e_l5 : (G_many (ss (ix x1)) 0) = 0 := by first | rfl | exact nI_0
        have e_l6 : (nI 0) = 0 := by first | rfl | exact nI_0
        have hl : lv_has ls 8 [(5, .int (G_many (ss (ix x1)) 0)), (6, .int (nI 0)), (0, .ref (a 30)), (1, .int x1), (2, .int x2)] := by rw [e_l5, e_l6]; exact lv_sub hl [1, 0, 2, 3, 4] rfl
        refine z_loop (D := D) (A := A) (H0 := s.heap) (N := 8) (Wf := fun i => (wMo cI cJ cZ a 0 td nd n ld sl bd pw dt st uc sv tl so ag ns ss rg hw ax fu si au px pg py)) (lvf := fun i => [(5, .int (G_many (ss (ix x1)) i)), (6, .int (nI i)), (0, .ref (a 30)), (1, .int x1), (2, .int x2)]) (Inv := fun i => True) 0 (by omega) trivial hP hS hl (fun i hi hinv H locs ls hP hS hl ih => ?_)
        have hP : va_P D vwCl (wMo cI cJ cZ a 0 td nd n ld sl bd pw dt st uc sv tl so ag ns ss rg hw ax fu si au px pg py) H := hP
        have hD : va_D A (wMo cI cJ cZ a 0 td nd n ld sl bd pw dt st uc sv tl so ag ns ss rg hw ax fu si au px pg py) := zD_congr (w1 := (wMo cI cJ cZ a 0 td nd n ld sl bd pw dt st uc sv tl so ag ns ss rg hw ax fu si au px pg py)) rfl hD
        have hl : lv_has ls 8 [(5, .int (G_many (ss (ix x1)) i)), (6, .int (nI i)), (0, .ref (a 30)), (1, .int x1), (2, .int x2)] := hl
        have hinv : True := hinv
        refine lv_iload hx hb dX5_claim_53 (lv_at hl 1 rfl) ?_
        refine lv_bipush (v := 8) hx hb dX5_claim_55 (by decide) ?_
        refine lv_icmp_ge (tgt := 82) hx hb dX5_claim_57 (by decide) (fun c_7 => ?_) (fun c_7 => ?_)
        · have f_7 := z_leN (a := 8) (b := i) c_7 (by decide) rfl (by omega) (by omega)
          have f_7n := Nat.not_lt.mpr f_7
          obtain rfl : 8 = i := by omega
          refine lv_iload_n hx hb dX5_claim_82 rfl (lv_at hl 4 rfl) ?_
          refine lv_iload hx hb dX5_claim_83 (lv_at hl 0 rfl) ?_
          refine lv_iadd hx hb dX5_claim_85 ?_
          refine lv_iconst (v := 1) hx hb dX5_claim_86 (by decide) ?_
          refine lv_isub hx hb dX5_claim_87 ?_
          refine lv_iload hx hb dX5_claim_88 (lv_at hl 0 rfl) ?_
          refine lv_idiv hx hb dX5_claim_90 (hmy (ix x1) g_x1b) ?_
          refine W.eq (g2 := F0 m 91 ls [.int (G_share (ss (ix x1)) x2)]) rfl ?_
          refine lv_istore (lv' := [(6, .int (G_share (ss (ix x1)) x2)), (5, .int (G_many (ss (ix x1)) 8)), (0, .ref (a 30)), (1, .int x1), (2, .int x2)]) hx hb dX5_claim_91 hl (by decide) rfl (fun ls hl => ?_)
          refine lv_iconst (v := 0) hx hb dX5_claim_93 (by decide) ?_
          refine lv_istore (lv' := [(7, .int 0), (6, .int (G_share (ss (ix x1)) x2)), (5, .int (G_many (ss (ix x1)) 8)), (0, .ref (a 30)), (1, .int x1), (2, .int x2)]) hx hb dX5_claim_94 hl (by decide) rfl (fun ls hl => ?_)
          have e_wpy : G_pay (ss (ix x1)) (G_share (ss (ix x1)) x2) py 0 = py := by first | rfl | exact nI_0
          have hP : va_P D vwCl (wMo cI cJ cZ a 0 td nd n ld sl bd pw dt st uc sv tl so ag ns ss rg hw ax fu si au px pg (G_pay (ss (ix x1)) (G_share (ss (ix x1)) x2) py 0)) H := by rw [e_wpy]; exact hP
          have e_l7 : (nI 0) = 0 := by first | rfl | exact nI_0
          have hl : lv_has ls 8 [(7, .int (nI 0)), (6, .int (G_share (ss (ix x1)) x2)), (5, .int (G_many (ss (ix x1)) 8)), (0, .ref (a 30)), (1, .int x1)] := by rw [e_l7]; exact lv_sub hl [0, 1, 2, 3, 4] rfl
          refine z_loop (D := D) (A := A) (H0 := s.heap) (N := 8) (Wf := fun i => (wMo cI cJ cZ a 0 td nd n ld sl bd pw dt st uc sv tl so ag ns ss rg hw ax fu si au px pg (G_pay (ss (ix x1)) (G_share (ss (ix x1)) x2) py i))) (lvf := fun i => [(7, .int (nI i)), (6, .int (G_share (ss (ix x1)) x2)), (5, .int (G_many (ss (ix x1)) 8)), (0, .ref (a 30)), (1, .int x1)]) (Inv := fun i => True) 0 (by omega) trivial hP hS hl (fun i hi hinv H locs ls hP hS hl ih => ?_)
          have hP : va_P D vwCl (wMo cI cJ cZ a 0 td nd n ld sl bd pw dt st uc sv tl so ag ns ss rg hw ax fu si au px pg (G_pay (ss (ix x1)) (G_share (ss (ix x1)) x2) py i)) H := hP
          have hD : va_D A (wMo cI cJ cZ a 0 td nd n ld sl bd pw dt st uc sv tl so ag ns ss rg hw ax fu si au px pg (G_pay (ss (ix x1)) (G_share (ss (ix x1)) x2) py i)) := zD_congr (w1 := (wMo cI cJ cZ a 0 td nd n ld sl bd pw dt st uc sv tl so ag ns ss rg hw ax fu si au px pg py)) rfl hD
          have hl : lv_has ls 8 [(7, .int (nI i)), (6, .int (G_share (ss (ix x1)) x2)), (5, .int (G_many (ss (ix x1)) 8)), (0, .ref (a 30)), (1, .int x1)] := hl
          have hinv : True := hinv
          refine lv_iload hx hb dX5_claim_96 (lv_at hl 0 rfl) ?_
          refine lv_bipush (v := 8) hx hb dX5_claim_98 (by decide) ?_
          refine lv_icmp_ge (tgt := 141) hx hb dX5_claim_100 (by decide) (fun c_8 => ?_) (fun c_8 => ?_)
          · have f_8 := z_leN (a := 8) (b := i) c_8 (by decide) rfl (by omega) (by omega)
            have f_8n := Nat.not_lt.mpr f_8
            obtain rfl : 8 = i := by omega
            refine lv_iload hx hb dX5_claim_141 (lv_at hl 2 rfl) ?_
            refine lv_iload hx hb dX5_claim_143 (lv_at hl 1 rfl) ?_
            refine lv_imul hx hb dX5_claim_145 ?_
            have e_wth : nI (E_claim x1 x2 ns) = 0 := by exact (congrArg nI (by first | with_reducible rfl | (simp only [E_claim, F_sel, G_cl, F_ifI, F_if6, if_neg c_2, if_neg c_4, if_neg c_6, if_pos c_7, if_pos f_7, if_neg f_7n, if_pos c_8, if_pos f_8, if_neg f_8n]; done) | (simp +decide only [E_claim, F_sel, G_cl, F_ifI, F_if6, f_7, f_8, if_neg c_2, if_neg c_4, if_neg c_6, if_pos c_7, if_pos f_7, if_neg f_7n, if_pos c_8, if_pos f_8, if_neg f_8n]; done) | (simp [E_claim, F_sel, G_cl, F_ifI, F_if6, c_2, c_4, c_6, c_7, f_7, f_7n, c_8, f_8, f_8n, f_7, f_8]; done) | (simp +decide [E_claim, F_sel, G_cl, F_ifI, F_if6, c_2, c_4, c_6, c_7, f_7, f_7n, c_8, f_8, f_8n, f_7, f_8]; done) : E_claim x1 x2 ns = 0)).trans (by decide)
            have e_wpy : F_sel (E_claim x1 x2 ns) (F_if6 (G_cl x3 x4) py (G_pay (ss (ix x1)) (G_share (ss (ix x1)) x2) py 8)) py = G_pay (ss (ix x1)) (G_share (ss (ix x1)) x2) py 8 := by rw [show (E_claim x1 x2 ns) = 0 from (by first | with_reducible rfl | (simp only [E_claim, F_sel, G_cl, F_ifI, F_if6, if_neg c_2, if_neg c_4, if_neg c_6, if_pos c_7, if_pos f_7, if_neg f_7n, if_pos c_8, if_pos f_8, if_neg f_8n]; done) | (simp +decide only [E_claim, F_sel, G_cl, F_ifI, F_if6, f_7, f_8, if_neg c_2, if_neg c_4, if_neg c_6, if_pos c_7, if_pos f_7, if_neg f_7n, if_pos c_8, if_pos f_8, if_neg f_8n]; done) | (simp [E_claim, F_sel, G_cl, F_ifI, F_if6, c_2, c_4, c_6, c_7, f_7, f_7n, c_8, f_8, f_8n, f_7, f_8]; done) | (simp +decide [E_claim, F_sel, G_cl, F_ifI, F_if6, c_2, c_4, c_6, c_7, f_7, f_7n, c_8, f_8, f_8n, f_7, f_8]; done)), F_sel_0]; first | done | (first | with_reducible rfl | (simp only [E_claim, F_sel, G_cl, F_ifI, F_if6, if_neg c_2, if_neg c_4, if_neg c_6, if_pos c_7, if_pos f_7, if_neg f_7n, if_pos c_8, if_pos f_8, if_neg f_8n]; done) | (simp +decide only [E_claim, F_sel, G_cl, F_ifI, F_if6, f_7, f_8, if_neg c_2, if_neg c_4, if_neg c_6, if_pos c_7, if_pos f_7, if_neg f_7n, if_pos c_8, if_pos f_8, if_neg f_8n]; done) | (simp [E_claim, F_sel, G_cl, F_ifI, F_if6, c_2, c_4, c_6, c_7, f_7, f_7n, c_8, f_8, f_8n, f_7, f_8]; done) | (simp +decide [E_claim, F_sel, G_cl, F_ifI, F_if6, c_2, c_4, c_6, c_7, f_7, f_7n, c_8, f_8, f_8n, f_7, f_8]; done))
            have hP : va_P D vwCl (wMo cI cJ cZ a (nI (E_claim x1 x2 ns)) td nd n ld sl bd pw dt st uc sv tl so ag ns ss rg hw ax fu si au px pg (F_sel (E_claim x1 x2 ns) (F_if6 (G_cl x3 x4) py (G_pay (ss (ix x1)) (G_share (ss (ix x1)) x2) py 8)) py)) H := by rw [e_wth, e_wpy]; exact hP
            exact W.iret (v := (G_many (ss (ix x1)) 8) * (G_share (ss (ix x1)) x2)) hx hb hr (fun t ht hW => ⟨⟨(G_many (ss (ix x1)) 8) * (G_share (ss (ix x1)) x2), (), rfl, (Eq.symm (by rw [show (E_claim x1 x2 ns) = 0 from (by first | with_reducible rfl | (simp only [E_claim, F_sel, G_cl, F_ifI, F_if6, if_neg c_2, if_neg c_4, if_neg c_6, if_pos c_7, if_pos f_7, if_neg f_7n, if_pos c_8, if_pos f_8, if_neg f_8n]; done) | (simp +decide only [E_claim, F_sel, G_cl, F_ifI, F_if6, f_7, f_8, if_neg c_2, if_neg c_4, if_neg c_6, if_pos c_7, if_pos f_7, if_neg f_7n, if_pos c_8, if_pos f_8, if_neg f_8n]; done) | (simp [E_claim, F_sel, G_cl, F_ifI, F_if6, c_2, c_4, c_6, c_7, f_7, f_7n, c_8, f_8, f_8n, f_7, f_8]; done) | (simp +decide [E_claim, F_sel, G_cl, F_ifI, F_if6, c_2, c_4, c_6, c_7, f_7, f_7n, c_8, f_8, f_8n, f_7, f_8]; done)), F_sel_0]; first | done | (first | with_reducible rfl | (simp only [E_claim, F_sel, G_cl, F_ifI, F_if6, if_neg c_2, if_neg c_4, if_neg c_6, if_pos c_7, if_pos f_7, if_neg f_7n, if_pos c_8, if_pos f_8, if_neg f_8n]; done) | (simp +decide only [E_claim, F_sel, G_cl, F_ifI, F_if6, f_7, f_8, if_neg c_2, if_neg c_4, if_neg c_6, if_pos c_7, if_pos f_7, if_neg f_7n, if_pos c_8, if_pos f_8, if_neg f_8n]; done) | (simp [E_claim, F_sel, G_cl, F_ifI, F_if6, c_2, c_4, c_6, c_7, f_7, f_7n, c_8, f_8, f_8n, f_7, f_8]; done) | (simp +decide [E_claim, F_sel, G_cl, F_ifI, F_if6, c_2, c_4, c_6, c_7, f_7, f_7n, c_8, f_8, f_8n, f_7, f_8]; done)) : F_sel (E_claim x1 x2 ns) (F_ifI (G_cl x3 x4) 0 (G_many (ss (ix x1)) 8 * G_share (ss (ix x1)) x2)) 0 = (G_many (ss (ix x1)) 8) * (G_share (ss (ix x1)) x2))), (z_at ht hP)⟩, hS.F ht⟩) hS.2.2 dX5_claim_146
          · have f_8 := z_nleN (a := 8) (b := i) c_8 (by decide) rfl (by omega) (by omega)
            have f_8n := Nat.not_le.mpr f_8
            refine lv_aload_n hx hb dX5_claim_103 rfl (lv_at hl 3 rfl) ?_
            refine z_get (ci := 5) (C := RX5) (T := TX5) (N := 26) hx hb hts b_X5_claim_wsX50 hown hK hP 0 rfl rfl 25 (by decide) (hts _ k_X5_claim_3) rfl (.ref (a 51)) rfl dX5_claim_104 ?_
            refine lv_iload hx hb dX5_claim_107 (lv_at hl 0 rfl) ?_
            refine lv_dup2_11 hx hb dX5_claim_109 rfl rfl ?_
            refine z_lald hx hb hK hP 21 1 rfl rfl i rfl (by omega) rfl dX5_claim_110 ?_
            refine lv_aload_n hx hb dX5_claim_111 rfl (lv_at hl 3 rfl) ?_
            refine z_get (ci := 5) (C := RX5) (T := TX5) (N := 26) hx hb hts b_X5_claim_wsX50 hown hK hP 0 rfl rfl 16 (by decide) (hts _ k_X5_claim_2) rfl (.ref (a 42)) rfl dX5_claim_112 ?_
            refine lv_iload_n hx hb dX5_claim_115 rfl (lv_at hl 4 rfl) ?_
            refine z_iald hx hb hK hP 12 0 rfl rfl (ix x1) g_x1 (by omega) rfl dX5_claim_116 ?_
            refine lv_iload hx hb dX5_claim_117 (lv_at hl 0 rfl) ?_
            refine lv_ishr hx hb dX5_claim_119 ?_
            refine lv_iconst (v := 1) hx hb dX5_claim_120 (by decide) ?_
            refine lv_iand hx hb dX5_claim_121 ?_
            refine lv_iconst (v := 1) hx hb dX5_claim_122 (by decide) ?_
            refine lv_icmp_ne (tgt := 132) hx hb dX5_claim_123 (by decide) (fun c_9 => ?_) (fun c_9 => ?_)
            · refine lv_lconst (v := 0) hx hb dX5_claim_132 rfl ?_
              refine lv_ladd hx hb dX5_claim_133 ?_
              refine z_last hx hb hK hP hD hS 21 1 rfl rfl i rfl (by omega) rfl dX5_claim_134 (wMo cI cJ cZ a 0 td nd n ld sl bd pw dt st uc sv tl so ag ns ss rg hw ax fu si au px pg (vp_updL (G_pay (ss (ix x1)) (G_share (ss (ix x1)) x2) py i) i (((G_pay (ss (ix x1)) (G_share (ss (ix x1)) x2) py i) i) + 0))) rfl (fun H locs hP hD hS => ?_)
              refine lv_iinc (v := nI (i + 1)) (lv' := [(7, .int (nI (i + 1))), (6, .int (G_share (ss (ix x1)) x2)), (5, .int (G_many (ss (ix x1)) 8)), (0, .ref (a 30)), (1, .int x1)]) hx hb dX5_claim_135 hl (k := 0) rfl (z_inc1 i) (by decide) rfl (fun ls hl => ?_)
              refine lv_goto (tgt := 96) hx hb dX5_claim_138 (by decide) ?_
              have e_wpy : G_pay (ss (ix x1)) (G_share (ss (ix x1)) x2) py (i + 1) = (vp_updL (G_pay (ss (ix x1)) (G_share (ss (ix x1)) x2) py i) i (((G_pay (ss (ix x1)) (G_share (ss (ix x1)) x2) py i) i) + 0)) := by first | with_reducible rfl | (simp only [E_claim, F_sel, G_cl, F_ifI, F_if6, G_pay, if_neg c_2, if_neg c_4, if_neg c_6, if_pos c_7, if_pos f_7, if_neg f_7n, if_neg c_8, if_pos f_8, if_neg f_8n, if_neg c_9]; done) | (simp +decide only [E_claim, F_sel, G_cl, F_ifI, F_if6, G_pay, f_7, f_8, if_neg c_2, if_neg c_4, if_neg c_6, if_pos c_7, if_pos f_7, if_neg f_7n, if_neg c_8, if_pos f_8, if_neg f_8n, if_neg c_9]; done) | (simp [E_claim, F_sel, G_cl, F_ifI, F_if6, G_pay, c_2, c_4, c_6, c_7, f_7, f_7n, c_8, f_8, f_8n, c_9, f_7, f_8]; done) | (simp +decide [E_claim, F_sel, G_cl, F_ifI, F_if6, G_pay, c_2, c_4, c_6, c_7, f_7, f_7n, c_8, f_8, f_8n, c_9, f_7, f_8]; done)
              have hP : va_P D vwCl (wMo cI cJ cZ a 0 td nd n ld sl bd pw dt st uc sv tl so ag ns ss rg hw ax fu si au px pg (G_pay (ss (ix x1)) (G_share (ss (ix x1)) x2) py (i + 1))) H := by rw [e_wpy]; exact hP
              have hl : lv_has ls 8 [(7, .int (nI (i + 1))), (6, .int (G_share (ss (ix x1)) x2)), (5, .int (G_many (ss (ix x1)) 8)), (0, .ref (a 30)), (1, .int x1)] := lv_sub hl [0, 1, 2, 3, 4] rfl
              exact ih H locs ls (by omega) trivial hP hS hl
            · refine lv_iload hx hb dX5_claim_126 (lv_at hl 1 rfl) ?_
              refine lv_i2l (v := (G_share (ss (ix x1)) x2).toInt64) hx hb dX5_claim_128 rfl ?_
              refine lv_goto (tgt := 133) hx hb dX5_claim_129 (by decide) ?_
              refine lv_ladd hx hb dX5_claim_133 ?_
              refine z_last hx hb hK hP hD hS 21 1 rfl rfl i rfl (by omega) rfl dX5_claim_134 (wMo cI cJ cZ a 0 td nd n ld sl bd pw dt st uc sv tl so ag ns ss rg hw ax fu si au px pg (vp_updL (G_pay (ss (ix x1)) (G_share (ss (ix x1)) x2) py i) i (((G_pay (ss (ix x1)) (G_share (ss (ix x1)) x2) py i) i) + ((G_share (ss (ix x1)) x2).toInt64)))) rfl (fun H locs hP hD hS => ?_)
              refine lv_iinc (v := nI (i + 1)) (lv' := [(7, .int (nI (i + 1))), (6, .int (G_share (ss (ix x1)) x2)), (5, .int (G_many (ss (ix x1)) 8)), (0, .ref (a 30)), (1, .int x1)]) hx hb dX5_claim_135 hl (k := 0) rfl (z_inc1 i) (by decide) rfl (fun ls hl => ?_)
              refine lv_goto (tgt := 96) hx hb dX5_claim_138 (by decide) ?_
              have e_wpy : G_pay (ss (ix x1)) (G_share (ss (ix x1)) x2) py (i + 1) = (vp_updL (G_pay (ss (ix x1)) (G_share (ss (ix x1)) x2) py i) i (((G_pay (ss (ix x1)) (G_share (ss (ix x1)) x2) py i) i) + ((G_share (ss (ix x1)) x2).toInt64))) := by first | with_reducible rfl | (simp only [E_claim, F_sel, G_cl, F_ifI, F_if6, G_pay, if_neg c_2, if_neg c_4, if_neg c_6, if_pos c_7, if_pos f_7, if_neg f_7n, if_neg c_8, if_pos f_8, if_neg f_8n, if_pos c_9]; done) | (simp +decide only [E_claim, F_sel, G_cl, F_ifI, F_if6, G_pay, f_7, f_8, if_neg c_2, if_neg c_4, if_neg c_6, if_pos c_7, if_pos f_7, if_neg f_7n, if_neg c_8, if_pos f_8, if_neg f_8n, if_pos c_9]; done) | (simp [E_claim, F_sel, G_cl, F_ifI, F_if6, G_pay, c_2, c_4, c_6, c_7, f_7, f_7n, c_8, f_8, f_8n, c_9, f_7, f_8]; done) | (simp +decide [E_claim, F_sel, G_cl, F_ifI, F_if6, G_pay, c_2, c_4, c_6, c_7, f_7, f_7n, c_8, f_8, f_8n, c_9, f_7, f_8]; done)
              have hP : va_P D vwCl (wMo cI cJ cZ a 0 td nd n ld sl bd pw dt st uc sv tl so ag ns ss rg hw ax fu si au px pg (G_pay (ss (ix x1)) (G_share (ss (ix x1)) x2) py (i + 1))) H := by rw [e_wpy]; exact hP
              have hl : lv_has ls 8 [(7, .int (nI (i + 1))), (6, .int (G_share (ss (ix x1)) x2)), (5, .int (G_many (ss (ix x1)) 8)), (0, .ref (a 30)), (1, .int x1)] := lv_sub hl [0, 1, 2, 3, 4] rfl
              exact ih H locs ls (by omega) trivial hP hS hl
        · have f_7 := z_nleN (a := 8) (b := i) c_7 (by decide) rfl (by omega) (by omega)
          have f_7n := Nat.not_le.mpr f_7
          refine lv_iload hx hb dX5_claim_60 (lv_at hl 0 rfl) ?_
          refine lv_aload_n hx hb dX5_claim_62 rfl (lv_at hl 2 rfl) ?_
          refine z_get (ci := 5) (C := RX5) (T := TX5) (N := 26) hx hb hts b_X5_claim_wsX50 hown hK hP 0 rfl rfl 16 (by decide) (hts _ k_X5_claim_2) rfl (.ref (a 42)) rfl dX5_claim_63 ?_
          refine lv_iload_n hx hb dX5_claim_66 rfl (lv_at hl 3 rfl) ?_
          refine z_iald hx hb hK hP 12 0 rfl rfl (ix x1) g_x1 (by omega) rfl dX5_claim_67 ?_
          refine lv_iload hx hb dX5_claim_68 (lv_at hl 1 rfl) ?_
          refine lv_ishr hx hb dX5_claim_70 ?_
          refine lv_iconst (v := 1) hx hb dX5_claim_71 (by decide) ?_
          refine lv_iand hx hb dX5_claim_72 ?_
          refine lv_iadd hx hb dX5_claim_73 ?_
          refine lv_istore (lv' := [(5, .int ((G_many (ss (ix x1)) i) + (((ss (ix x1)) >>> ((nI i) &&& 31)) &&& 1))), (6, .int (nI i)), (0, .ref (a 30)), (1, .int x1), (2, .int x2)]) hx hb dX5_claim_74 hl (by decide) rfl (fun ls hl => ?_)
          refine lv_iinc (v := nI (i + 1)) (lv' := [(6, .int (nI (i + 1))), (5, .int ((G_many (ss (ix x1)) i) + (((ss (ix x1)) >>> ((nI i) &&& 31)) &&& 1))), (0, .ref (a 30)), (1, .int x1), (2, .int x2)]) hx hb dX5_claim_76 hl (k := 1) rfl (z_inc1 i) (by decide) rfl (fun ls hl => ?_)
          refine lv_goto (tgt := 53) hx hb dX5_claim_79 (by decide) ?_
          have e_l5 : (G_many (ss (ix x1)) (i + 1)) = (G_many (ss (ix x1)) i) + (((ss (ix x1)) >>> ((nI i) &&& 31)) &&& 1) := by first | with_reducible rfl | (simp only [E_claim, F_sel, G_cl, F_ifI, F_if6, G_many, if_neg c_2, if_neg c_4, if_neg c_6, if_neg c_7, if_pos f_7, if_neg f_7n]; done) | (simp +decide only [E_claim, F_sel, G_cl, F_ifI, F_if6, G_many, f_7, if_neg c_2, if_neg c_4, if_neg c_6, if_neg c_7, if_pos f_7, if_neg f_7n]; done) | (simp [E_claim, F_sel, G_cl, F_ifI, F_if6, G_many, c_2, c_4, c_6, c_7, f_7, f_7n, f_7]; done) | (simp +decide [E_claim, F_sel, G_cl, F_ifI, F_if6, G_many, c_2, c_4, c_6, c_7, f_7, f_7n, f_7]; done)
          have hl : lv_has ls 8 [(5, .int (G_many (ss (ix x1)) (i + 1))), (6, .int (nI (i + 1))), (0, .ref (a 30)), (1, .int x1), (2, .int x2)] := by rw [e_l5]; exact lv_sub hl [1, 0, 2, 3, 4] rfl
          exact ih H locs ls (by omega) trivial hP hS hl
      · refine lv_iload hx hb dX5_claim_40 (lv_at hl 4 rfl) ?_
        refine lv_if_ne (tgt := 47) hx hb dX5_claim_42 (by decide) (fun c_10 => ?_) (fun c_10 => ?_)
        · refine lv_iconst (v := 0) hx hb dX5_claim_47 (by decide) ?_
          refine lv_istore (lv' := [(5, .int 0), (0, .ref (a 30)), (1, .int x1), (2, .int x2), (3, .int x3), (4, .int x4)]) hx hb dX5_claim_48 hl (by decide) rfl (fun ls hl => ?_)
          refine lv_iconst (v := 0) hx hb dX5_claim_50 (by decide) ?_
          refine lv_istore (lv' := [(6, .int 0), (5, .int 0), (0, .ref (a 30)), (1, .int x1), (2, .int x2), (3, .int x3), (4, .int x4)]) hx hb dX5_claim_51 hl (by decide) rfl (fun ls hl => ?_)
          have e_l5 : (G_many (ss (ix x1)) 0) = 0 := by first | rfl | exact nI_0
          have e_l6 : (nI 0) = 0 := by first | rfl | exact nI_0
          have hl : lv_has ls 8 [(5, .int (G_many (ss (ix x1)) 0)), (6, .int (nI 0)), (0, .ref (a 30)), (1, .int x1), (2, .int x2)] := by rw [e_l5, e_l6]; exact lv_sub hl [1, 0, 2, 3, 4] rfl
          refine z_loop (D := D) (A := A) (H0 := s.heap) (N := 8) (Wf := fun i => (wMo cI cJ cZ a 0 td nd n ld sl bd pw dt st uc sv tl so ag ns ss rg hw ax fu si au px pg py)) (lvf := fun i => [(5, .int (G_many (ss (ix x1)) i)), (6, .int (nI i)), (0, .ref (a 30)), (1, .int x1), (2, .int x2)]) (Inv := fun i => True) 0 (by omega) trivial hP hS hl (fun i hi hinv H locs ls hP hS hl ih => ?_)
          have hP : va_P D vwCl (wMo cI cJ cZ a 0 td nd n ld sl bd pw dt st uc sv tl so ag ns ss rg hw ax fu si au px pg py) H := hP
          have hD : va_D A (wMo cI cJ cZ a 0 td nd n ld sl bd pw dt st uc sv tl so ag ns ss rg hw ax fu si au px pg py) := zD_congr (w1 := (wMo cI cJ cZ a 0 td nd n ld sl bd pw dt st uc sv tl so ag ns ss rg hw ax fu si au px pg py)) rfl hD
          have hl : lv_has ls 8 [(5, .int (G_many (ss (ix x1)) i)), (6, .int (nI i)), (0, .ref (a 30)), (1, .int x1), (2, .int x2)] := hl
          have hinv : True := hinv
          refine lv_iload hx hb dX5_claim_53 (lv_at hl 1 rfl) ?_
          refine lv_bipush (v := 8) hx hb dX5_claim_55 (by decide) ?_
          refine lv_icmp_ge (tgt := 82) hx hb dX5_claim_57 (by decide) (fun c_11 => ?_) (fun c_11 => ?_)
          · have f_11 := z_leN (a := 8) (b := i) c_11 (by decide) rfl (by omega) (by omega)
            have f_11n := Nat.not_lt.mpr f_11
            obtain rfl : 8 = i := by omega
            refine lv_iload_n hx hb dX5_claim_82 rfl (lv_at hl 4 rfl) ?_
            refine lv_iload hx hb dX5_claim_83 (lv_at hl 0 rfl) ?_
            refine lv_iadd hx hb dX5_claim_85 ?_
            refine lv_iconst (v := 1) hx hb dX5_claim_86 (by decide) ?_
            refine lv_isub hx hb dX5_claim_87 ?_
            refine lv_iload hx hb dX5_claim_88 (lv_at hl 0 rfl) ?_
            refine lv_idiv hx hb dX5_claim_90 (hmy (ix x1) g_x1b) ?_
            refine W.eq (g2 := F0 m 91 ls [.int (G_share (ss (ix x1)) x2)]) rfl ?_
            refine lv_istore (lv' := [(6, .int (G_share (ss (ix x1)) x2)), (5, .int (G_many (ss (ix x1)) 8)), (0, .ref (a 30)), (1, .int x1), (2, .int x2)]) hx hb dX5_claim_91 hl (by decide) rfl (fun ls hl => ?_)
            refine lv_iconst (v := 0) hx hb dX5_claim_93 (by decide) ?_
            refine lv_istore (lv' := [(7, .int 0), (6, .int (G_share (ss (ix x1)) x2)), (5, .int (G_many (ss (ix x1)) 8)), (0, .ref (a 30)), (1, .int x1), (2, .int x2)]) hx hb dX5_claim_94 hl (by decide) rfl (fun ls hl => ?_)
            have e_wpy : G_pay (ss (ix x1)) (G_share (ss (ix x1)) x2) py 0 = py := by first | rfl | exact nI_0
            have hP : va_P D vwCl (wMo cI cJ cZ a 0 td nd n ld sl bd pw dt st uc sv tl so ag ns ss rg hw ax fu si au px pg (G_pay (ss (ix x1)) (G_share (ss (ix x1)) x2) py 0)) H := by rw [e_wpy]; exact hP
            have e_l7 : (nI 0) = 0 := by first | rfl | exact nI_0
            have hl : lv_has ls 8 [(7, .int (nI 0)), (6, .int (G_share (ss (ix x1)) x2)), (5, .int (G_many (ss (ix x1)) 8)), (0, .ref (a 30)), (1, .int x1)] := by rw [e_l7]; exact lv_sub hl [0, 1, 2, 3, 4] rfl
            refine z_loop (D := D) (A := A) (H0 := s.heap) (N := 8) (Wf := fun i => (wMo cI cJ cZ a 0 td nd n ld sl bd pw dt st uc sv tl so ag ns ss rg hw ax fu si au px pg (G_pay (ss (ix x1)) (G_share (ss (ix x1)) x2) py i))) (lvf := fun i => [(7, .int (nI i)), (6, .int (G_share (ss (ix x1)) x2)), (5, .int (G_many (ss (ix x1)) 8)), (0, .ref (a 30)), (1, .int x1)]) (Inv := fun i => True) 0 (by omega) trivial hP hS hl (fun i hi hinv H locs ls hP hS hl ih => ?_)
            have hP : va_P D vwCl (wMo cI cJ cZ a 0 td nd n ld sl bd pw dt st uc sv tl so ag ns ss rg hw ax fu si au px pg (G_pay (ss (ix x1)) (G_share (ss (ix x1)) x2) py i)) H := hP
            have hD : va_D A (wMo cI cJ cZ a 0 td nd n ld sl bd pw dt st uc sv tl so ag ns ss rg hw ax fu si au px pg (G_pay (ss (ix x1)) (G_share (ss (ix x1)) x2) py i)) := zD_congr (w1 := (wMo cI cJ cZ a 0 td nd n ld sl bd pw dt st uc sv tl so ag ns ss rg hw ax fu si au px pg py)) rfl hD
            have hl : lv_has ls 8 [(7, .int (nI i)), (6, .int (G_share (ss (ix x1)) x2)), (5, .int (G_many (ss (ix x1)) 8)), (0, .ref (a 30)), (1, .int x1)] := hl
            have hinv : True := hinv
            refine lv_iload hx hb dX5_claim_96 (lv_at hl 0 rfl) ?_
            refine lv_bipush (v := 8) hx hb dX5_claim_98 (by decide) ?_
            refine lv_icmp_ge (tgt := 141) hx hb dX5_claim_100 (by decide) (fun c_12 => ?_) (fun c_12 => ?_)
            · have f_12 := z_leN (a := 8) (b := i) c_12 (by decide) rfl (by omega) (by omega)
              have f_12n := Nat.not_lt.mpr f_12
              obtain rfl : 8 = i := by omega
              refine lv_iload hx hb dX5_claim_141 (lv_at hl 2 rfl) ?_
              refine lv_iload hx hb dX5_claim_143 (lv_at hl 1 rfl) ?_
              refine lv_imul hx hb dX5_claim_145 ?_
              have e_wth : nI (E_claim x1 x2 ns) = 0 := by exact (congrArg nI (by first | with_reducible rfl | (simp only [E_claim, F_sel, G_cl, F_ifI, F_if6, if_neg c_2, if_neg c_4, if_pos c_6, if_neg c_10, if_pos c_11, if_pos f_11, if_neg f_11n, if_pos c_12, if_pos f_12, if_neg f_12n]; done) | (simp +decide only [E_claim, F_sel, G_cl, F_ifI, F_if6, f_11, f_12, if_neg c_2, if_neg c_4, if_pos c_6, if_neg c_10, if_pos c_11, if_pos f_11, if_neg f_11n, if_pos c_12, if_pos f_12, if_neg f_12n]; done) | (simp [E_claim, F_sel, G_cl, F_ifI, F_if6, c_2, c_4, c_6, c_10, c_11, f_11, f_11n, c_12, f_12, f_12n, f_11, f_12]; done) | (simp +decide [E_claim, F_sel, G_cl, F_ifI, F_if6, c_2, c_4, c_6, c_10, c_11, f_11, f_11n, c_12, f_12, f_12n, f_11, f_12]; done) : E_claim x1 x2 ns = 0)).trans (by decide)
              have e_wpy : F_sel (E_claim x1 x2 ns) (F_if6 (G_cl x3 x4) py (G_pay (ss (ix x1)) (G_share (ss (ix x1)) x2) py 8)) py = G_pay (ss (ix x1)) (G_share (ss (ix x1)) x2) py 8 := by rw [show (E_claim x1 x2 ns) = 0 from (by first | with_reducible rfl | (simp only [E_claim, F_sel, G_cl, F_ifI, F_if6, if_neg c_2, if_neg c_4, if_pos c_6, if_neg c_10, if_pos c_11, if_pos f_11, if_neg f_11n, if_pos c_12, if_pos f_12, if_neg f_12n]; done) | (simp +decide only [E_claim, F_sel, G_cl, F_ifI, F_if6, f_11, f_12, if_neg c_2, if_neg c_4, if_pos c_6, if_neg c_10, if_pos c_11, if_pos f_11, if_neg f_11n, if_pos c_12, if_pos f_12, if_neg f_12n]; done) | (simp [E_claim, F_sel, G_cl, F_ifI, F_if6, c_2, c_4, c_6, c_10, c_11, f_11, f_11n, c_12, f_12, f_12n, f_11, f_12]; done) | (simp +decide [E_claim, F_sel, G_cl, F_ifI, F_if6, c_2, c_4, c_6, c_10, c_11, f_11, f_11n, c_12, f_12, f_12n, f_11, f_12]; done)), F_sel_0]; first | done | (first | with_reducible rfl | (simp only [E_claim, F_sel, G_cl, F_ifI, F_if6, if_neg c_2, if_neg c_4, if_pos c_6, if_neg c_10, if_pos c_11, if_pos f_11, if_neg f_11n, if_pos c_12, if_pos f_12, if_neg f_12n]; done) | (simp +decide only [E_claim, F_sel, G_cl, F_ifI, F_if6, f_11, f_12, if_neg c_2, if_neg c_4, if_pos c_6, if_neg c_10, if_pos c_11, if_pos f_11, if_neg f_11n, if_pos c_12, if_pos f_12, if_neg f_12n]; done) | (simp [E_claim, F_sel, G_cl, F_ifI, F_if6, c_2, c_4, c_6, c_10, c_11, f_11, f_11n, c_12, f_12, f_12n, f_11, f_12]; done) | (simp +decide [E_claim, F_sel, G_cl, F_ifI, F_if6, c_2, c_4, c_6, c_10, c_11, f_11, f_11n, c_12, f_12, f_12n, f_11, f_12]; done))
              have hP : va_P D vwCl (wMo cI cJ cZ a (nI (E_claim x1 x2 ns)) td nd n ld sl bd pw dt st uc sv tl so ag ns ss rg hw ax fu si au px pg (F_sel (E_claim x1 x2 ns) (F_if6 (G_cl x3 x4) py (G_pay (ss (ix x1)) (G_share (ss (ix x1)) x2) py 8)) py)) H := by rw [e_wth, e_wpy]; exact hP
              exact W.iret (v := (G_many (ss (ix x1)) 8) * (G_share (ss (ix x1)) x2)) hx hb hr (fun t ht hW => ⟨⟨(G_many (ss (ix x1)) 8) * (G_share (ss (ix x1)) x2), (), rfl, (Eq.symm (by rw [show (E_claim x1 x2 ns) = 0 from (by first | with_reducible rfl | (simp only [E_claim, F_sel, G_cl, F_ifI, F_if6, if_neg c_2, if_neg c_4, if_pos c_6, if_neg c_10, if_pos c_11, if_pos f_11, if_neg f_11n, if_pos c_12, if_pos f_12, if_neg f_12n]; done) | (simp +decide only [E_claim, F_sel, G_cl, F_ifI, F_if6, f_11, f_12, if_neg c_2, if_neg c_4, if_pos c_6, if_neg c_10, if_pos c_11, if_pos f_11, if_neg f_11n, if_pos c_12, if_pos f_12, if_neg f_12n]; done) | (simp [E_claim, F_sel, G_cl, F_ifI, F_if6, c_2, c_4, c_6, c_10, c_11, f_11, f_11n, c_12, f_12, f_12n, f_11, f_12]; done) | (simp +decide [E_claim, F_sel, G_cl, F_ifI, F_if6, c_2, c_4, c_6, c_10, c_11, f_11, f_11n, c_12, f_12, f_12n, f_11, f_12]; done)), F_sel_0]; first | done | (first | with_reducible rfl | (simp only [E_claim, F_sel, G_cl, F_ifI, F_if6, if_neg c_2, if_neg c_4, if_pos c_6, if_neg c_10, if_pos c_11, if_pos f_11, if_neg f_11n, if_pos c_12, if_pos f_12, if_neg f_12n]; done) | (simp +decide only [E_claim, F_sel, G_cl, F_ifI, F_if6, f_11, f_12, if_neg c_2, if_neg c_4, if_pos c_6, if_neg c_10, if_pos c_11, if_pos f_11, if_neg f_11n, if_pos c_12, if_pos f_12, if_neg f_12n]; done) | (simp [E_claim, F_sel, G_cl, F_ifI, F_if6, c_2, c_4, c_6, c_10, c_11, f_11, f_11n, c_12, f_12, f_12n, f_11, f_12]; done) | (simp +decide [E_claim, F_sel, G_cl, F_ifI, F_if6, c_2, c_4, c_6, c_10, c_11, f_11, f_11n, c_12, f_12, f_12n, f_11, f_12]; done)) : F_sel (E_claim x1 x2 ns) (F_ifI (G_cl x3 x4) 0 (G_many (ss (ix x1)) 8 * G_share (ss (ix x1)) x2)) 0 = (G_many (ss (ix x1)) 8) * (G_share (ss (ix x1)) x2))), (z_at ht hP)⟩, hS.F ht⟩) hS.2.2 dX5_claim_146
            · have f_12 := z_nleN (a := 8) (b := i) c_12 (by decide) rfl (by omega) (by omega)
              have f_12n := Nat.not_le.mpr f_12
              refine lv_aload_n hx hb dX5_claim_103 rfl (lv_at hl 3 rfl) ?_
              refine z_get (ci := 5) (C := RX5) (T := TX5) (N := 26) hx hb hts b_X5_claim_wsX50 hown hK hP 0 rfl rfl 25 (by decide) (hts _ k_X5_claim_3) rfl (.ref (a 51)) rfl dX5_claim_104 ?_
              refine lv_iload hx hb dX5_claim_107 (lv_at hl 0 rfl) ?_
              refine lv_dup2_11 hx hb dX5_claim_109 rfl rfl ?_
              refine z_lald hx hb hK hP 21 1 rfl rfl i rfl (by omega) rfl dX5_claim_110 ?_
              refine lv_aload_n hx hb dX5_claim_111 rfl (lv_at hl 3 rfl) ?_
              refine z_get (ci := 5) (C := RX5) (T := TX5) (N := 26) hx hb hts b_X5_claim_wsX50 hown hK hP 0 rfl rfl 16 (by decide) (hts _ k_X5_claim_2) rfl (.ref (a 42)) rfl dX5_claim_112 ?_
              refine lv_iload_n hx hb dX5_claim_115 rfl (lv_at hl 4 rfl) ?_
              refine z_iald hx hb hK hP 12 0 rfl rfl (ix x1) g_x1 (by omega) rfl dX5_claim_116 ?_
              refine lv_iload hx hb dX5_claim_117 (lv_at hl 0 rfl) ?_
              refine lv_ishr hx hb dX5_claim_119 ?_
              refine lv_iconst (v := 1) hx hb dX5_claim_120 (by decide) ?_
              refine lv_iand hx hb dX5_claim_121 ?_
              refine lv_iconst (v := 1) hx hb dX5_claim_122 (by decide) ?_
              refine lv_icmp_ne (tgt := 132) hx hb dX5_claim_123 (by decide) (fun c_13 => ?_) (fun c_13 => ?_)
              · refine lv_lconst (v := 0) hx hb dX5_claim_132 rfl ?_
                refine lv_ladd hx hb dX5_claim_133 ?_
                refine z_last hx hb hK hP hD hS 21 1 rfl rfl i rfl (by omega) rfl dX5_claim_134 (wMo cI cJ cZ a 0 td nd n ld sl bd pw dt st uc sv tl so ag ns ss rg hw ax fu si au px pg (vp_updL (G_pay (ss (ix x1)) (G_share (ss (ix x1)) x2) py i) i (((G_pay (ss (ix x1)) (G_share (ss (ix x1)) x2) py i) i) + 0))) rfl (fun H locs hP hD hS => ?_)
                refine lv_iinc (v := nI (i + 1)) (lv' := [(7, .int (nI (i + 1))), (6, .int (G_share (ss (ix x1)) x2)), (5, .int (G_many (ss (ix x1)) 8)), (0, .ref (a 30)), (1, .int x1)]) hx hb dX5_claim_135 hl (k := 0) rfl (z_inc1 i) (by decide) rfl (fun ls hl => ?_)
                refine lv_goto (tgt := 96) hx hb dX5_claim_138 (by decide) ?_
                have e_wpy : G_pay (ss (ix x1)) (G_share (ss (ix x1)) x2) py (i + 1) = (vp_updL (G_pay (ss (ix x1)) (G_share (ss (ix x1)) x2) py i) i (((G_pay (ss (ix x1)) (G_share (ss (ix x1)) x2) py i) i) + 0)) := by first | with_reducible rfl | (simp only [E_claim, F_sel, G_cl, F_ifI, F_if6, G_pay, if_neg c_2, if_neg c_4, if_pos c_6, if_neg c_10, if_pos c_11, if_pos f_11, if_neg f_11n, if_neg c_12, if_pos f_12, if_neg f_12n, if_neg c_13]; done) | (simp +decide only [E_claim, F_sel, G_cl, F_ifI, F_if6, G_pay, f_11, f_12, if_neg c_2, if_neg c_4, if_pos c_6, if_neg c_10, if_pos c_11, if_pos f_11, if_neg f_11n, if_neg c_12, if_pos f_12, if_neg f_12n, if_neg c_13]; done) | (simp [E_claim, F_sel, G_cl, F_ifI, F_if6, G_pay, c_2, c_4, c_6, c_10, c_11, f_11, f_11n, c_12, f_12, f_12n, c_13, f_11, f_12]; done) | (simp +decide [E_claim, F_sel, G_cl, F_ifI, F_if6, G_pay, c_2, c_4, c_6, c_10, c_11, f_11, f_11n, c_12, f_12, f_12n, c_13, f_11, f_12]; done)
                have hP : va_P D vwCl (wMo cI cJ cZ a 0 td nd n ld sl bd pw dt st uc sv tl so ag ns ss rg hw ax fu si au px pg (G_pay (ss (ix x1)) (G_share (ss (ix x1)) x2) py (i + 1))) H := by rw [e_wpy]; exact hP
                have hl : lv_has ls 8 [(7, .int (nI (i + 1))), (6, .int (G_share (ss (ix x1)) x2)), (5, .int (G_many (ss (ix x1)) 8)), (0, .ref (a 30)), (1, .int x1)] := lv_sub hl [0, 1, 2, 3, 4] rfl
                exact ih H locs ls (by omega) trivial hP hS hl
              · refine lv_iload hx hb dX5_claim_126 (lv_at hl 1 rfl) ?_
                refine lv_i2l (v := (G_share (ss (ix x1)) x2).toInt64) hx hb dX5_claim_128 rfl ?_
                refine lv_goto (tgt := 133) hx hb dX5_claim_129 (by decide) ?_
                refine lv_ladd hx hb dX5_claim_133 ?_
                refine z_last hx hb hK hP hD hS 21 1 rfl rfl i rfl (by omega) rfl dX5_claim_134 (wMo cI cJ cZ a 0 td nd n ld sl bd pw dt st uc sv tl so ag ns ss rg hw ax fu si au px pg (vp_updL (G_pay (ss (ix x1)) (G_share (ss (ix x1)) x2) py i) i (((G_pay (ss (ix x1)) (G_share (ss (ix x1)) x2) py i) i) + ((G_share (ss (ix x1)) x2).toInt64)))) rfl (fun H locs hP hD hS => ?_)
                refine lv_iinc (v := nI (i + 1)) (lv' := [(7, .int (nI (i + 1))), (6, .int (G_share (ss (ix x1)) x2)), (5, .int (G_many (ss (ix x1)) 8)), (0, .ref (a 30)), (1, .int x1)]) hx hb dX5_claim_135 hl (k := 0) rfl (z_inc1 i) (by decide) rfl (fun ls hl => ?_)
                refine lv_goto (tgt := 96) hx hb dX5_claim_138 (by decide) ?_
                have e_wpy : G_pay (ss (ix x1)) (G_share (ss (ix x1)) x2) py (i + 1) = (vp_updL (G_pay (ss (ix x1)) (G_share (ss (ix x1)) x2) py i) i (((G_pay (ss (ix x1)) (G_share (ss (ix x1)) x2) py i) i) + ((G_share (ss (ix x1)) x2).toInt64))) := by first | with_reducible rfl | (simp only [E_claim, F_sel, G_cl, F_ifI, F_if6, G_pay, if_neg c_2, if_neg c_4, if_pos c_6, if_neg c_10, if_pos c_11, if_pos f_11, if_neg f_11n, if_neg c_12, if_pos f_12, if_neg f_12n, if_pos c_13]; done) | (simp +decide only [E_claim, F_sel, G_cl, F_ifI, F_if6, G_pay, f_11, f_12, if_neg c_2, if_neg c_4, if_pos c_6, if_neg c_10, if_pos c_11, if_pos f_11, if_neg f_11n, if_neg c_12, if_pos f_12, if_neg f_12n, if_pos c_13]; done) | (simp [E_claim, F_sel, G_cl, F_ifI, F_if6, G_pay, c_2, c_4, c_6, c_10, c_11, f_11, f_11n, c_12, f_12, f_12n, c_13, f_11, f_12]; done) | (simp +decide [E_claim, F_sel, G_cl, F_ifI, F_if6, G_pay, c_2, c_4, c_6, c_10, c_11, f_11, f_11n, c_12, f_12, f_12n, c_13, f_11, f_12]; done)
                have hP : va_P D vwCl (wMo cI cJ cZ a 0 td nd n ld sl bd pw dt st uc sv tl so ag ns ss rg hw ax fu si au px pg (G_pay (ss (ix x1)) (G_share (ss (ix x1)) x2) py (i + 1))) H := by rw [e_wpy]; exact hP
                have hl : lv_has ls 8 [(7, .int (nI (i + 1))), (6, .int (G_share (ss (ix x1)) x2)), (5, .int (G_many (ss (ix x1)) 8)), (0, .ref (a 30)), (1, .int x1)] := lv_sub hl [0, 1, 2, 3, 4] rfl
                exact ih H locs ls (by omega) trivial hP hS hl
          · have f_11 := z_nleN (a := 8) (b := i) c_11 (by decide) rfl (by omega) (by omega)
            have f_11n := Nat.not_le.mpr f_11
            refine lv_iload hx hb dX5_claim_60 (lv_at hl 0 rfl) ?_
            refine lv_aload_n hx hb dX5_claim_62 rfl (lv_at hl 2 rfl) ?_
            refine z_get (ci := 5) (C := RX5) (T := TX5) (N := 26) hx hb hts b_X5_claim_wsX50 hown hK hP 0 rfl rfl 16 (by decide) (hts _ k_X5_claim_2) rfl (.ref (a 42)) rfl dX5_claim_63 ?_
            refine lv_iload_n hx hb dX5_claim_66 rfl (lv_at hl 3 rfl) ?_
            refine z_iald hx hb hK hP 12 0 rfl rfl (ix x1) g_x1 (by omega) rfl dX5_claim_67 ?_
            refine lv_iload hx hb dX5_claim_68 (lv_at hl 1 rfl) ?_
            refine lv_ishr hx hb dX5_claim_70 ?_
            refine lv_iconst (v := 1) hx hb dX5_claim_71 (by decide) ?_
            refine lv_iand hx hb dX5_claim_72 ?_
            refine lv_iadd hx hb dX5_claim_73 ?_
            refine lv_istore (lv' := [(5, .int ((G_many (ss (ix x1)) i) + (((ss (ix x1)) >>> ((nI i) &&& 31)) &&& 1))), (6, .int (nI i)), (0, .ref (a 30)), (1, .int x1), (2, .int x2)]) hx hb dX5_claim_74 hl (by decide) rfl (fun ls hl => ?_)
            refine lv_iinc (v := nI (i + 1)) (lv' := [(6, .int (nI (i + 1))), (5, .int ((G_many (ss (ix x1)) i) + (((ss (ix x1)) >>> ((nI i) &&& 31)) &&& 1))), (0, .ref (a 30)), (1, .int x1), (2, .int x2)]) hx hb dX5_claim_76 hl (k := 1) rfl (z_inc1 i) (by decide) rfl (fun ls hl => ?_)
            refine lv_goto (tgt := 53) hx hb dX5_claim_79 (by decide) ?_
            have e_l5 : (G_many (ss (ix x1)) (i + 1)) = (G_many (ss (ix x1)) i) + (((ss (ix x1)) >>> ((nI i) &&& 31)) &&& 1) := by first | with_reducible rfl | (simp only [E_claim, F_sel, G_cl, F_ifI, F_if6, G_many, if_neg c_2, if_neg c_4, if_pos c_6, if_neg c_10, if_neg c_11, if_pos f_11, if_neg f_11n]; done) | (simp +decide only [E_claim, F_sel, G_cl, F_ifI, F_if6, G_many, f_11, if_neg c_2, if_neg c_4, if_pos c_6, if_neg c_10, if_neg c_11, if_pos f_11, if_neg f_11n]; done) | (simp [E_claim, F_sel, G_cl, F_ifI, F_if6, G_many, c_2, c_4, c_6, c_10, c_11, f_11, f_11n, f_11]; done) | (simp +decide [E_claim, F_sel, G_cl, F_ifI, F_if6, G_many, c_2, c_4, c_6, c_10, c_11, f_11, f_11n, f_11]; done)
            have hl : lv_has ls 8 [(5, .int (G_many (ss (ix x1)) (i + 1))), (6, .int (nI (i + 1))), (0, .ref (a 30)), (1, .int x1), (2, .int x2)] := by rw [e_l5]; exact lv_sub hl [1, 0, 2, 3, 4] rfl
            exact ih H locs ls (by omega) trivial hP hS hl
        · refine lv_iconst (v := 0) hx hb dX5_claim_45 (by decide) ?_
          have e_wth : nI (E_claim x1 x2 ns) = 0 := by exact (congrArg nI (by first | with_reducible rfl | (simp only [E_claim, F_sel, G_cl, F_ifI, F_if6, if_neg c_2, if_neg c_4, if_pos c_6, if_pos c_10]; done) | (simp +decide only [E_claim, F_sel, G_cl, F_ifI, F_if6, if_neg c_2, if_neg c_4, if_pos c_6, if_pos c_10]; done) | (simp [E_claim, F_sel, G_cl, F_ifI, F_if6, c_2, c_4, c_6, c_10]; done) | (simp +decide [E_claim, F_sel, G_cl, F_ifI, F_if6, c_2, c_4, c_6, c_10]; done) : E_claim x1 x2 ns = 0)).trans (by decide)
          have e_wpy : F_sel (E_claim x1 x2 ns) (F_if6 (G_cl x3 x4) py (G_pay (ss (ix x1)) (G_share (ss (ix x1)) x2) py 8)) py = py := by rw [show (E_claim x1 x2 ns) = 0 from (by first | with_reducible rfl | (simp only [E_claim, F_sel, G_cl, F_ifI, F_if6, if_neg c_2, if_neg c_4, if_pos c_6, if_pos c_10]; done) | (simp +decide only [E_claim, F_sel, G_cl, F_ifI, F_if6, if_neg c_2, if_neg c_4, if_pos c_6, if_pos c_10]; done) | (simp [E_claim, F_sel, G_cl, F_ifI, F_if6, c_2, c_4, c_6, c_10]; done) | (simp +decide [E_claim, F_sel, G_cl, F_ifI, F_if6, c_2, c_4, c_6, c_10]; done)), F_sel_0]; first | done | (first | with_reducible rfl | (simp only [E_claim, F_sel, G_cl, F_ifI, F_if6, if_neg c_2, if_neg c_4, if_pos c_6, if_pos c_10]; done) | (simp +decide only [E_claim, F_sel, G_cl, F_ifI, F_if6, if_neg c_2, if_neg c_4, if_pos c_6, if_pos c_10]; done) | (simp [E_claim, F_sel, G_cl, F_ifI, F_if6, c_2, c_4, c_6, c_10]; done) | (simp +decide [E_claim, F_sel, G_cl, F_ifI, F_if6, c_2, c_4, c_6, c_10]; done))
          have hP : va_P D vwCl (wMo cI cJ cZ a (nI (E_claim x1 x2 ns)) td nd n ld sl bd pw dt st uc sv tl so ag ns ss rg hw ax fu si au px pg (F_sel (E_claim x1 x2 ns) (F_if6 (G_cl x3 x4) py (G_pay (ss (ix x1)) (G_share (ss (ix x1)) x2) py 8)) py)) H := by rw [e_wth, e_wpy]; exact hP
          exact W.iret (v := 0) hx hb hr (fun t ht hW => ⟨⟨0, (), rfl, (Eq.symm (by rw [show (E_claim x1 x2 ns) = 0 from (by first | with_reducible rfl | (simp only [E_claim, F_sel, G_cl, F_ifI, F_if6, if_neg c_2, if_neg c_4, if_pos c_6, if_pos c_10]; done) | (simp +decide only [E_claim, F_sel, G_cl, F_ifI, F_if6, if_neg c_2, if_neg c_4, if_pos c_6, if_pos c_10]; done) | (simp [E_claim, F_sel, G_cl, F_ifI, F_if6, c_2, c_4, c_6, c_10]; done) | (simp +decide [E_claim, F_sel, G_cl, F_ifI, F_if6, c_2, c_4, c_6, c_10]; done)), F_sel_0]; first | done | (first | with_reducible rfl | (simp only [E_claim, F_sel, G_cl, F_ifI, F_if6, if_neg c_2, if_neg c_4, if_pos c_6, if_pos c_10]; done) | (simp +decide only [E_claim, F_sel, G_cl, F_ifI, F_if6, if_neg c_2, if_neg c_4, if_pos c_6, if_pos c_10]; done) | (simp [E_claim, F_sel, G_cl, F_ifI, F_if6, c_2, c_4, c_6, c_10]; done) | (simp +decide [E_claim, F_sel, G_cl, F_ifI, F_if6, c_2, c_4, c_6, c_10]; done)) : F_sel (E_claim x1 x2 ns) (F_ifI (G_cl x3 x4) 0 (G_many (ss (ix x1)) 8 * G_share (ss (ix x1)) x2)) 0 = 0)), (z_at ht hP)⟩, hS.F ht⟩) hS.2.2 dX5_claim_46
    · refine lv_iconst (v := 2) hx hb dX5_claim_23 (by decide) ?_
      refine lv_goto (tgt := 28) hx hb dX5_claim_24 (by decide) ?_
      refine z_ci (pre := ([] : va_W)) (wc := (wMo cI cJ cZ a th td nd n ld sl bd pw dt st uc sv tl so ag ns ss rg hw ax fu si au px pg py)) (suf := ([] : va_W)) (w1 := fun _ => (wMo cI cJ cZ a 2 td nd n ld sl bd pw dt st uc sv tl so ag ns ss rg hw ax fu si au px pg py)) (va_runV (As := [.int 2]) (rest := []) ⟨hx, hb, hml, hown, hts⟩ (c_X5_refused l D cI cJ cZ a H.size th td nd n ld sl bd pw dt st uc sv tl so ag ns ss rg hw ax fu si au px pg py 2) (cwV 1 hts gX5_claim_X5_refused rfl rfl rfl (by decide +kernel) ⟨Nat.le_of_ble_eq_true rfl, Nat.le_of_ble_eq_true rfl⟩) (z_pv hK hP hD (q0 := 0) (ci := 5) rfl rfl zT_b zT_m) rfl rfl hl.1 rfl (lv_room (Nat.le_of_ble_eq_true rfl)) dX5_claim_28 ⟨Nat.le_of_ble_eq_true rfl, Nat.le_of_ble_eq_true rfl⟩) hP hD hS hA (fun _ => rfl) (fun r_14 _ H locs hr_14 hP hD hS => ?_)
      subst hr_14
      refine W.eq (g2 := F0 m 31 ls [.int 1]) rfl ?_
      refine lv_if_eq (tgt := 36) hx hb dX5_claim_31 (by decide) (fun c9 => absurd c9 (by decide)) (fun _ => ?_)
      refine lv_iconst (v := 0) hx hb dX5_claim_34 (by decide) ?_
      have e_wth : nI (E_claim x1 x2 ns) = 2 := by exact (congrArg nI (by first | with_reducible rfl | (simp only [E_claim, F_sel, G_cl, F_ifI, F_if6, if_neg c_2, if_pos c_4]; done) | (simp +decide only [E_claim, F_sel, G_cl, F_ifI, F_if6, if_neg c_2, if_pos c_4]; done) | (simp [E_claim, F_sel, G_cl, F_ifI, F_if6, c_2, c_4]; done) | (simp +decide [E_claim, F_sel, G_cl, F_ifI, F_if6, c_2, c_4]; done) : E_claim x1 x2 ns = 2)).trans (by decide)
      have e_wpy : F_sel (E_claim x1 x2 ns) (F_if6 (G_cl x3 x4) py (G_pay (ss (ix x1)) (G_share (ss (ix x1)) x2) py 8)) py = py := by rw [show (E_claim x1 x2 ns) = 2 from (by first | with_reducible rfl | (simp only [E_claim, F_sel, G_cl, F_ifI, F_if6, if_neg c_2, if_pos c_4]; done) | (simp +decide only [E_claim, F_sel, G_cl, F_ifI, F_if6, if_neg c_2, if_pos c_4]; done) | (simp [E_claim, F_sel, G_cl, F_ifI, F_if6, c_2, c_4]; done) | (simp +decide [E_claim, F_sel, G_cl, F_ifI, F_if6, c_2, c_4]; done)), F_sel_2]; first | done | (first | with_reducible rfl | (simp only [E_claim, F_sel, G_cl, F_ifI, F_if6, if_neg c_2, if_pos c_4]; done) | (simp +decide only [E_claim, F_sel, G_cl, F_ifI, F_if6, if_neg c_2, if_pos c_4]; done) | (simp [E_claim, F_sel, G_cl, F_ifI, F_if6, c_2, c_4]; done) | (simp +decide [E_claim, F_sel, G_cl, F_ifI, F_if6, c_2, c_4]; done))
      have hP : va_P D vwCl (wMo cI cJ cZ a (nI (E_claim x1 x2 ns)) td nd n ld sl bd pw dt st uc sv tl so ag ns ss rg hw ax fu si au px pg (F_sel (E_claim x1 x2 ns) (F_if6 (G_cl x3 x4) py (G_pay (ss (ix x1)) (G_share (ss (ix x1)) x2) py 8)) py)) H := by rw [e_wth, e_wpy]; exact hP
      exact W.iret (v := 0) hx hb hr (fun t ht hW => ⟨⟨0, (), rfl, (Eq.symm (by rw [show (E_claim x1 x2 ns) = 2 from (by first | with_reducible rfl | (simp only [E_claim, F_sel, G_cl, F_ifI, F_if6, if_neg c_2, if_pos c_4]; done) | (simp +decide only [E_claim, F_sel, G_cl, F_ifI, F_if6, if_neg c_2, if_pos c_4]; done) | (simp [E_claim, F_sel, G_cl, F_ifI, F_if6, c_2, c_4]; done) | (simp +decide [E_claim, F_sel, G_cl, F_ifI, F_if6, c_2, c_4]; done)), F_sel_2]; first | done | (first | with_reducible rfl | (simp only [E_claim, F_sel, G_cl, F_ifI, F_if6, if_neg c_2, if_pos c_4]; done) | (simp +decide only [E_claim, F_sel, G_cl, F_ifI, F_if6, if_neg c_2, if_pos c_4]; done) | (simp [E_claim, F_sel, G_cl, F_ifI, F_if6, c_2, c_4]; done) | (simp +decide [E_claim, F_sel, G_cl, F_ifI, F_if6, c_2, c_4]; done)) : F_sel (E_claim x1 x2 ns) (F_ifI (G_cl x3 x4) 0 (G_many (ss (ix x1)) 8 * G_share (ss (ix x1)) x2)) 0 = 0)), (z_at ht hP)⟩, hS.F ht⟩) hS.2.2 dX5_claim_35
  · refine lv_iconst (v := 1) hx hb dX5_claim_9 (by decide) ?_
    refine lv_goto (tgt := 28) hx hb dX5_claim_10 (by decide) ?_
    refine z_ci (pre := ([] : va_W)) (wc := (wMo cI cJ cZ a th td nd n ld sl bd pw dt st uc sv tl so ag ns ss rg hw ax fu si au px pg py)) (suf := ([] : va_W)) (w1 := fun _ => (wMo cI cJ cZ a 1 td nd n ld sl bd pw dt st uc sv tl so ag ns ss rg hw ax fu si au px pg py)) (va_runV (As := [.int 1]) (rest := []) ⟨hx, hb, hml, hown, hts⟩ (c_X5_refused l D cI cJ cZ a H.size th td nd n ld sl bd pw dt st uc sv tl so ag ns ss rg hw ax fu si au px pg py 1) (cwV 1 hts gX5_claim_X5_refused rfl rfl rfl (by decide +kernel) ⟨Nat.le_of_ble_eq_true rfl, Nat.le_of_ble_eq_true rfl⟩) (z_pv hK hP hD (q0 := 0) (ci := 5) rfl rfl zT_b zT_m) rfl rfl hl.1 rfl (lv_room (Nat.le_of_ble_eq_true rfl)) dX5_claim_28 ⟨Nat.le_of_ble_eq_true rfl, Nat.le_of_ble_eq_true rfl⟩) hP hD hS hA (fun _ => rfl) (fun r_15 _ H locs hr_15 hP hD hS => ?_)
    subst hr_15
    refine W.eq (g2 := F0 m 31 ls [.int 1]) rfl ?_
    refine lv_if_eq (tgt := 36) hx hb dX5_claim_31 (by decide) (fun c9 => absurd c9 (by decide)) (fun _ => ?_)
    refine lv_iconst (v := 0) hx hb dX5_claim_34 (by decide) ?_
    have e_wth : nI (E_claim x1 x2 ns) = 1 := by exact (congrArg nI (by first | with_reducible rfl | (simp only [E_claim, F_sel, G_cl, F_ifI, F_if6, if_pos c_2]; done) | (simp +decide only [E_claim, F_sel, G_cl, F_ifI, F_if6, if_pos c_2]; done) | (simp [E_claim, F_sel, G_cl, F_ifI, F_if6, c_2]; done) | (simp +decide [E_claim, F_sel, G_cl, F_ifI, F_if6, c_2]; done) : E_claim x1 x2 ns = 1)).trans (by decide)
    have e_wpy : F_sel (E_claim x1 x2 ns) (F_if6 (G_cl x3 x4) py (G_pay (ss (ix x1)) (G_share (ss (ix x1)) x2) py 8)) py = py := by rw [show (E_claim x1 x2 ns) = 1 from (by first | with_reducible rfl | (simp only [E_claim, F_sel, G_cl, F_ifI, F_if6, if_pos c_2]; done) | (simp +decide only [E_claim, F_sel, G_cl, F_ifI, F_if6, if_pos c_2]; done) | (simp [E_claim, F_sel, G_cl, F_ifI, F_if6, c_2]; done) | (simp +decide [E_claim, F_sel, G_cl, F_ifI, F_if6, c_2]; done)), F_sel_1]; first | done | (first | with_reducible rfl | (simp only [E_claim, F_sel, G_cl, F_ifI, F_if6, if_pos c_2]; done) | (simp +decide only [E_claim, F_sel, G_cl, F_ifI, F_if6, if_pos c_2]; done) | (simp [E_claim, F_sel, G_cl, F_ifI, F_if6, c_2]; done) | (simp +decide [E_claim, F_sel, G_cl, F_ifI, F_if6, c_2]; done))
    have hP : va_P D vwCl (wMo cI cJ cZ a (nI (E_claim x1 x2 ns)) td nd n ld sl bd pw dt st uc sv tl so ag ns ss rg hw ax fu si au px pg (F_sel (E_claim x1 x2 ns) (F_if6 (G_cl x3 x4) py (G_pay (ss (ix x1)) (G_share (ss (ix x1)) x2) py 8)) py)) H := by rw [e_wth, e_wpy]; exact hP
    exact W.iret (v := 0) hx hb hr (fun t ht hW => ⟨⟨0, (), rfl, (Eq.symm (by rw [show (E_claim x1 x2 ns) = 1 from (by first | with_reducible rfl | (simp only [E_claim, F_sel, G_cl, F_ifI, F_if6, if_pos c_2]; done) | (simp +decide only [E_claim, F_sel, G_cl, F_ifI, F_if6, if_pos c_2]; done) | (simp [E_claim, F_sel, G_cl, F_ifI, F_if6, c_2]; done) | (simp +decide [E_claim, F_sel, G_cl, F_ifI, F_if6, c_2]; done)), F_sel_1]; first | done | (first | with_reducible rfl | (simp only [E_claim, F_sel, G_cl, F_ifI, F_if6, if_pos c_2]; done) | (simp +decide only [E_claim, F_sel, G_cl, F_ifI, F_if6, if_pos c_2]; done) | (simp [E_claim, F_sel, G_cl, F_ifI, F_if6, c_2]; done) | (simp +decide [E_claim, F_sel, G_cl, F_ifI, F_if6, c_2]; done)) : F_sel (E_claim x1 x2 ns) (F_ifI (G_cl x3 x4) 0 (G_many (ss (ix x1)) 8 * G_share (ss (ix x1)) x2)) 0 = 0)), (z_at ht hP)⟩, hS.F ht⟩) hS.2.2 dX5_claim_35
theorem k_X5_pass_1 : (Cond.fieldLink RX5 117 "OrbitregisterModel" "day" "I") ∈ wsX5_pass := List.mem_of_getElem? (i := 1) rfl
theorem b_X5_pass_wsX50 : ∀ w ∈ wsX50, w ∈ wsX5_pass := fun _ h => List.mem_cons_of_mem _ (List.mem_append_right _ h)
set_option maxHeartbeats 4000000 in
set_option maxRecDepth 100000 in
theorem c_X5_pass (l : Launch) (D : va_G) (cI cJ cZ : ClassId) (a : Nat → Nat) (sz : Nat) (th : Int32) (td : Int32) (nd : Int32) (n : Nat) (ld : A32) (sl : A32) (bd : A32) (pw : A32) (dt : A32) (st : A32) (uc : A32) (sv : A32) (tl : A32) (so : A32) (ag : A32) (ns : Nat) (ss : A32) (rg : A32) (hw : A32) (ax : A32) (fu : A32) (si : A32) (au : A32) (px : A32) (pg : A32) (py : A64) (x1 : Int32) (hn : n ≤ 40) : Met l yX5_pass wsX5_pass ({ frames := 2, cells := 0, slots := 0, locals := 44 }) (va_Pc [.ref (a 30), .int x1] (ZP D (zt cI cJ cZ) (wMo cI cJ cZ a th td nd n ld sl bd pw dt st uc sv tl so ag ns ss rg hw ax fu si au px pg py) sz zT)) (va_Qi (fun (r : Int32) (_ : Unit) => r = F_sel (E_pass x1 td) ((G_days tl so n (td, st, sv, ag, px, pg) (ix x1)).1) 0) (fun _ t => va_P D vwCl (wMo cI cJ cZ a (nI (E_pass x1 td)) (F_sel (E_pass x1 td) ((G_days tl so n (td, st, sv, ag, px, pg) (ix x1)).1) td) nd n ld sl bd pw dt (F_sel (E_pass x1 td) ((G_days tl so n (td, st, sv, ag, px, pg) (ix x1)).2.1) st) uc (F_sel (E_pass x1 td) ((G_days tl so n (td, st, sv, ag, px, pg) (ix x1)).2.2.1) sv) tl so (F_sel (E_pass x1 td) ((G_days tl so n (td, st, sv, ag, px, pg) (ix x1)).2.2.2.1) ag) ns ss rg hw ax fu si au (F_sel (E_pass x1 td) ((G_days tl so n (td, st, sv, ag, px, pg) (ix x1)).2.2.2.2.1) px) (F_sel (E_pass x1 td) ((G_days tl so n (td, st, sv, ag, px, pg) (ix x1)).2.2.2.2.2) pg) py) t.heap) (va_A (wMo cI cJ cZ a th td nd n ld sl bd pw dt st uc sv tl so ag ns ss rg hw ax fu si au px pg py) sz)) 0 0 (va_A (wMo cI cJ cZ a th td nd n ld sl bd pw dt st uc sv tl so ag ns ss rg hw ax fu si au px pg py) sz) := by
  refine Met.ofW (cc := cX5_pass) (maxL := 3) (ret := (some .int)) (by decide) rfl ?_
  intro p e s m args below meth c s₁ B hml hv
  obtain ⟨rfl, hsz, hP, hK, hD0, hE⟩ := hv
  have hx := B.exec
  have hb := B.bytes
  have hr := B.returns
  have hts := atoms_spec (ws := wsX5_pass) B.pre
  have hown : s.vm.findClass RX5 = some m.cls := findClass_of_methodNamed B.named
  have hlocks := B.notSynchronized
  subst hsz
  have hD := hD0.self (sz := s.heap.size)
  generalize hAe : va_A (wMo cI cJ cZ a th td nd n ld sl bd pw dt st uc sv tl so ag ns ss rg hw ax fu si au px pg py) s.heap.size = A at hD ⊢
  have hA : ∀ q : Nat, s.heap.size ≤ q → A q := fun q h => by rw [← hAe]; exact Or.inr h
  have hS : va_S A s.heap s.heap [] := va_S.rf
  have hl := lv_entry ([.ref (a 30), .int x1]) (n := 3) (Nat.le_of_ble_eq_true rfl)
  rw [lg_entry_eq]
  generalize (lg_sl ([.ref (a 30), .int x1]) ++ List.replicate (3 - (lg_sl ([.ref (a 30), .int x1])).length) Slot.unset).toArray = ls at hl ⊢
  have hl : lv_has ls 3 [(0, .ref (a 30)), (1, .int x1)] := hl
  have hP : va_P D vwCl (wMo cI cJ cZ a th td nd n ld sl bd pw dt st uc sv tl so ag ns ss rg hw ax fu si au px pg py) s.heap := hP
  refine lv_aload_n hx hb dX5_pass_0 rfl (lv_at hl 0 rfl) ?_
  refine lv_iload_n hx hb dX5_pass_1 rfl (lv_at hl 1 rfl) ?_
  refine lv_iconst (v := 1) hx hb dX5_pass_2 (by decide) ?_
  refine lv_sipush (v := 400) hx hb dX5_pass_3 (by decide) ?_
  refine z_ri (va_runS (As := [.int x1, .int 1, .int 400]) (rest := [.ref (a 30)]) ⟨hx, hb, hml, hown, hts⟩ (c_X5_in l D cI cJ cZ a s.heap.size x1 1 400) (va_cwS 3 hts gX5_pass_X5_in rfl rfl rfl (by decide +kernel) ⟨Nat.le_of_ble_eq_true rfl, Nat.le_of_ble_eq_true rfl⟩) (z_ps hK zP_0 zD_0 zT_b zT_m) rfl rfl hl.1 rfl (lv_room (Nat.le_of_ble_eq_true rfl)) dX5_pass_6 ⟨Nat.le_of_ble_eq_true rfl, Nat.le_of_ble_eq_true rfl⟩) hP hS hA (fun r_1 _ H locs hr_1 hP hS => ?_)
  subst hr_1
  refine lv_if_ne (tgt := 16) hx hb dX5_pass_9 (by decide) (fun c_2 => ?_) (fun c_2 => ?_)
  · refine lv_aload_n hx hb dX5_pass_16 rfl (lv_at hl 0 rfl) ?_
    refine z_get (ci := 5) (C := RX5) (T := TX5) (N := 26) hx hb hts b_X5_pass_wsX50 hown hK hP 0 rfl rfl 1 (by decide) (hts _ k_X5_pass_1) rfl (.int td) rfl dX5_pass_17 ?_
    refine lv_iload_n hx hb dX5_pass_20 rfl (lv_at hl 1 rfl) ?_
    refine lv_iadd hx hb dX5_pass_21 ?_
    refine lv_sipush (v := 5000) hx hb dX5_pass_22 (by decide) ?_
    refine lv_icmp_le (tgt := 32) hx hb dX5_pass_25 (by decide) (fun c_3 => ?_) (fun c_3 => ?_)
    · refine lv_iconst (v := 0) hx hb dX5_pass_32 (by decide) ?_
      refine z_ci (pre := ([] : va_W)) (wc := (wMo cI cJ cZ a th td nd n ld sl bd pw dt st uc sv tl so ag ns ss rg hw ax fu si au px pg py)) (suf := ([] : va_W)) (w1 := fun _ => (wMo cI cJ cZ a 0 td nd n ld sl bd pw dt st uc sv tl so ag ns ss rg hw ax fu si au px pg py)) (va_runV (As := [.int 0]) (rest := []) ⟨hx, hb, hml, hown, hts⟩ (c_X5_refused l D cI cJ cZ a H.size th td nd n ld sl bd pw dt st uc sv tl so ag ns ss rg hw ax fu si au px pg py 0) (cwV 1 hts gX5_pass_X5_refused rfl rfl rfl (by decide +kernel) ⟨Nat.le_of_ble_eq_true rfl, Nat.le_of_ble_eq_true rfl⟩) (z_pv hK hP hD (q0 := 0) (ci := 5) rfl rfl zT_b zT_m) rfl rfl hl.1 rfl (lv_room (Nat.le_of_ble_eq_true rfl)) dX5_pass_33 ⟨Nat.le_of_ble_eq_true rfl, Nat.le_of_ble_eq_true rfl⟩) hP hD hS hA (fun _ => rfl) (fun r_4 _ H locs hr_4 hP hD hS => ?_)
      subst hr_4
      refine W.eq (g2 := F0 m 36 ls [.int 0]) rfl ?_
      refine lv_if_eq (tgt := 41) hx hb dX5_pass_36 (by decide) (fun _ => ?_) (fun c9 => absurd (by decide) c9)
      obtain ⟨g_x1, g_x1b, g_x1c⟩ := F_in_natL 401 c_2 (by decide) (by decide)
      refine lv_iconst (v := 0) hx hb dX5_pass_41 (by decide) ?_
      refine lv_istore_n (lv' := [(2, .int 0), (0, .ref (a 30)), (1, .int x1)]) hx hb dX5_pass_42 rfl hl (by decide) rfl (fun ls hl => ?_)
      have e_wtd : (G_days tl so n (td, st, sv, ag, px, pg) 0).1 = td := by first | rfl | exact nI_0
      have e_wst : (G_days tl so n (td, st, sv, ag, px, pg) 0).2.1 = st := by first | rfl | exact nI_0
      have e_wsv : (G_days tl so n (td, st, sv, ag, px, pg) 0).2.2.1 = sv := by first | rfl | exact nI_0
      have e_wag : (G_days tl so n (td, st, sv, ag, px, pg) 0).2.2.2.1 = ag := by first | rfl | exact nI_0
      have e_wpx : (G_days tl so n (td, st, sv, ag, px, pg) 0).2.2.2.2.1 = px := by first | rfl | exact nI_0
      have e_wpg : (G_days tl so n (td, st, sv, ag, px, pg) 0).2.2.2.2.2 = pg := by first | rfl | exact nI_0
      have hP : va_P D vwCl (wMo cI cJ cZ a 0 ((G_days tl so n (td, st, sv, ag, px, pg) 0).1) nd n ld sl bd pw dt ((G_days tl so n (td, st, sv, ag, px, pg) 0).2.1) uc ((G_days tl so n (td, st, sv, ag, px, pg) 0).2.2.1) tl so ((G_days tl so n (td, st, sv, ag, px, pg) 0).2.2.2.1) ns ss rg hw ax fu si au ((G_days tl so n (td, st, sv, ag, px, pg) 0).2.2.2.2.1) ((G_days tl so n (td, st, sv, ag, px, pg) 0).2.2.2.2.2) py) H := by rw [e_wtd, e_wst, e_wsv, e_wag, e_wpx, e_wpg]; exact hP
      have e_l2 : (nI 0) = 0 := by first | rfl | exact nI_0
      have hl : lv_has ls 3 [(2, .int (nI 0)), (0, .ref (a 30)), (1, .int x1)] := by rw [e_l2]; exact lv_sub hl [0, 1, 2] rfl
      refine z_loop (D := D) (A := A) (H0 := s.heap) (N := (ix x1)) (Wf := fun i => (wMo cI cJ cZ a 0 ((G_days tl so n (td, st, sv, ag, px, pg) i).1) nd n ld sl bd pw dt ((G_days tl so n (td, st, sv, ag, px, pg) i).2.1) uc ((G_days tl so n (td, st, sv, ag, px, pg) i).2.2.1) tl so ((G_days tl so n (td, st, sv, ag, px, pg) i).2.2.2.1) ns ss rg hw ax fu si au ((G_days tl so n (td, st, sv, ag, px, pg) i).2.2.2.2.1) ((G_days tl so n (td, st, sv, ag, px, pg) i).2.2.2.2.2) py)) (lvf := fun i => [(2, .int (nI i)), (0, .ref (a 30)), (1, .int x1)]) (Inv := fun i => True) 0 (by omega) trivial hP hS hl (fun i hi hinv H locs ls hP hS hl ih => ?_)
      have hP : va_P D vwCl (wMo cI cJ cZ a 0 ((G_days tl so n (td, st, sv, ag, px, pg) i).1) nd n ld sl bd pw dt ((G_days tl so n (td, st, sv, ag, px, pg) i).2.1) uc ((G_days tl so n (td, st, sv, ag, px, pg) i).2.2.1) tl so ((G_days tl so n (td, st, sv, ag, px, pg) i).2.2.2.1) ns ss rg hw ax fu si au ((G_days tl so n (td, st, sv, ag, px, pg) i).2.2.2.2.1) ((G_days tl so n (td, st, sv, ag, px, pg) i).2.2.2.2.2) py) H := hP
      have hD : va_D A (wMo cI cJ cZ a 0 ((G_days tl so n (td, st, sv, ag, px, pg) i).1) nd n ld sl bd pw dt ((G_days tl so n (td, st, sv, ag, px, pg) i).2.1) uc ((G_days tl so n (td, st, sv, ag, px, pg) i).2.2.1) tl so ((G_days tl so n (td, st, sv, ag, px, pg) i).2.2.2.1) ns ss rg hw ax fu si au ((G_days tl so n (td, st, sv, ag, px, pg) i).2.2.2.2.1) ((G_days tl so n (td, st, sv, ag, px, pg) i).2.2.2.2.2) py) := zD_congr (w1 := (wMo cI cJ cZ a 0 td nd n ld sl bd pw dt st uc sv tl so ag ns ss rg hw ax fu si au px pg py)) rfl hD
      have hl : lv_has ls 3 [(2, .int (nI i)), (0, .ref (a 30)), (1, .int x1)] := hl
      have hinv : True := hinv
      refine lv_iload_n hx hb dX5_pass_43 rfl (lv_at hl 0 rfl) ?_
      refine lv_iload_n hx hb dX5_pass_44 rfl (lv_at hl 2 rfl) ?_
      refine lv_icmp_ge (tgt := 58) hx hb dX5_pass_45 (by decide) (fun c_5 => ?_) (fun c_5 => ?_)
      · have f_5 := z_leN (a := (ix x1)) (b := i) c_5 g_x1 rfl (by omega) (by omega)
        have f_5n := Nat.not_lt.mpr f_5
        obtain rfl : (ix x1) = i := by omega
        refine lv_aload_n hx hb dX5_pass_58 rfl (lv_at hl 1 rfl) ?_
        refine z_get (ci := 5) (C := RX5) (T := TX5) (N := 26) hx hb hts b_X5_pass_wsX50 hown hK hP 0 rfl rfl 1 (by decide) (hts _ k_X5_pass_1) rfl (.int ((G_days tl so n (td, st, sv, ag, px, pg) (ix x1)).1)) rfl dX5_pass_59 ?_
        have e_wth : nI (E_pass x1 td) = 0 := by exact (congrArg nI (by first | with_reducible rfl | (simp only [E_pass, F_sel, if_neg c_2, if_pos c_3, if_pos c_5, if_pos f_5, if_neg f_5n]; done) | (simp +decide only [E_pass, F_sel, f_5, if_neg c_2, if_pos c_3, if_pos c_5, if_pos f_5, if_neg f_5n]; done) | (simp [E_pass, F_sel, c_2, c_3, c_5, f_5, f_5n, f_5]; done) | (simp +decide [E_pass, F_sel, c_2, c_3, c_5, f_5, f_5n, f_5]; done) : E_pass x1 td = 0)).trans (by decide)
        have e_wtd : F_sel (E_pass x1 td) ((G_days tl so n (td, st, sv, ag, px, pg) (ix x1)).1) td = (G_days tl so n (td, st, sv, ag, px, pg) (ix x1)).1 := by rw [show (E_pass x1 td) = 0 from (by first | with_reducible rfl | (simp only [E_pass, F_sel, if_neg c_2, if_pos c_3, if_pos c_5, if_pos f_5, if_neg f_5n]; done) | (simp +decide only [E_pass, F_sel, f_5, if_neg c_2, if_pos c_3, if_pos c_5, if_pos f_5, if_neg f_5n]; done) | (simp [E_pass, F_sel, c_2, c_3, c_5, f_5, f_5n, f_5]; done) | (simp +decide [E_pass, F_sel, c_2, c_3, c_5, f_5, f_5n, f_5]; done)), F_sel_0]; first | done | (first | with_reducible rfl | (simp only [E_pass, F_sel, if_neg c_2, if_pos c_3, if_pos c_5, if_pos f_5, if_neg f_5n]; done) | (simp +decide only [E_pass, F_sel, f_5, if_neg c_2, if_pos c_3, if_pos c_5, if_pos f_5, if_neg f_5n]; done) | (simp [E_pass, F_sel, c_2, c_3, c_5, f_5, f_5n, f_5]; done) | (simp +decide [E_pass, F_sel, c_2, c_3, c_5, f_5, f_5n, f_5]; done))
        have e_wst : F_sel (E_pass x1 td) ((G_days tl so n (td, st, sv, ag, px, pg) (ix x1)).2.1) st = (G_days tl so n (td, st, sv, ag, px, pg) (ix x1)).2.1 := by rw [show (E_pass x1 td) = 0 from (by first | with_reducible rfl | (simp only [E_pass, F_sel, if_neg c_2, if_pos c_3, if_pos c_5, if_pos f_5, if_neg f_5n]; done) | (simp +decide only [E_pass, F_sel, f_5, if_neg c_2, if_pos c_3, if_pos c_5, if_pos f_5, if_neg f_5n]; done) | (simp [E_pass, F_sel, c_2, c_3, c_5, f_5, f_5n, f_5]; done) | (simp +decide [E_pass, F_sel, c_2, c_3, c_5, f_5, f_5n, f_5]; done)), F_sel_0]; first | done | (first | with_reducible rfl | (simp only [E_pass, F_sel, if_neg c_2, if_pos c_3, if_pos c_5, if_pos f_5, if_neg f_5n]; done) | (simp +decide only [E_pass, F_sel, f_5, if_neg c_2, if_pos c_3, if_pos c_5, if_pos f_5, if_neg f_5n]; done) | (simp [E_pass, F_sel, c_2, c_3, c_5, f_5, f_5n, f_5]; done) | (simp +decide [E_pass, F_sel, c_2, c_3, c_5, f_5, f_5n, f_5]; done))
        have e_wsv : F_sel (E_pass x1 td) ((G_days tl so n (td, st, sv, ag, px, pg) (ix x1)).2.2.1) sv = (G_days tl so n (td, st, sv, ag, px, pg) (ix x1)).2.2.1 := by rw [show (E_pass x1 td) = 0 from (by first | with_reducible rfl | (simp only [E_pass, F_sel, if_neg c_2, if_pos c_3, if_pos c_5, if_pos f_5, if_neg f_5n]; done) | (simp +decide only [E_pass, F_sel, f_5, if_neg c_2, if_pos c_3, if_pos c_5, if_pos f_5, if_neg f_5n]; done) | (simp [E_pass, F_sel, c_2, c_3, c_5, f_5, f_5n, f_5]; done) | (simp +decide [E_pass, F_sel, c_2, c_3, c_5, f_5, f_5n, f_5]; done)), F_sel_0]; first | done | (first | with_reducible rfl | (simp only [E_pass, F_sel, if_neg c_2, if_pos c_3, if_pos c_5, if_pos f_5, if_neg f_5n]; done) | (simp +decide only [E_pass, F_sel, f_5, if_neg c_2, if_pos c_3, if_pos c_5, if_pos f_5, if_neg f_5n]; done) | (simp [E_pass, F_sel, c_2, c_3, c_5, f_5, f_5n, f_5]; done) | (simp +decide [E_pass, F_sel, c_2, c_3, c_5, f_5, f_5n, f_5]; done))
        have e_wag : F_sel (E_pass x1 td) ((G_days tl so n (td, st, sv, ag, px, pg) (ix x1)).2.2.2.1) ag = (G_days tl so n (td, st, sv, ag, px, pg) (ix x1)).2.2.2.1 := by rw [show (E_pass x1 td) = 0 from (by first | with_reducible rfl | (simp only [E_pass, F_sel, if_neg c_2, if_pos c_3, if_pos c_5, if_pos f_5, if_neg f_5n]; done) | (simp +decide only [E_pass, F_sel, f_5, if_neg c_2, if_pos c_3, if_pos c_5, if_pos f_5, if_neg f_5n]; done) | (simp [E_pass, F_sel, c_2, c_3, c_5, f_5, f_5n, f_5]; done) | (simp +decide [E_pass, F_sel, c_2, c_3, c_5, f_5, f_5n, f_5]; done)), F_sel_0]; first | done | (first | with_reducible rfl | (simp only [E_pass, F_sel, if_neg c_2, if_pos c_3, if_pos c_5, if_pos f_5, if_neg f_5n]; done) | (simp +decide only [E_pass, F_sel, f_5, if_neg c_2, if_pos c_3, if_pos c_5, if_pos f_5, if_neg f_5n]; done) | (simp [E_pass, F_sel, c_2, c_3, c_5, f_5, f_5n, f_5]; done) | (simp +decide [E_pass, F_sel, c_2, c_3, c_5, f_5, f_5n, f_5]; done))
        have e_wpx : F_sel (E_pass x1 td) ((G_days tl so n (td, st, sv, ag, px, pg) (ix x1)).2.2.2.2.1) px = (G_days tl so n (td, st, sv, ag, px, pg) (ix x1)).2.2.2.2.1 := by rw [show (E_pass x1 td) = 0 from (by first | with_reducible rfl | (simp only [E_pass, F_sel, if_neg c_2, if_pos c_3, if_pos c_5, if_pos f_5, if_neg f_5n]; done) | (simp +decide only [E_pass, F_sel, f_5, if_neg c_2, if_pos c_3, if_pos c_5, if_pos f_5, if_neg f_5n]; done) | (simp [E_pass, F_sel, c_2, c_3, c_5, f_5, f_5n, f_5]; done) | (simp +decide [E_pass, F_sel, c_2, c_3, c_5, f_5, f_5n, f_5]; done)), F_sel_0]; first | done | (first | with_reducible rfl | (simp only [E_pass, F_sel, if_neg c_2, if_pos c_3, if_pos c_5, if_pos f_5, if_neg f_5n]; done) | (simp +decide only [E_pass, F_sel, f_5, if_neg c_2, if_pos c_3, if_pos c_5, if_pos f_5, if_neg f_5n]; done) | (simp [E_pass, F_sel, c_2, c_3, c_5, f_5, f_5n, f_5]; done) | (simp +decide [E_pass, F_sel, c_2, c_3, c_5, f_5, f_5n, f_5]; done))
        have e_wpg : F_sel (E_pass x1 td) ((G_days tl so n (td, st, sv, ag, px, pg) (ix x1)).2.2.2.2.2) pg = (G_days tl so n (td, st, sv, ag, px, pg) (ix x1)).2.2.2.2.2 := by rw [show (E_pass x1 td) = 0 from (by first | with_reducible rfl | (simp only [E_pass, F_sel, if_neg c_2, if_pos c_3, if_pos c_5, if_pos f_5, if_neg f_5n]; done) | (simp +decide only [E_pass, F_sel, f_5, if_neg c_2, if_pos c_3, if_pos c_5, if_pos f_5, if_neg f_5n]; done) | (simp [E_pass, F_sel, c_2, c_3, c_5, f_5, f_5n, f_5]; done) | (simp +decide [E_pass, F_sel, c_2, c_3, c_5, f_5, f_5n, f_5]; done)), F_sel_0]; first | done | (first | with_reducible rfl | (simp only [E_pass, F_sel, if_neg c_2, if_pos c_3, if_pos c_5, if_pos f_5, if_neg f_5n]; done) | (simp +decide only [E_pass, F_sel, f_5, if_neg c_2, if_pos c_3, if_pos c_5, if_pos f_5, if_neg f_5n]; done) | (simp [E_pass, F_sel, c_2, c_3, c_5, f_5, f_5n, f_5]; done) | (simp +decide [E_pass, F_sel, c_2, c_3, c_5, f_5, f_5n, f_5]; done))
        have hP : va_P D vwCl (wMo cI cJ cZ a (nI (E_pass x1 td)) (F_sel (E_pass x1 td) ((G_days tl so n (td, st, sv, ag, px, pg) (ix x1)).1) td) nd n ld sl bd pw dt (F_sel (E_pass x1 td) ((G_days tl so n (td, st, sv, ag, px, pg) (ix x1)).2.1) st) uc (F_sel (E_pass x1 td) ((G_days tl so n (td, st, sv, ag, px, pg) (ix x1)).2.2.1) sv) tl so (F_sel (E_pass x1 td) ((G_days tl so n (td, st, sv, ag, px, pg) (ix x1)).2.2.2.1) ag) ns ss rg hw ax fu si au (F_sel (E_pass x1 td) ((G_days tl so n (td, st, sv, ag, px, pg) (ix x1)).2.2.2.2.1) px) (F_sel (E_pass x1 td) ((G_days tl so n (td, st, sv, ag, px, pg) (ix x1)).2.2.2.2.2) pg) py) H := by rw [e_wth, e_wtd, e_wst, e_wsv, e_wag, e_wpx, e_wpg]; exact hP
        exact W.iret (v := (G_days tl so n (td, st, sv, ag, px, pg) (ix x1)).1) hx hb hr (fun t ht hW => ⟨⟨(G_days tl so n (td, st, sv, ag, px, pg) (ix x1)).1, (), rfl, (Eq.symm (by rw [show (E_pass x1 td) = 0 from (by first | with_reducible rfl | (simp only [E_pass, F_sel, if_neg c_2, if_pos c_3, if_pos c_5, if_pos f_5, if_neg f_5n]; done) | (simp +decide only [E_pass, F_sel, f_5, if_neg c_2, if_pos c_3, if_pos c_5, if_pos f_5, if_neg f_5n]; done) | (simp [E_pass, F_sel, c_2, c_3, c_5, f_5, f_5n, f_5]; done) | (simp +decide [E_pass, F_sel, c_2, c_3, c_5, f_5, f_5n, f_5]; done)), F_sel_0]; first | done | (first | with_reducible rfl | (simp only [E_pass, F_sel, if_neg c_2, if_pos c_3, if_pos c_5, if_pos f_5, if_neg f_5n]; done) | (simp +decide only [E_pass, F_sel, f_5, if_neg c_2, if_pos c_3, if_pos c_5, if_pos f_5, if_neg f_5n]; done) | (simp [E_pass, F_sel, c_2, c_3, c_5, f_5, f_5n, f_5]; done) | (simp +decide [E_pass, F_sel, c_2, c_3, c_5, f_5, f_5n, f_5]; done)) : F_sel (E_pass x1 td) ((G_days tl so n (td, st, sv, ag, px, pg) (ix x1)).1) 0 = (G_days tl so n (td, st, sv, ag, px, pg) (ix x1)).1)), (z_at ht hP)⟩, hS.F ht⟩) hS.2.2 dX5_pass_62
      · have f_5 := z_nleN (a := (ix x1)) (b := i) c_5 g_x1 rfl (by omega) (by omega)
        have f_5n := Nat.not_le.mpr f_5
        refine lv_aload_n hx hb dX5_pass_48 rfl (lv_at hl 1 rfl) ?_
        refine z_cv (pre := ([] : va_W)) (wc := (wMo cI cJ cZ a 0 ((G_days tl so n (td, st, sv, ag, px, pg) i).1) nd n ld sl bd pw dt ((G_days tl so n (td, st, sv, ag, px, pg) i).2.1) uc ((G_days tl so n (td, st, sv, ag, px, pg) i).2.2.1) tl so ((G_days tl so n (td, st, sv, ag, px, pg) i).2.2.2.1) ns ss rg hw ax fu si au ((G_days tl so n (td, st, sv, ag, px, pg) i).2.2.2.2.1) ((G_days tl so n (td, st, sv, ag, px, pg) i).2.2.2.2.2) py)) (suf := ([] : va_W)) (w1 := fun _ => (wMo cI cJ cZ a 0 ((G_pas tl so n (((G_days tl so n (td, st, sv, ag, px, pg) i).1), ((G_days tl so n (td, st, sv, ag, px, pg) i).2.1), ((G_days tl so n (td, st, sv, ag, px, pg) i).2.2.1), ((G_days tl so n (td, st, sv, ag, px, pg) i).2.2.2.1), ((G_days tl so n (td, st, sv, ag, px, pg) i).2.2.2.2.1), ((G_days tl so n (td, st, sv, ag, px, pg) i).2.2.2.2.2))).1) nd n ld sl bd pw dt ((G_pas tl so n (((G_days tl so n (td, st, sv, ag, px, pg) i).1), ((G_days tl so n (td, st, sv, ag, px, pg) i).2.1), ((G_days tl so n (td, st, sv, ag, px, pg) i).2.2.1), ((G_days tl so n (td, st, sv, ag, px, pg) i).2.2.2.1), ((G_days tl so n (td, st, sv, ag, px, pg) i).2.2.2.2.1), ((G_days tl so n (td, st, sv, ag, px, pg) i).2.2.2.2.2))).2.1) uc ((G_pas tl so n (((G_days tl so n (td, st, sv, ag, px, pg) i).1), ((G_days tl so n (td, st, sv, ag, px, pg) i).2.1), ((G_days tl so n (td, st, sv, ag, px, pg) i).2.2.1), ((G_days tl so n (td, st, sv, ag, px, pg) i).2.2.2.1), ((G_days tl so n (td, st, sv, ag, px, pg) i).2.2.2.2.1), ((G_days tl so n (td, st, sv, ag, px, pg) i).2.2.2.2.2))).2.2.1) tl so ((G_pas tl so n (((G_days tl so n (td, st, sv, ag, px, pg) i).1), ((G_days tl so n (td, st, sv, ag, px, pg) i).2.1), ((G_days tl so n (td, st, sv, ag, px, pg) i).2.2.1), ((G_days tl so n (td, st, sv, ag, px, pg) i).2.2.2.1), ((G_days tl so n (td, st, sv, ag, px, pg) i).2.2.2.2.1), ((G_days tl so n (td, st, sv, ag, px, pg) i).2.2.2.2.2))).2.2.2.1) ns ss rg hw ax fu si au ((G_pas tl so n (((G_days tl so n (td, st, sv, ag, px, pg) i).1), ((G_days tl so n (td, st, sv, ag, px, pg) i).2.1), ((G_days tl so n (td, st, sv, ag, px, pg) i).2.2.1), ((G_days tl so n (td, st, sv, ag, px, pg) i).2.2.2.1), ((G_days tl so n (td, st, sv, ag, px, pg) i).2.2.2.2.1), ((G_days tl so n (td, st, sv, ag, px, pg) i).2.2.2.2.2))).2.2.2.2.1) ((G_pas tl so n (((G_days tl so n (td, st, sv, ag, px, pg) i).1), ((G_days tl so n (td, st, sv, ag, px, pg) i).2.1), ((G_days tl so n (td, st, sv, ag, px, pg) i).2.2.1), ((G_days tl so n (td, st, sv, ag, px, pg) i).2.2.2.1), ((G_days tl so n (td, st, sv, ag, px, pg) i).2.2.2.2.1), ((G_days tl so n (td, st, sv, ag, px, pg) i).2.2.2.2.2))).2.2.2.2.2) py)) (va_runV (As := []) (rest := []) ⟨hx, hb, hml, hown, hts⟩ (c_X5_passes l D cI cJ cZ a H.size 0 ((G_days tl so n (td, st, sv, ag, px, pg) i).1) nd n ld sl bd pw dt ((G_days tl so n (td, st, sv, ag, px, pg) i).2.1) uc ((G_days tl so n (td, st, sv, ag, px, pg) i).2.2.1) tl so ((G_days tl so n (td, st, sv, ag, px, pg) i).2.2.2.1) ns ss rg hw ax fu si au ((G_days tl so n (td, st, sv, ag, px, pg) i).2.2.2.2.1) ((G_days tl so n (td, st, sv, ag, px, pg) i).2.2.2.2.2) py (by first | assumption | omega)) (cwV 0 hts gX5_pass_X5_passes rfl rfl rfl (by decide +kernel) ⟨Nat.le_of_ble_eq_true rfl, Nat.le_of_ble_eq_true rfl⟩) (z_pv hK hP hD (q0 := 0) (ci := 5) rfl rfl zT_b zT_m) rfl rfl hl.1 rfl (lv_room (Nat.le_of_ble_eq_true rfl)) dX5_pass_49 ⟨Nat.le_of_ble_eq_true rfl, Nat.le_of_ble_eq_true rfl⟩) hP hD hS hA (fun _ => rfl) (fun _ H locs hr_6 hP hD hS => ?_)
        refine lv_iinc (v := nI (i + 1)) (lv' := [(2, .int (nI (i + 1))), (0, .ref (a 30)), (1, .int x1)]) hx hb dX5_pass_52 hl (k := 0) rfl (z_inc1 i) (by decide) rfl (fun ls hl => ?_)
        refine lv_goto (tgt := 43) hx hb dX5_pass_55 (by decide) ?_
        have e_wtd : (G_days tl so n (td, st, sv, ag, px, pg) (i + 1)).1 = (G_pas tl so n (((G_days tl so n (td, st, sv, ag, px, pg) i).1), ((G_days tl so n (td, st, sv, ag, px, pg) i).2.1), ((G_days tl so n (td, st, sv, ag, px, pg) i).2.2.1), ((G_days tl so n (td, st, sv, ag, px, pg) i).2.2.2.1), ((G_days tl so n (td, st, sv, ag, px, pg) i).2.2.2.2.1), ((G_days tl so n (td, st, sv, ag, px, pg) i).2.2.2.2.2))).1 := by rfl
        have e_wst : (G_days tl so n (td, st, sv, ag, px, pg) (i + 1)).2.1 = (G_pas tl so n (((G_days tl so n (td, st, sv, ag, px, pg) i).1), ((G_days tl so n (td, st, sv, ag, px, pg) i).2.1), ((G_days tl so n (td, st, sv, ag, px, pg) i).2.2.1), ((G_days tl so n (td, st, sv, ag, px, pg) i).2.2.2.1), ((G_days tl so n (td, st, sv, ag, px, pg) i).2.2.2.2.1), ((G_days tl so n (td, st, sv, ag, px, pg) i).2.2.2.2.2))).2.1 := by rfl
        have e_wsv : (G_days tl so n (td, st, sv, ag, px, pg) (i + 1)).2.2.1 = (G_pas tl so n (((G_days tl so n (td, st, sv, ag, px, pg) i).1), ((G_days tl so n (td, st, sv, ag, px, pg) i).2.1), ((G_days tl so n (td, st, sv, ag, px, pg) i).2.2.1), ((G_days tl so n (td, st, sv, ag, px, pg) i).2.2.2.1), ((G_days tl so n (td, st, sv, ag, px, pg) i).2.2.2.2.1), ((G_days tl so n (td, st, sv, ag, px, pg) i).2.2.2.2.2))).2.2.1 := by rfl
        have e_wag : (G_days tl so n (td, st, sv, ag, px, pg) (i + 1)).2.2.2.1 = (G_pas tl so n (((G_days tl so n (td, st, sv, ag, px, pg) i).1), ((G_days tl so n (td, st, sv, ag, px, pg) i).2.1), ((G_days tl so n (td, st, sv, ag, px, pg) i).2.2.1), ((G_days tl so n (td, st, sv, ag, px, pg) i).2.2.2.1), ((G_days tl so n (td, st, sv, ag, px, pg) i).2.2.2.2.1), ((G_days tl so n (td, st, sv, ag, px, pg) i).2.2.2.2.2))).2.2.2.1 := by rfl
        have e_wpx : (G_days tl so n (td, st, sv, ag, px, pg) (i + 1)).2.2.2.2.1 = (G_pas tl so n (((G_days tl so n (td, st, sv, ag, px, pg) i).1), ((G_days tl so n (td, st, sv, ag, px, pg) i).2.1), ((G_days tl so n (td, st, sv, ag, px, pg) i).2.2.1), ((G_days tl so n (td, st, sv, ag, px, pg) i).2.2.2.1), ((G_days tl so n (td, st, sv, ag, px, pg) i).2.2.2.2.1), ((G_days tl so n (td, st, sv, ag, px, pg) i).2.2.2.2.2))).2.2.2.2.1 := by rfl
        have e_wpg : (G_days tl so n (td, st, sv, ag, px, pg) (i + 1)).2.2.2.2.2 = (G_pas tl so n (((G_days tl so n (td, st, sv, ag, px, pg) i).1), ((G_days tl so n (td, st, sv, ag, px, pg) i).2.1), ((G_days tl so n (td, st, sv, ag, px, pg) i).2.2.1), ((G_days tl so n (td, st, sv, ag, px, pg) i).2.2.2.1), ((G_days tl so n (td, st, sv, ag, px, pg) i).2.2.2.2.1), ((G_days tl so n (td, st, sv, ag, px, pg) i).2.2.2.2.2))).2.2.2.2.2 := by rfl
        have hP : va_P D vwCl (wMo cI cJ cZ a 0 ((G_days tl so n (td, st, sv, ag, px, pg) (i + 1)).1) nd n ld sl bd pw dt ((G_days tl so n (td, st, sv, ag, px, pg) (i + 1)).2.1) uc ((G_days tl so n (td, st, sv, ag, px, pg) (i + 1)).2.2.1) tl so ((G_days tl so n (td, st, sv, ag, px, pg) (i + 1)).2.2.2.1) ns ss rg hw ax fu si au ((G_days tl so n (td, st, sv, ag, px, pg) (i + 1)).2.2.2.2.1) ((G_days tl so n (td, st, sv, ag, px, pg) (i + 1)).2.2.2.2.2) py) H := by rw [e_wtd, e_wst, e_wsv, e_wag, e_wpx, e_wpg]; exact hP
        have hl : lv_has ls 3 [(2, .int (nI (i + 1))), (0, .ref (a 30)), (1, .int x1)] := lv_sub hl [0, 1, 2] rfl
        exact ih H locs ls (by omega) trivial hP hS hl
    · refine lv_iconst (v := 2) hx hb dX5_pass_28 (by decide) ?_
      refine lv_goto (tgt := 33) hx hb dX5_pass_29 (by decide) ?_
      refine z_ci (pre := ([] : va_W)) (wc := (wMo cI cJ cZ a th td nd n ld sl bd pw dt st uc sv tl so ag ns ss rg hw ax fu si au px pg py)) (suf := ([] : va_W)) (w1 := fun _ => (wMo cI cJ cZ a 2 td nd n ld sl bd pw dt st uc sv tl so ag ns ss rg hw ax fu si au px pg py)) (va_runV (As := [.int 2]) (rest := []) ⟨hx, hb, hml, hown, hts⟩ (c_X5_refused l D cI cJ cZ a H.size th td nd n ld sl bd pw dt st uc sv tl so ag ns ss rg hw ax fu si au px pg py 2) (cwV 1 hts gX5_pass_X5_refused rfl rfl rfl (by decide +kernel) ⟨Nat.le_of_ble_eq_true rfl, Nat.le_of_ble_eq_true rfl⟩) (z_pv hK hP hD (q0 := 0) (ci := 5) rfl rfl zT_b zT_m) rfl rfl hl.1 rfl (lv_room (Nat.le_of_ble_eq_true rfl)) dX5_pass_33 ⟨Nat.le_of_ble_eq_true rfl, Nat.le_of_ble_eq_true rfl⟩) hP hD hS hA (fun _ => rfl) (fun r_7 _ H locs hr_7 hP hD hS => ?_)
      subst hr_7
      refine W.eq (g2 := F0 m 36 ls [.int 1]) rfl ?_
      refine lv_if_eq (tgt := 41) hx hb dX5_pass_36 (by decide) (fun c9 => absurd c9 (by decide)) (fun _ => ?_)
      refine lv_iconst (v := 0) hx hb dX5_pass_39 (by decide) ?_
      have e_wth : nI (E_pass x1 td) = 2 := by exact (congrArg nI (by first | with_reducible rfl | (simp only [E_pass, F_sel, if_neg c_2, if_neg c_3]; done) | (simp +decide only [E_pass, F_sel, if_neg c_2, if_neg c_3]; done) | (simp [E_pass, F_sel, c_2, c_3]; done) | (simp +decide [E_pass, F_sel, c_2, c_3]; done) : E_pass x1 td = 2)).trans (by decide)
      have e_wtd : F_sel (E_pass x1 td) ((G_days tl so n (td, st, sv, ag, px, pg) (ix x1)).1) td = td := by rw [show (E_pass x1 td) = 2 from (by first | with_reducible rfl | (simp only [E_pass, F_sel, if_neg c_2, if_neg c_3]; done) | (simp +decide only [E_pass, F_sel, if_neg c_2, if_neg c_3]; done) | (simp [E_pass, F_sel, c_2, c_3]; done) | (simp +decide [E_pass, F_sel, c_2, c_3]; done)), F_sel_2]; first | done | (first | with_reducible rfl | (simp only [E_pass, F_sel, if_neg c_2, if_neg c_3]; done) | (simp +decide only [E_pass, F_sel, if_neg c_2, if_neg c_3]; done) | (simp [E_pass, F_sel, c_2, c_3]; done) | (simp +decide [E_pass, F_sel, c_2, c_3]; done))
      have e_wst : F_sel (E_pass x1 td) ((G_days tl so n (td, st, sv, ag, px, pg) (ix x1)).2.1) st = st := by rw [show (E_pass x1 td) = 2 from (by first | with_reducible rfl | (simp only [E_pass, F_sel, if_neg c_2, if_neg c_3]; done) | (simp +decide only [E_pass, F_sel, if_neg c_2, if_neg c_3]; done) | (simp [E_pass, F_sel, c_2, c_3]; done) | (simp +decide [E_pass, F_sel, c_2, c_3]; done)), F_sel_2]; first | done | (first | with_reducible rfl | (simp only [E_pass, F_sel, if_neg c_2, if_neg c_3]; done) | (simp +decide only [E_pass, F_sel, if_neg c_2, if_neg c_3]; done) | (simp [E_pass, F_sel, c_2, c_3]; done) | (simp +decide [E_pass, F_sel, c_2, c_3]; done))
      have e_wsv : F_sel (E_pass x1 td) ((G_days tl so n (td, st, sv, ag, px, pg) (ix x1)).2.2.1) sv = sv := by rw [show (E_pass x1 td) = 2 from (by first | with_reducible rfl | (simp only [E_pass, F_sel, if_neg c_2, if_neg c_3]; done) | (simp +decide only [E_pass, F_sel, if_neg c_2, if_neg c_3]; done) | (simp [E_pass, F_sel, c_2, c_3]; done) | (simp +decide [E_pass, F_sel, c_2, c_3]; done)), F_sel_2]; first | done | (first | with_reducible rfl | (simp only [E_pass, F_sel, if_neg c_2, if_neg c_3]; done) | (simp +decide only [E_pass, F_sel, if_neg c_2, if_neg c_3]; done) | (simp [E_pass, F_sel, c_2, c_3]; done) | (simp +decide [E_pass, F_sel, c_2, c_3]; done))
      have e_wag : F_sel (E_pass x1 td) ((G_days tl so n (td, st, sv, ag, px, pg) (ix x1)).2.2.2.1) ag = ag := by rw [show (E_pass x1 td) = 2 from (by first | with_reducible rfl | (simp only [E_pass, F_sel, if_neg c_2, if_neg c_3]; done) | (simp +decide only [E_pass, F_sel, if_neg c_2, if_neg c_3]; done) | (simp [E_pass, F_sel, c_2, c_3]; done) | (simp +decide [E_pass, F_sel, c_2, c_3]; done)), F_sel_2]; first | done | (first | with_reducible rfl | (simp only [E_pass, F_sel, if_neg c_2, if_neg c_3]; done) | (simp +decide only [E_pass, F_sel, if_neg c_2, if_neg c_3]; done) | (simp [E_pass, F_sel, c_2, c_3]; done) | (simp +decide [E_pass, F_sel, c_2, c_3]; done))
      have e_wpx : F_sel (E_pass x1 td) ((G_days tl so n (td, st, sv, ag, px, pg) (ix x1)).2.2.2.2.1) px = px := by rw [show (E_pass x1 td) = 2 from (by first | with_reducible rfl | (simp only [E_pass, F_sel, if_neg c_2, if_neg c_3]; done) | (simp +decide only [E_pass, F_sel, if_neg c_2, if_neg c_3]; done) | (simp [E_pass, F_sel, c_2, c_3]; done) | (simp +decide [E_pass, F_sel, c_2, c_3]; done)), F_sel_2]; first | done | (first | with_reducible rfl | (simp only [E_pass, F_sel, if_neg c_2, if_neg c_3]; done) | (simp +decide only [E_pass, F_sel, if_neg c_2, if_neg c_3]; done) | (simp [E_pass, F_sel, c_2, c_3]; done) | (simp +decide [E_pass, F_sel, c_2, c_3]; done))
      have e_wpg : F_sel (E_pass x1 td) ((G_days tl so n (td, st, sv, ag, px, pg) (ix x1)).2.2.2.2.2) pg = pg := by rw [show (E_pass x1 td) = 2 from (by first | with_reducible rfl | (simp only [E_pass, F_sel, if_neg c_2, if_neg c_3]; done) | (simp +decide only [E_pass, F_sel, if_neg c_2, if_neg c_3]; done) | (simp [E_pass, F_sel, c_2, c_3]; done) | (simp +decide [E_pass, F_sel, c_2, c_3]; done)), F_sel_2]; first | done | (first | with_reducible rfl | (simp only [E_pass, F_sel, if_neg c_2, if_neg c_3]; done) | (simp +decide only [E_pass, F_sel, if_neg c_2, if_neg c_3]; done) | (simp [E_pass, F_sel, c_2, c_3]; done) | (simp +decide [E_pass, F_sel, c_2, c_3]; done))
      have hP : va_P D vwCl (wMo cI cJ cZ a (nI (E_pass x1 td)) (F_sel (E_pass x1 td) ((G_days tl so n (td, st, sv, ag, px, pg) (ix x1)).1) td) nd n ld sl bd pw dt (F_sel (E_pass x1 td) ((G_days tl so n (td, st, sv, ag, px, pg) (ix x1)).2.1) st) uc (F_sel (E_pass x1 td) ((G_days tl so n (td, st, sv, ag, px, pg) (ix x1)).2.2.1) sv) tl so (F_sel (E_pass x1 td) ((G_days tl so n (td, st, sv, ag, px, pg) (ix x1)).2.2.2.1) ag) ns ss rg hw ax fu si au (F_sel (E_pass x1 td) ((G_days tl so n (td, st, sv, ag, px, pg) (ix x1)).2.2.2.2.1) px) (F_sel (E_pass x1 td) ((G_days tl so n (td, st, sv, ag, px, pg) (ix x1)).2.2.2.2.2) pg) py) H := by rw [e_wth, e_wtd, e_wst, e_wsv, e_wag, e_wpx, e_wpg]; exact hP
      exact W.iret (v := 0) hx hb hr (fun t ht hW => ⟨⟨0, (), rfl, (Eq.symm (by rw [show (E_pass x1 td) = 2 from (by first | with_reducible rfl | (simp only [E_pass, F_sel, if_neg c_2, if_neg c_3]; done) | (simp +decide only [E_pass, F_sel, if_neg c_2, if_neg c_3]; done) | (simp [E_pass, F_sel, c_2, c_3]; done) | (simp +decide [E_pass, F_sel, c_2, c_3]; done)), F_sel_2]; first | done | (first | with_reducible rfl | (simp only [E_pass, F_sel, if_neg c_2, if_neg c_3]; done) | (simp +decide only [E_pass, F_sel, if_neg c_2, if_neg c_3]; done) | (simp [E_pass, F_sel, c_2, c_3]; done) | (simp +decide [E_pass, F_sel, c_2, c_3]; done)) : F_sel (E_pass x1 td) ((G_days tl so n (td, st, sv, ag, px, pg) (ix x1)).1) 0 = 0)), (z_at ht hP)⟩, hS.F ht⟩) hS.2.2 dX5_pass_40
  · refine lv_iconst (v := 1) hx hb dX5_pass_12 (by decide) ?_
    refine lv_goto (tgt := 33) hx hb dX5_pass_13 (by decide) ?_
    refine z_ci (pre := ([] : va_W)) (wc := (wMo cI cJ cZ a th td nd n ld sl bd pw dt st uc sv tl so ag ns ss rg hw ax fu si au px pg py)) (suf := ([] : va_W)) (w1 := fun _ => (wMo cI cJ cZ a 1 td nd n ld sl bd pw dt st uc sv tl so ag ns ss rg hw ax fu si au px pg py)) (va_runV (As := [.int 1]) (rest := []) ⟨hx, hb, hml, hown, hts⟩ (c_X5_refused l D cI cJ cZ a H.size th td nd n ld sl bd pw dt st uc sv tl so ag ns ss rg hw ax fu si au px pg py 1) (cwV 1 hts gX5_pass_X5_refused rfl rfl rfl (by decide +kernel) ⟨Nat.le_of_ble_eq_true rfl, Nat.le_of_ble_eq_true rfl⟩) (z_pv hK hP hD (q0 := 0) (ci := 5) rfl rfl zT_b zT_m) rfl rfl hl.1 rfl (lv_room (Nat.le_of_ble_eq_true rfl)) dX5_pass_33 ⟨Nat.le_of_ble_eq_true rfl, Nat.le_of_ble_eq_true rfl⟩) hP hD hS hA (fun _ => rfl) (fun r_8 _ H locs hr_8 hP hD hS => ?_)
    subst hr_8
    refine W.eq (g2 := F0 m 36 ls [.int 1]) rfl ?_
    refine lv_if_eq (tgt := 41) hx hb dX5_pass_36 (by decide) (fun c9 => absurd c9 (by decide)) (fun _ => ?_)
    refine lv_iconst (v := 0) hx hb dX5_pass_39 (by decide) ?_
    have e_wth : nI (E_pass x1 td) = 1 := by exact (congrArg nI (by first | with_reducible rfl | (simp only [E_pass, F_sel, if_pos c_2]; done) | (simp +decide only [E_pass, F_sel, if_pos c_2]; done) | (simp [E_pass, F_sel, c_2]; done) | (simp +decide [E_pass, F_sel, c_2]; done) : E_pass x1 td = 1)).trans (by decide)
    have e_wtd : F_sel (E_pass x1 td) ((G_days tl so n (td, st, sv, ag, px, pg) (ix x1)).1) td = td := by rw [show (E_pass x1 td) = 1 from (by first | with_reducible rfl | (simp only [E_pass, F_sel, if_pos c_2]; done) | (simp +decide only [E_pass, F_sel, if_pos c_2]; done) | (simp [E_pass, F_sel, c_2]; done) | (simp +decide [E_pass, F_sel, c_2]; done)), F_sel_1]; first | done | (first | with_reducible rfl | (simp only [E_pass, F_sel, if_pos c_2]; done) | (simp +decide only [E_pass, F_sel, if_pos c_2]; done) | (simp [E_pass, F_sel, c_2]; done) | (simp +decide [E_pass, F_sel, c_2]; done))
    have e_wst : F_sel (E_pass x1 td) ((G_days tl so n (td, st, sv, ag, px, pg) (ix x1)).2.1) st = st := by rw [show (E_pass x1 td) = 1 from (by first | with_reducible rfl | (simp only [E_pass, F_sel, if_pos c_2]; done) | (simp +decide only [E_pass, F_sel, if_pos c_2]; done) | (simp [E_pass, F_sel, c_2]; done) | (simp +decide [E_pass, F_sel, c_2]; done)), F_sel_1]; first | done | (first | with_reducible rfl | (simp only [E_pass, F_sel, if_pos c_2]; done) | (simp +decide only [E_pass, F_sel, if_pos c_2]; done) | (simp [E_pass, F_sel, c_2]; done) | (simp +decide [E_pass, F_sel, c_2]; done))
    have e_wsv : F_sel (E_pass x1 td) ((G_days tl so n (td, st, sv, ag, px, pg) (ix x1)).2.2.1) sv = sv := by rw [show (E_pass x1 td) = 1 from (by first | with_reducible rfl | (simp only [E_pass, F_sel, if_pos c_2]; done) | (simp +decide only [E_pass, F_sel, if_pos c_2]; done) | (simp [E_pass, F_sel, c_2]; done) | (simp +decide [E_pass, F_sel, c_2]; done)), F_sel_1]; first | done | (first | with_reducible rfl | (simp only [E_pass, F_sel, if_pos c_2]; done) | (simp +decide only [E_pass, F_sel, if_pos c_2]; done) | (simp [E_pass, F_sel, c_2]; done) | (simp +decide [E_pass, F_sel, c_2]; done))
    have e_wag : F_sel (E_pass x1 td) ((G_days tl so n (td, st, sv, ag, px, pg) (ix x1)).2.2.2.1) ag = ag := by rw [show (E_pass x1 td) = 1 from (by first | with_reducible rfl | (simp only [E_pass, F_sel, if_pos c_2]; done) | (simp +decide only [E_pass, F_sel, if_pos c_2]; done) | (simp [E_pass, F_sel, c_2]; done) | (simp +decide [E_pass, F_sel, c_2]; done)), F_sel_1]; first | done | (first | with_reducible rfl | (simp only [E_pass, F_sel, if_pos c_2]; done) | (simp +decide only [E_pass, F_sel, if_pos c_2]; done) | (simp [E_pass, F_sel, c_2]; done) | (simp +decide [E_pass, F_sel, c_2]; done))
    have e_wpx : F_sel (E_pass x1 td) ((G_days tl so n (td, st, sv, ag, px, pg) (ix x1)).2.2.2.2.1) px = px := by rw [show (E_pass x1 td) = 1 from (by first | with_reducible rfl | (simp only [E_pass, F_sel, if_pos c_2]; done) | (simp +decide only [E_pass, F_sel, if_pos c_2]; done) | (simp [E_pass, F_sel, c_2]; done) | (simp +decide [E_pass, F_sel, c_2]; done)), F_sel_1]; first | done | (first | with_reducible rfl | (simp only [E_pass, F_sel, if_pos c_2]; done) | (simp +decide only [E_pass, F_sel, if_pos c_2]; done) | (simp [E_pass, F_sel, c_2]; done) | (simp +decide [E_pass, F_sel, c_2]; done))
    have e_wpg : F_sel (E_pass x1 td) ((G_days tl so n (td, st, sv, ag, px, pg) (ix x1)).2.2.2.2.2) pg = pg := by rw [show (E_pass x1 td) = 1 from (by first | with_reducible rfl | (simp only [E_pass, F_sel, if_pos c_2]; done) | (simp +decide only [E_pass, F_sel, if_pos c_2]; done) | (simp [E_pass, F_sel, c_2]; done) | (simp +decide [E_pass, F_sel, c_2]; done)), F_sel_1]; first | done | (first | with_reducible rfl | (simp only [E_pass, F_sel, if_pos c_2]; done) | (simp +decide only [E_pass, F_sel, if_pos c_2]; done) | (simp [E_pass, F_sel, c_2]; done) | (simp +decide [E_pass, F_sel, c_2]; done))
    have hP : va_P D vwCl (wMo cI cJ cZ a (nI (E_pass x1 td)) (F_sel (E_pass x1 td) ((G_days tl so n (td, st, sv, ag, px, pg) (ix x1)).1) td) nd n ld sl bd pw dt (F_sel (E_pass x1 td) ((G_days tl so n (td, st, sv, ag, px, pg) (ix x1)).2.1) st) uc (F_sel (E_pass x1 td) ((G_days tl so n (td, st, sv, ag, px, pg) (ix x1)).2.2.1) sv) tl so (F_sel (E_pass x1 td) ((G_days tl so n (td, st, sv, ag, px, pg) (ix x1)).2.2.2.1) ag) ns ss rg hw ax fu si au (F_sel (E_pass x1 td) ((G_days tl so n (td, st, sv, ag, px, pg) (ix x1)).2.2.2.2.1) px) (F_sel (E_pass x1 td) ((G_days tl so n (td, st, sv, ag, px, pg) (ix x1)).2.2.2.2.2) pg) py) H := by rw [e_wth, e_wtd, e_wst, e_wsv, e_wag, e_wpx, e_wpg]; exact hP
    exact W.iret (v := 0) hx hb hr (fun t ht hW => ⟨⟨0, (), rfl, (Eq.symm (by rw [show (E_pass x1 td) = 1 from (by first | with_reducible rfl | (simp only [E_pass, F_sel, if_pos c_2]; done) | (simp +decide only [E_pass, F_sel, if_pos c_2]; done) | (simp [E_pass, F_sel, c_2]; done) | (simp +decide [E_pass, F_sel, c_2]; done)), F_sel_1]; first | done | (first | with_reducible rfl | (simp only [E_pass, F_sel, if_pos c_2]; done) | (simp +decide only [E_pass, F_sel, if_pos c_2]; done) | (simp [E_pass, F_sel, c_2]; done) | (simp +decide [E_pass, F_sel, c_2]; done)) : F_sel (E_pass x1 td) ((G_days tl so n (td, st, sv, ag, px, pg) (ix x1)).1) 0 = 0)), (z_at ht hP)⟩, hS.F ht⟩) hS.2.2 dX5_pass_40
theorem k_X5_day_1 : (Cond.fieldLink RX5 75 "OrbitregisterModel" "thrown" "I") ∈ wsX5_day := List.mem_of_getElem? (i := 1) rfl
theorem b_X5_day_wsX50 : ∀ w ∈ wsX50, w ∈ wsX5_day := fun _ h => List.mem_cons_of_mem _ (List.mem_append_right _ h)
theorem k_X5_day_2 : (Cond.fieldLink RX5 117 "OrbitregisterModel" "day" "I") ∈ wsX5_day := List.mem_of_getElem? (i := 2) rfl
set_option maxHeartbeats 4000000 in
set_option maxRecDepth 100000 in
theorem c_X5_day (l : Launch) (D : va_G) (cI cJ cZ : ClassId) (a : Nat → Nat) (sz : Nat) (th : Int32) (td : Int32) (nd : Int32) (n : Nat) (ld : A32) (sl : A32) (bd : A32) (pw : A32) (dt : A32) (st : A32) (uc : A32) (sv : A32) (tl : A32) (so : A32) (ag : A32) (ns : Nat) (ss : A32) (rg : A32) (hw : A32) (ax : A32) (fu : A32) (si : A32) (au : A32) (px : A32) (pg : A32) (py : A64) : Met l yX5_day wsX5_day ({ frames := 0, cells := 0, slots := 0, locals := 0 }) (va_Pc [.ref (a 30)] (ZP D (zt cI cJ cZ) (wMo cI cJ cZ a th td nd n ld sl bd pw dt st uc sv tl so ag ns ss rg hw ax fu si au px pg py) sz zT)) (va_Qi (fun (r : Int32) (_ : Unit) => r = td) (fun _ t => va_P D vwCl (wMo cI cJ cZ a 0 td nd n ld sl bd pw dt st uc sv tl so ag ns ss rg hw ax fu si au px pg py) t.heap) (va_A (wMo cI cJ cZ a th td nd n ld sl bd pw dt st uc sv tl so ag ns ss rg hw ax fu si au px pg py) sz)) 0 0 (va_A (wMo cI cJ cZ a th td nd n ld sl bd pw dt st uc sv tl so ag ns ss rg hw ax fu si au px pg py) sz) := by
  refine Met.ofW (cc := cX5_day) (maxL := 1) (ret := (some .int)) (by decide) rfl ?_
  intro p e s m args below meth c s₁ B hml hv
  obtain ⟨rfl, hsz, hP, hK, hD0, hE⟩ := hv
  have hx := B.exec
  have hb := B.bytes
  have hr := B.returns
  have hts := atoms_spec (ws := wsX5_day) B.pre
  have hown : s.vm.findClass RX5 = some m.cls := findClass_of_methodNamed B.named
  have hlocks := B.notSynchronized
  subst hsz
  have hD := hD0.self (sz := s.heap.size)
  generalize hAe : va_A (wMo cI cJ cZ a th td nd n ld sl bd pw dt st uc sv tl so ag ns ss rg hw ax fu si au px pg py) s.heap.size = A at hD ⊢
  have hA : ∀ q : Nat, s.heap.size ≤ q → A q := fun q h => by rw [← hAe]; exact Or.inr h
  have hS : va_S A s.heap s.heap [] := va_S.rf
  have hl := lv_entry ([.ref (a 30)]) (n := 1) (Nat.le_of_ble_eq_true rfl)
  rw [lg_entry_eq]
  generalize (lg_sl ([.ref (a 30)]) ++ List.replicate (1 - (lg_sl ([.ref (a 30)])).length) Slot.unset).toArray = ls at hl ⊢
  have hl : lv_has ls 1 [(0, .ref (a 30))] := hl
  have hP : va_P D vwCl (wMo cI cJ cZ a th td nd n ld sl bd pw dt st uc sv tl so ag ns ss rg hw ax fu si au px pg py) s.heap := hP
  refine lv_aload_n hx hb dX5_day_0 rfl (lv_at hl 0 rfl) ?_
  refine lv_iconst (v := 0) hx hb dX5_day_1 (by decide) ?_
  refine z_put (ci := 5) (C := RX5) (T := TX5) (N := 26) hx hb hts b_X5_day_wsX50 tyX5 tyX5_ok nmX5 hown hK hP hD hS 0 rfl rfl 0 (by decide) (hts _ k_X5_day_1) rfl rfl (by decide +kernel) (Nat.le_of_ble_eq_true rfl) dX5_day_2 (wMo cI cJ cZ a 0 td nd n ld sl bd pw dt st uc sv tl so ag ns ss rg hw ax fu si au px pg py) rfl (fun H locs hP hD hS => ?_)
  refine lv_aload_n hx hb dX5_day_5 rfl (lv_at hl 0 rfl) ?_
  refine z_get (ci := 5) (C := RX5) (T := TX5) (N := 26) hx hb hts b_X5_day_wsX50 hown hK hP 0 rfl rfl 1 (by decide) (hts _ k_X5_day_2) rfl (.int td) rfl dX5_day_6 ?_
  exact W.iret (v := td) hx hb hr (fun t ht hW => ⟨⟨td, (), rfl, rfl, (z_at ht hP)⟩, hS.F ht⟩) hS.2.2 dX5_day_9
theorem k_X5_filingOf_1 : (Cond.fieldLink RX5 7 "OrbitregisterModel" "land" "[I") ∈ wsX5_filingOf := List.mem_of_getElem? (i := 1) rfl
theorem b_X5_filingOf_wsX50 : ∀ w ∈ wsX50, w ∈ wsX5_filingOf := fun _ h => List.mem_cons_of_mem _ (List.mem_append_right _ h)
theorem k_X5_filingOf_2 : (Cond.fieldLink RX5 13 "OrbitregisterModel" "slot" "[I") ∈ wsX5_filingOf := List.mem_of_getElem? (i := 2) rfl
theorem k_X5_filingOf_3 : (Cond.fieldLink RX5 16 "OrbitregisterModel" "band" "[I") ∈ wsX5_filingOf := List.mem_of_getElem? (i := 3) rfl
theorem k_X5_filingOf_4 : (Cond.fieldLink RX5 19 "OrbitregisterModel" "power" "[I") ∈ wsX5_filingOf := List.mem_of_getElem? (i := 4) rfl
theorem k_X5_filingOf_5 : (Cond.fieldLink RX5 22 "OrbitregisterModel" "date" "[I") ∈ wsX5_filingOf := List.mem_of_getElem? (i := 5) rfl
theorem k_X5_filingOf_6 : (Cond.fieldLink RX5 25 "OrbitregisterModel" "state" "[I") ∈ wsX5_filingOf := List.mem_of_getElem? (i := 6) rfl
theorem k_X5_filingOf_7 : (Cond.fieldLink RX5 28 "OrbitregisterModel" "wasUnclear" "[Z") ∈ wsX5_filingOf := List.mem_of_getElem? (i := 7) rfl
theorem k_X5_filingOf_8 : (Cond.fieldLink RX5 32 "OrbitregisterModel" "servedBy" "[I") ∈ wsX5_filingOf := List.mem_of_getElem? (i := 8) rfl
set_option maxHeartbeats 4000000 in
set_option maxRecDepth 100000 in
theorem c_X5_filingOf (l : Launch) (D : va_G) (cI cJ cZ : ClassId) (a : Nat → Nat) (sz : Nat) (th : Int32) (td : Int32) (nd : Int32) (n : Nat) (ld : A32) (sl : A32) (bd : A32) (pw : A32) (dt : A32) (st : A32) (uc : A32) (sv : A32) (tl : A32) (so : A32) (ag : A32) (ns : Nat) (ss : A32) (rg : A32) (hw : A32) (ax : A32) (fu : A32) (si : A32) (au : A32) (px : A32) (pg : A32) (py : A64) (x1 : Int32) (x2 : Int32) (hn : n ≤ 40) : Met l yX5_filingOf wsX5_filingOf ({ frames := 2, cells := 0, slots := 0, locals := 43 }) (va_Pc [.ref (a 30), .int x1, .int x2] (ZP D (zt cI cJ cZ) (wMo cI cJ cZ a th td nd n ld sl bd pw dt st uc sv tl so ag ns ss rg hw ax fu si au px pg py) sz zT)) (va_Qi (fun (r : Int32) (_ : Unit) => r = F_sel (E_filingOf x1 x2 n) (G_fof ld sl bd pw dt st uc sv tl so (ix x1) (ix x2)) 0) (fun _ t => va_P D vwCl (wMo cI cJ cZ a (nI (E_filingOf x1 x2 n)) td nd n ld sl bd pw dt st uc sv tl so ag ns ss rg hw ax fu si au px pg py) t.heap) (va_A (wMo cI cJ cZ a th td nd n ld sl bd pw dt st uc sv tl so ag ns ss rg hw ax fu si au px pg py) sz)) 0 0 (va_A (wMo cI cJ cZ a th td nd n ld sl bd pw dt st uc sv tl so ag ns ss rg hw ax fu si au px pg py) sz) := by
  refine Met.ofW (cc := cX5_filingOf) (maxL := 3) (ret := (some .int)) (by decide) rfl ?_
  intro p e s m args below meth c s₁ B hml hv
  obtain ⟨rfl, hsz, hP, hK, hD0, hE⟩ := hv
  have hx := B.exec
  have hb := B.bytes
  have hr := B.returns
  have hts := atoms_spec (ws := wsX5_filingOf) B.pre
  have hown : s.vm.findClass RX5 = some m.cls := findClass_of_methodNamed B.named
  have hlocks := B.notSynchronized
  subst hsz
  have hD := hD0.self (sz := s.heap.size)
  generalize hAe : va_A (wMo cI cJ cZ a th td nd n ld sl bd pw dt st uc sv tl so ag ns ss rg hw ax fu si au px pg py) s.heap.size = A at hD ⊢
  have hA : ∀ q : Nat, s.heap.size ≤ q → A q := fun q h => by rw [← hAe]; exact Or.inr h
  have hS : va_S A s.heap s.heap [] := va_S.rf
  have hl := lv_entry ([.ref (a 30), .int x1, .int x2]) (n := 3) (Nat.le_of_ble_eq_true rfl)
  rw [lg_entry_eq]
  generalize (lg_sl ([.ref (a 30), .int x1, .int x2]) ++ List.replicate (3 - (lg_sl ([.ref (a 30), .int x1, .int x2])).length) Slot.unset).toArray = ls at hl ⊢
  have hl : lv_has ls 3 [(0, .ref (a 30)), (1, .int x1), (2, .int x2)] := hl
  have hP : va_P D vwCl (wMo cI cJ cZ a th td nd n ld sl bd pw dt st uc sv tl so ag ns ss rg hw ax fu si au px pg py) s.heap := hP
  refine lv_aload_n hx hb dX5_filingOf_0 rfl (lv_at hl 0 rfl) ?_
  refine lv_aload_n hx hb dX5_filingOf_1 rfl (lv_at hl 0 rfl) ?_
  refine lv_iload_n hx hb dX5_filingOf_2 rfl (lv_at hl 1 rfl) ?_
  refine z_ri (va_runV (As := [.int x1]) (rest := [.ref (a 30)]) ⟨hx, hb, hml, hown, hts⟩ (c_X5_isFiling l D cI cJ cZ a s.heap.size th td nd n ld sl bd pw dt st uc sv tl so ag ns ss rg hw ax fu si au px pg py x1) (cwV 1 hts gX5_filingOf_X5_isFiling rfl rfl rfl (by decide +kernel) ⟨Nat.le_of_ble_eq_true rfl, Nat.le_of_ble_eq_true rfl⟩) (z_pv hK hP hD (q0 := 0) (ci := 5) rfl rfl zT_b zT_m) rfl rfl hl.1 rfl (lv_room (Nat.le_of_ble_eq_true rfl)) dX5_filingOf_3 ⟨Nat.le_of_ble_eq_true rfl, Nat.le_of_ble_eq_true rfl⟩) hP hS hA (fun r_1 _ H locs hr_1 hP hS => ?_)
  subst hr_1
  refine lv_if_ne (tgt := 13) hx hb dX5_filingOf_6 (by decide) (fun c_2 => ?_) (fun c_2 => ?_)
  · obtain ⟨g_x1, g_x1b⟩ := F_in_ix c_2 (by omega)
    refine lv_iload_n hx hb dX5_filingOf_13 rfl (lv_at hl 2 rfl) ?_
    refine lv_iconst (v := 0) hx hb dX5_filingOf_14 (by decide) ?_
    refine lv_bipush (v := 8) hx hb dX5_filingOf_15 (by decide) ?_
    refine z_ri (va_runS (As := [.int x2, .int 0, .int 8]) (rest := [.ref (a 30)]) ⟨hx, hb, hml, hown, hts⟩ (c_X5_in l D cI cJ cZ a H.size x2 0 8) (va_cwS 3 hts gX5_filingOf_X5_in rfl rfl rfl (by decide +kernel) ⟨Nat.le_of_ble_eq_true rfl, Nat.le_of_ble_eq_true rfl⟩) (z_ps hK zP_0 zD_0 zT_b zT_m) rfl rfl hl.1 rfl (lv_room (Nat.le_of_ble_eq_true rfl)) dX5_filingOf_17 ⟨Nat.le_of_ble_eq_true rfl, Nat.le_of_ble_eq_true rfl⟩) hP hS hA (fun r_3 _ H locs hr_3 hP hS => ?_)
    subst hr_3
    refine lv_if_ne (tgt := 27) hx hb dX5_filingOf_20 (by decide) (fun c_4 => ?_) (fun c_4 => ?_)
    · refine lv_iconst (v := 0) hx hb dX5_filingOf_27 (by decide) ?_
      refine z_ci (pre := ([] : va_W)) (wc := (wMo cI cJ cZ a th td nd n ld sl bd pw dt st uc sv tl so ag ns ss rg hw ax fu si au px pg py)) (suf := ([] : va_W)) (w1 := fun _ => (wMo cI cJ cZ a 0 td nd n ld sl bd pw dt st uc sv tl so ag ns ss rg hw ax fu si au px pg py)) (va_runV (As := [.int 0]) (rest := []) ⟨hx, hb, hml, hown, hts⟩ (c_X5_refused l D cI cJ cZ a H.size th td nd n ld sl bd pw dt st uc sv tl so ag ns ss rg hw ax fu si au px pg py 0) (cwV 1 hts gX5_filingOf_X5_refused rfl rfl rfl (by decide +kernel) ⟨Nat.le_of_ble_eq_true rfl, Nat.le_of_ble_eq_true rfl⟩) (z_pv hK hP hD (q0 := 0) (ci := 5) rfl rfl zT_b zT_m) rfl rfl hl.1 rfl (lv_room (Nat.le_of_ble_eq_true rfl)) dX5_filingOf_28 ⟨Nat.le_of_ble_eq_true rfl, Nat.le_of_ble_eq_true rfl⟩) hP hD hS hA (fun _ => rfl) (fun r_5 _ H locs hr_5 hP hD hS => ?_)
      subst hr_5
      refine W.eq (g2 := F0 m 31 ls [.int 0]) rfl ?_
      refine lv_if_eq (tgt := 36) hx hb dX5_filingOf_31 (by decide) (fun _ => ?_) (fun c9 => absurd (by decide) c9)
      obtain ⟨g_x2, g_x2b⟩ := F_in_nat 9 c_4 (by decide)
      refine lv_iload_n hx hb dX5_filingOf_36 rfl (lv_at hl 2 rfl) ?_
      rcases (show ix x2 = 0 ∨ ix x2 = 1 ∨ ix x2 = 2 ∨ ix x2 = 3 ∨ ix x2 = 4 ∨ ix x2 = 5 ∨ ix x2 = 6 ∨ ix x2 = 7 ∨ ix x2 = 8 by omega) with k9 | k9 | k9 | k9 | k9 | k9 | k9 | k9 | k9
      · have e9 : x2 = nI 0 := by rw [g_x2, k9]
        refine lv_tableIn (off := 47) (tgt := 84) hx hb dX5_filingOf_37 (by rw [e9]; decide) (by rw [e9]; decide) (by rw [e9]; decide) (by decide) ?_
        refine lv_aload_n hx hb dX5_filingOf_84 rfl (lv_at hl 0 rfl) ?_
        refine z_get (ci := 5) (C := RX5) (T := TX5) (N := 26) hx hb hts b_X5_filingOf_wsX50 hown hK hP 0 rfl rfl 4 (by decide) (hts _ k_X5_filingOf_1) rfl (.ref (a 31)) rfl dX5_filingOf_85 ?_
        refine lv_iload_n hx hb dX5_filingOf_88 rfl (lv_at hl 1 rfl) ?_
        refine z_iald hx hb hK hP 1 0 rfl rfl (ix x1) g_x1 (by omega) rfl dX5_filingOf_89 ?_
        have e_wth : nI (E_filingOf x1 x2 n) = 0 := by exact (congrArg nI (by first | with_reducible rfl | (simp only [E_filingOf, F_sel, G_fof, if_neg c_2, if_neg c_4]; done) | (simp +decide only [E_filingOf, F_sel, G_fof, k9, if_neg c_2, if_neg c_4]; done) | (simp [E_filingOf, F_sel, G_fof, c_2, c_4, k9]; done) | (simp +decide [E_filingOf, F_sel, G_fof, c_2, c_4, k9]; done) : E_filingOf x1 x2 n = 0)).trans (by decide)
        have hP : va_P D vwCl (wMo cI cJ cZ a (nI (E_filingOf x1 x2 n)) td nd n ld sl bd pw dt st uc sv tl so ag ns ss rg hw ax fu si au px pg py) H := by rw [e_wth]; exact hP
        exact W.iret (v := ld (ix x1)) hx hb hr (fun t ht hW => ⟨⟨ld (ix x1), (), rfl, (Eq.symm (by rw [show (E_filingOf x1 x2 n) = 0 from (by first | with_reducible rfl | (simp only [E_filingOf, F_sel, G_fof, if_neg c_2, if_neg c_4]; done) | (simp +decide only [E_filingOf, F_sel, G_fof, k9, if_neg c_2, if_neg c_4]; done) | (simp [E_filingOf, F_sel, G_fof, c_2, c_4, k9]; done) | (simp +decide [E_filingOf, F_sel, G_fof, c_2, c_4, k9]; done)), F_sel_0]; first | done | (first | with_reducible rfl | (simp only [E_filingOf, F_sel, G_fof, if_neg c_2, if_neg c_4]; done) | (simp +decide only [E_filingOf, F_sel, G_fof, k9, if_neg c_2, if_neg c_4]; done) | (simp [E_filingOf, F_sel, G_fof, c_2, c_4, k9]; done) | (simp +decide [E_filingOf, F_sel, G_fof, c_2, c_4, k9]; done)) : F_sel (E_filingOf x1 x2 n) (G_fof ld sl bd pw dt st uc sv tl so (ix x1) (ix x2)) 0 = ld (ix x1))), (z_at ht hP)⟩, hS.F ht⟩) hS.2.2 dX5_filingOf_90
      · have e9 : x2 = nI 1 := by rw [g_x2, k9]
        refine lv_tableIn (off := 54) (tgt := 91) hx hb dX5_filingOf_37 (by rw [e9]; decide) (by rw [e9]; decide) (by rw [e9]; decide) (by decide) ?_
        refine lv_aload_n hx hb dX5_filingOf_91 rfl (lv_at hl 0 rfl) ?_
        refine z_get (ci := 5) (C := RX5) (T := TX5) (N := 26) hx hb hts b_X5_filingOf_wsX50 hown hK hP 0 rfl rfl 5 (by decide) (hts _ k_X5_filingOf_2) rfl (.ref (a 32)) rfl dX5_filingOf_92 ?_
        refine lv_iload_n hx hb dX5_filingOf_95 rfl (lv_at hl 1 rfl) ?_
        refine z_iald hx hb hK hP 2 0 rfl rfl (ix x1) g_x1 (by omega) rfl dX5_filingOf_96 ?_
        have e_wth : nI (E_filingOf x1 x2 n) = 0 := by exact (congrArg nI (by first | with_reducible rfl | (simp only [E_filingOf, F_sel, G_fof, if_neg c_2, if_neg c_4]; done) | (simp +decide only [E_filingOf, F_sel, G_fof, k9, if_neg c_2, if_neg c_4]; done) | (simp [E_filingOf, F_sel, G_fof, c_2, c_4, k9]; done) | (simp +decide [E_filingOf, F_sel, G_fof, c_2, c_4, k9]; done) : E_filingOf x1 x2 n = 0)).trans (by decide)
        have hP : va_P D vwCl (wMo cI cJ cZ a (nI (E_filingOf x1 x2 n)) td nd n ld sl bd pw dt st uc sv tl so ag ns ss rg hw ax fu si au px pg py) H := by rw [e_wth]; exact hP
        exact W.iret (v := sl (ix x1)) hx hb hr (fun t ht hW => ⟨⟨sl (ix x1), (), rfl, (Eq.symm (by rw [show (E_filingOf x1 x2 n) = 0 from (by first | with_reducible rfl | (simp only [E_filingOf, F_sel, G_fof, if_neg c_2, if_neg c_4]; done) | (simp +decide only [E_filingOf, F_sel, G_fof, k9, if_neg c_2, if_neg c_4]; done) | (simp [E_filingOf, F_sel, G_fof, c_2, c_4, k9]; done) | (simp +decide [E_filingOf, F_sel, G_fof, c_2, c_4, k9]; done)), F_sel_0]; first | done | (first | with_reducible rfl | (simp only [E_filingOf, F_sel, G_fof, if_neg c_2, if_neg c_4]; done) | (simp +decide only [E_filingOf, F_sel, G_fof, k9, if_neg c_2, if_neg c_4]; done) | (simp [E_filingOf, F_sel, G_fof, c_2, c_4, k9]; done) | (simp +decide [E_filingOf, F_sel, G_fof, c_2, c_4, k9]; done)) : F_sel (E_filingOf x1 x2 n) (G_fof ld sl bd pw dt st uc sv tl so (ix x1) (ix x2)) 0 = sl (ix x1))), (z_at ht hP)⟩, hS.F ht⟩) hS.2.2 dX5_filingOf_97
      · have e9 : x2 = nI 2 := by rw [g_x2, k9]
        refine lv_tableIn (off := 61) (tgt := 98) hx hb dX5_filingOf_37 (by rw [e9]; decide) (by rw [e9]; decide) (by rw [e9]; decide) (by decide) ?_
        refine lv_aload_n hx hb dX5_filingOf_98 rfl (lv_at hl 0 rfl) ?_
        refine z_get (ci := 5) (C := RX5) (T := TX5) (N := 26) hx hb hts b_X5_filingOf_wsX50 hown hK hP 0 rfl rfl 6 (by decide) (hts _ k_X5_filingOf_3) rfl (.ref (a 33)) rfl dX5_filingOf_99 ?_
        refine lv_iload_n hx hb dX5_filingOf_102 rfl (lv_at hl 1 rfl) ?_
        refine z_iald hx hb hK hP 3 0 rfl rfl (ix x1) g_x1 (by omega) rfl dX5_filingOf_103 ?_
        have e_wth : nI (E_filingOf x1 x2 n) = 0 := by exact (congrArg nI (by first | with_reducible rfl | (simp only [E_filingOf, F_sel, G_fof, if_neg c_2, if_neg c_4]; done) | (simp +decide only [E_filingOf, F_sel, G_fof, k9, if_neg c_2, if_neg c_4]; done) | (simp [E_filingOf, F_sel, G_fof, c_2, c_4, k9]; done) | (simp +decide [E_filingOf, F_sel, G_fof, c_2, c_4, k9]; done) : E_filingOf x1 x2 n = 0)).trans (by decide)
        have hP : va_P D vwCl (wMo cI cJ cZ a (nI (E_filingOf x1 x2 n)) td nd n ld sl bd pw dt st uc sv tl so ag ns ss rg hw ax fu si au px pg py) H := by rw [e_wth]; exact hP
        exact W.iret (v := bd (ix x1)) hx hb hr (fun t ht hW => ⟨⟨bd (ix x1), (), rfl, (Eq.symm (by rw [show (E_filingOf x1 x2 n) = 0 from (by first | with_reducible rfl | (simp only [E_filingOf, F_sel, G_fof, if_neg c_2, if_neg c_4]; done) | (simp +decide only [E_filingOf, F_sel, G_fof, k9, if_neg c_2, if_neg c_4]; done) | (simp [E_filingOf, F_sel, G_fof, c_2, c_4, k9]; done) | (simp +decide [E_filingOf, F_sel, G_fof, c_2, c_4, k9]; done)), F_sel_0]; first | done | (first | with_reducible rfl | (simp only [E_filingOf, F_sel, G_fof, if_neg c_2, if_neg c_4]; done) | (simp +decide only [E_filingOf, F_sel, G_fof, k9, if_neg c_2, if_neg c_4]; done) | (simp [E_filingOf, F_sel, G_fof, c_2, c_4, k9]; done) | (simp +decide [E_filingOf, F_sel, G_fof, c_2, c_4, k9]; done)) : F_sel (E_filingOf x1 x2 n) (G_fof ld sl bd pw dt st uc sv tl so (ix x1) (ix x2)) 0 = bd (ix x1))), (z_at ht hP)⟩, hS.F ht⟩) hS.2.2 dX5_filingOf_104
      · have e9 : x2 = nI 3 := by rw [g_x2, k9]
        refine lv_tableIn (off := 68) (tgt := 105) hx hb dX5_filingOf_37 (by rw [e9]; decide) (by rw [e9]; decide) (by rw [e9]; decide) (by decide) ?_
        refine lv_aload_n hx hb dX5_filingOf_105 rfl (lv_at hl 0 rfl) ?_
        refine z_get (ci := 5) (C := RX5) (T := TX5) (N := 26) hx hb hts b_X5_filingOf_wsX50 hown hK hP 0 rfl rfl 7 (by decide) (hts _ k_X5_filingOf_4) rfl (.ref (a 34)) rfl dX5_filingOf_106 ?_
        refine lv_iload_n hx hb dX5_filingOf_109 rfl (lv_at hl 1 rfl) ?_
        refine z_iald hx hb hK hP 4 0 rfl rfl (ix x1) g_x1 (by omega) rfl dX5_filingOf_110 ?_
        have e_wth : nI (E_filingOf x1 x2 n) = 0 := by exact (congrArg nI (by first | with_reducible rfl | (simp only [E_filingOf, F_sel, G_fof, if_neg c_2, if_neg c_4]; done) | (simp +decide only [E_filingOf, F_sel, G_fof, k9, if_neg c_2, if_neg c_4]; done) | (simp [E_filingOf, F_sel, G_fof, c_2, c_4, k9]; done) | (simp +decide [E_filingOf, F_sel, G_fof, c_2, c_4, k9]; done) : E_filingOf x1 x2 n = 0)).trans (by decide)
        have hP : va_P D vwCl (wMo cI cJ cZ a (nI (E_filingOf x1 x2 n)) td nd n ld sl bd pw dt st uc sv tl so ag ns ss rg hw ax fu si au px pg py) H := by rw [e_wth]; exact hP
        exact W.iret (v := pw (ix x1)) hx hb hr (fun t ht hW => ⟨⟨pw (ix x1), (), rfl, (Eq.symm (by rw [show (E_filingOf x1 x2 n) = 0 from (by first | with_reducible rfl | (simp only [E_filingOf, F_sel, G_fof, if_neg c_2, if_neg c_4]; done) | (simp +decide only [E_filingOf, F_sel, G_fof, k9, if_neg c_2, if_neg c_4]; done) | (simp [E_filingOf, F_sel, G_fof, c_2, c_4, k9]; done) | (simp +decide [E_filingOf, F_sel, G_fof, c_2, c_4, k9]; done)), F_sel_0]; first | done | (first | with_reducible rfl | (simp only [E_filingOf, F_sel, G_fof, if_neg c_2, if_neg c_4]; done) | (simp +decide only [E_filingOf, F_sel, G_fof, k9, if_neg c_2, if_neg c_4]; done) | (simp [E_filingOf, F_sel, G_fof, c_2, c_4, k9]; done) | (simp +decide [E_filingOf, F_sel, G_fof, c_2, c_4, k9]; done)) : F_sel (E_filingOf x1 x2 n) (G_fof ld sl bd pw dt st uc sv tl so (ix x1) (ix x2)) 0 = pw (ix x1))), (z_at ht hP)⟩, hS.F ht⟩) hS.2.2 dX5_filingOf_111
      · have e9 : x2 = nI 4 := by rw [g_x2, k9]
        refine lv_tableIn (off := 75) (tgt := 112) hx hb dX5_filingOf_37 (by rw [e9]; decide) (by rw [e9]; decide) (by rw [e9]; decide) (by decide) ?_
        refine lv_aload_n hx hb dX5_filingOf_112 rfl (lv_at hl 0 rfl) ?_
        refine z_get (ci := 5) (C := RX5) (T := TX5) (N := 26) hx hb hts b_X5_filingOf_wsX50 hown hK hP 0 rfl rfl 8 (by decide) (hts _ k_X5_filingOf_5) rfl (.ref (a 35)) rfl dX5_filingOf_113 ?_
        refine lv_iload_n hx hb dX5_filingOf_116 rfl (lv_at hl 1 rfl) ?_
        refine z_iald hx hb hK hP 5 0 rfl rfl (ix x1) g_x1 (by omega) rfl dX5_filingOf_117 ?_
        have e_wth : nI (E_filingOf x1 x2 n) = 0 := by exact (congrArg nI (by first | with_reducible rfl | (simp only [E_filingOf, F_sel, G_fof, if_neg c_2, if_neg c_4]; done) | (simp +decide only [E_filingOf, F_sel, G_fof, k9, if_neg c_2, if_neg c_4]; done) | (simp [E_filingOf, F_sel, G_fof, c_2, c_4, k9]; done) | (simp +decide [E_filingOf, F_sel, G_fof, c_2, c_4, k9]; done) : E_filingOf x1 x2 n = 0)).trans (by decide)
        have hP : va_P D vwCl (wMo cI cJ cZ a (nI (E_filingOf x1 x2 n)) td nd n ld sl bd pw dt st uc sv tl so ag ns ss rg hw ax fu si au px pg py) H := by rw [e_wth]; exact hP
        exact W.iret (v := dt (ix x1)) hx hb hr (fun t ht hW => ⟨⟨dt (ix x1), (), rfl, (Eq.symm (by rw [show (E_filingOf x1 x2 n) = 0 from (by first | with_reducible rfl | (simp only [E_filingOf, F_sel, G_fof, if_neg c_2, if_neg c_4]; done) | (simp +decide only [E_filingOf, F_sel, G_fof, k9, if_neg c_2, if_neg c_4]; done) | (simp [E_filingOf, F_sel, G_fof, c_2, c_4, k9]; done) | (simp +decide [E_filingOf, F_sel, G_fof, c_2, c_4, k9]; done)), F_sel_0]; first | done | (first | with_reducible rfl | (simp only [E_filingOf, F_sel, G_fof, if_neg c_2, if_neg c_4]; done) | (simp +decide only [E_filingOf, F_sel, G_fof, k9, if_neg c_2, if_neg c_4]; done) | (simp [E_filingOf, F_sel, G_fof, c_2, c_4, k9]; done) | (simp +decide [E_filingOf, F_sel, G_fof, c_2, c_4, k9]; done)) : F_sel (E_filingOf x1 x2 n) (G_fof ld sl bd pw dt st uc sv tl so (ix x1) (ix x2)) 0 = dt (ix x1))), (z_at ht hP)⟩, hS.F ht⟩) hS.2.2 dX5_filingOf_118
      · have e9 : x2 = nI 5 := by rw [g_x2, k9]
        refine lv_tableIn (off := 82) (tgt := 119) hx hb dX5_filingOf_37 (by rw [e9]; decide) (by rw [e9]; decide) (by rw [e9]; decide) (by decide) ?_
        refine lv_aload_n hx hb dX5_filingOf_119 rfl (lv_at hl 0 rfl) ?_
        refine z_get (ci := 5) (C := RX5) (T := TX5) (N := 26) hx hb hts b_X5_filingOf_wsX50 hown hK hP 0 rfl rfl 9 (by decide) (hts _ k_X5_filingOf_6) rfl (.ref (a 36)) rfl dX5_filingOf_120 ?_
        refine lv_iload_n hx hb dX5_filingOf_123 rfl (lv_at hl 1 rfl) ?_
        refine z_iald hx hb hK hP 6 0 rfl rfl (ix x1) g_x1 (by omega) rfl dX5_filingOf_124 ?_
        have e_wth : nI (E_filingOf x1 x2 n) = 0 := by exact (congrArg nI (by first | with_reducible rfl | (simp only [E_filingOf, F_sel, G_fof, if_neg c_2, if_neg c_4]; done) | (simp +decide only [E_filingOf, F_sel, G_fof, k9, if_neg c_2, if_neg c_4]; done) | (simp [E_filingOf, F_sel, G_fof, c_2, c_4, k9]; done) | (simp +decide [E_filingOf, F_sel, G_fof, c_2, c_4, k9]; done) : E_filingOf x1 x2 n = 0)).trans (by decide)
        have hP : va_P D vwCl (wMo cI cJ cZ a (nI (E_filingOf x1 x2 n)) td nd n ld sl bd pw dt st uc sv tl so ag ns ss rg hw ax fu si au px pg py) H := by rw [e_wth]; exact hP
        exact W.iret (v := st (ix x1)) hx hb hr (fun t ht hW => ⟨⟨st (ix x1), (), rfl, (Eq.symm (by rw [show (E_filingOf x1 x2 n) = 0 from (by first | with_reducible rfl | (simp only [E_filingOf, F_sel, G_fof, if_neg c_2, if_neg c_4]; done) | (simp +decide only [E_filingOf, F_sel, G_fof, k9, if_neg c_2, if_neg c_4]; done) | (simp [E_filingOf, F_sel, G_fof, c_2, c_4, k9]; done) | (simp +decide [E_filingOf, F_sel, G_fof, c_2, c_4, k9]; done)), F_sel_0]; first | done | (first | with_reducible rfl | (simp only [E_filingOf, F_sel, G_fof, if_neg c_2, if_neg c_4]; done) | (simp +decide only [E_filingOf, F_sel, G_fof, k9, if_neg c_2, if_neg c_4]; done) | (simp [E_filingOf, F_sel, G_fof, c_2, c_4, k9]; done) | (simp +decide [E_filingOf, F_sel, G_fof, c_2, c_4, k9]; done)) : F_sel (E_filingOf x1 x2 n) (G_fof ld sl bd pw dt st uc sv tl so (ix x1) (ix x2)) 0 = st (ix x1))), (z_at ht hP)⟩, hS.F ht⟩) hS.2.2 dX5_filingOf_125
      · have e9 : x2 = nI 6 := by rw [g_x2, k9]
        refine lv_tableIn (off := 89) (tgt := 126) hx hb dX5_filingOf_37 (by rw [e9]; decide) (by rw [e9]; decide) (by rw [e9]; decide) (by decide) ?_
        refine lv_aload_n hx hb dX5_filingOf_126 rfl (lv_at hl 0 rfl) ?_
        refine z_get (ci := 5) (C := RX5) (T := TX5) (N := 26) hx hb hts b_X5_filingOf_wsX50 hown hK hP 0 rfl rfl 10 (by decide) (hts _ k_X5_filingOf_7) rfl (.ref (a 37)) rfl dX5_filingOf_127 ?_
        refine lv_iload_n hx hb dX5_filingOf_130 rfl (lv_at hl 1 rfl) ?_
        refine z_zald hx hb hK hP 7 2 rfl rfl (ix x1) g_x1 (by omega) rfl dX5_filingOf_131 ?_
        refine lv_if_eq (tgt := 139) hx hb dX5_filingOf_132 (by decide) (fun c_6 => ?_) (fun c_6 => ?_)
        · refine lv_iconst (v := 0) hx hb dX5_filingOf_139 (by decide) ?_
          have e_wth : nI (E_filingOf x1 x2 n) = 0 := by exact (congrArg nI (by first | with_reducible rfl | (simp only [E_filingOf, F_sel, G_fof, if_neg c_2, if_neg c_4, if_pos c_6]; done) | (simp +decide only [E_filingOf, F_sel, G_fof, k9, if_neg c_2, if_neg c_4, if_pos c_6]; done) | (simp [E_filingOf, F_sel, G_fof, c_2, c_4, c_6, k9]; done) | (simp +decide [E_filingOf, F_sel, G_fof, c_2, c_4, c_6, k9]; done) : E_filingOf x1 x2 n = 0)).trans (by decide)
          have hP : va_P D vwCl (wMo cI cJ cZ a (nI (E_filingOf x1 x2 n)) td nd n ld sl bd pw dt st uc sv tl so ag ns ss rg hw ax fu si au px pg py) H := by rw [e_wth]; exact hP
          exact W.iret (v := 0) hx hb hr (fun t ht hW => ⟨⟨0, (), rfl, (Eq.symm (by rw [show (E_filingOf x1 x2 n) = 0 from (by first | with_reducible rfl | (simp only [E_filingOf, F_sel, G_fof, if_neg c_2, if_neg c_4, if_pos c_6]; done) | (simp +decide only [E_filingOf, F_sel, G_fof, k9, if_neg c_2, if_neg c_4, if_pos c_6]; done) | (simp [E_filingOf, F_sel, G_fof, c_2, c_4, c_6, k9]; done) | (simp +decide [E_filingOf, F_sel, G_fof, c_2, c_4, c_6, k9]; done)), F_sel_0]; first | done | (first | with_reducible rfl | (simp only [E_filingOf, F_sel, G_fof, if_neg c_2, if_neg c_4, if_pos c_6]; done) | (simp +decide only [E_filingOf, F_sel, G_fof, k9, if_neg c_2, if_neg c_4, if_pos c_6]; done) | (simp [E_filingOf, F_sel, G_fof, c_2, c_4, c_6, k9]; done) | (simp +decide [E_filingOf, F_sel, G_fof, c_2, c_4, c_6, k9]; done)) : F_sel (E_filingOf x1 x2 n) (G_fof ld sl bd pw dt st uc sv tl so (ix x1) (ix x2)) 0 = 0)), (z_at ht hP)⟩, hS.F ht⟩) hS.2.2 dX5_filingOf_140
        · refine lv_iconst (v := 1) hx hb dX5_filingOf_135 (by decide) ?_
          refine lv_goto (tgt := 140) hx hb dX5_filingOf_136 (by decide) ?_
          have e_wth : nI (E_filingOf x1 x2 n) = 0 := by exact (congrArg nI (by first | with_reducible rfl | (simp only [E_filingOf, F_sel, G_fof, if_neg c_2, if_neg c_4, if_neg c_6]; done) | (simp +decide only [E_filingOf, F_sel, G_fof, k9, if_neg c_2, if_neg c_4, if_neg c_6]; done) | (simp [E_filingOf, F_sel, G_fof, c_2, c_4, c_6, k9]; done) | (simp +decide [E_filingOf, F_sel, G_fof, c_2, c_4, c_6, k9]; done) : E_filingOf x1 x2 n = 0)).trans (by decide)
          have hP : va_P D vwCl (wMo cI cJ cZ a (nI (E_filingOf x1 x2 n)) td nd n ld sl bd pw dt st uc sv tl so ag ns ss rg hw ax fu si au px pg py) H := by rw [e_wth]; exact hP
          exact W.iret (v := 1) hx hb hr (fun t ht hW => ⟨⟨1, (), rfl, (Eq.symm (by rw [show (E_filingOf x1 x2 n) = 0 from (by first | with_reducible rfl | (simp only [E_filingOf, F_sel, G_fof, if_neg c_2, if_neg c_4, if_neg c_6]; done) | (simp +decide only [E_filingOf, F_sel, G_fof, k9, if_neg c_2, if_neg c_4, if_neg c_6]; done) | (simp [E_filingOf, F_sel, G_fof, c_2, c_4, c_6, k9]; done) | (simp +decide [E_filingOf, F_sel, G_fof, c_2, c_4, c_6, k9]; done)), F_sel_0]; first | done | (first | with_reducible rfl | (simp only [E_filingOf, F_sel, G_fof, if_neg c_2, if_neg c_4, if_neg c_6]; done) | (simp +decide only [E_filingOf, F_sel, G_fof, k9, if_neg c_2, if_neg c_4, if_neg c_6]; done) | (simp [E_filingOf, F_sel, G_fof, c_2, c_4, c_6, k9]; done) | (simp +decide [E_filingOf, F_sel, G_fof, c_2, c_4, c_6, k9]; done)) : F_sel (E_filingOf x1 x2 n) (G_fof ld sl bd pw dt st uc sv tl so (ix x1) (ix x2)) 0 = 1)), (z_at ht hP)⟩, hS.F ht⟩) hS.2.2 dX5_filingOf_140
      · have e9 : x2 = nI 7 := by rw [g_x2, k9]
        refine lv_tableIn (off := 104) (tgt := 141) hx hb dX5_filingOf_37 (by rw [e9]; decide) (by rw [e9]; decide) (by rw [e9]; decide) (by decide) ?_
        refine lv_aload_n hx hb dX5_filingOf_141 rfl (lv_at hl 0 rfl) ?_
        refine z_get (ci := 5) (C := RX5) (T := TX5) (N := 26) hx hb hts b_X5_filingOf_wsX50 hown hK hP 0 rfl rfl 11 (by decide) (hts _ k_X5_filingOf_8) rfl (.ref (a 38)) rfl dX5_filingOf_142 ?_
        refine lv_iload_n hx hb dX5_filingOf_145 rfl (lv_at hl 1 rfl) ?_
        refine z_iald hx hb hK hP 8 0 rfl rfl (ix x1) g_x1 (by omega) rfl dX5_filingOf_146 ?_
        have e_wth : nI (E_filingOf x1 x2 n) = 0 := by exact (congrArg nI (by first | with_reducible rfl | (simp only [E_filingOf, F_sel, G_fof, if_neg c_2, if_neg c_4]; done) | (simp +decide only [E_filingOf, F_sel, G_fof, k9, if_neg c_2, if_neg c_4]; done) | (simp [E_filingOf, F_sel, G_fof, c_2, c_4, k9]; done) | (simp +decide [E_filingOf, F_sel, G_fof, c_2, c_4, k9]; done) : E_filingOf x1 x2 n = 0)).trans (by decide)
        have hP : va_P D vwCl (wMo cI cJ cZ a (nI (E_filingOf x1 x2 n)) td nd n ld sl bd pw dt st uc sv tl so ag ns ss rg hw ax fu si au px pg py) H := by rw [e_wth]; exact hP
        exact W.iret (v := sv (ix x1)) hx hb hr (fun t ht hW => ⟨⟨sv (ix x1), (), rfl, (Eq.symm (by rw [show (E_filingOf x1 x2 n) = 0 from (by first | with_reducible rfl | (simp only [E_filingOf, F_sel, G_fof, if_neg c_2, if_neg c_4]; done) | (simp +decide only [E_filingOf, F_sel, G_fof, k9, if_neg c_2, if_neg c_4]; done) | (simp [E_filingOf, F_sel, G_fof, c_2, c_4, k9]; done) | (simp +decide [E_filingOf, F_sel, G_fof, c_2, c_4, k9]; done)), F_sel_0]; first | done | (first | with_reducible rfl | (simp only [E_filingOf, F_sel, G_fof, if_neg c_2, if_neg c_4]; done) | (simp +decide only [E_filingOf, F_sel, G_fof, k9, if_neg c_2, if_neg c_4]; done) | (simp [E_filingOf, F_sel, G_fof, c_2, c_4, k9]; done) | (simp +decide [E_filingOf, F_sel, G_fof, c_2, c_4, k9]; done)) : F_sel (E_filingOf x1 x2 n) (G_fof ld sl bd pw dt st uc sv tl so (ix x1) (ix x2)) 0 = sv (ix x1))), (z_at ht hP)⟩, hS.F ht⟩) hS.2.2 dX5_filingOf_147
      · have e9 : x2 = nI 8 := by rw [g_x2, k9]
        refine lv_tableOut (tgt := 148) hx hb dX5_filingOf_37 (by rw [e9]; decide) (by decide) ?_
        refine lv_aload_n hx hb dX5_filingOf_148 rfl (lv_at hl 0 rfl) ?_
        refine lv_iload_n hx hb dX5_filingOf_149 rfl (lv_at hl 1 rfl) ?_
        refine z_ri (va_runV (As := [.int x1]) (rest := []) ⟨hx, hb, hml, hown, hts⟩ (c_X5_endOf l D cI cJ cZ a H.size 0 td nd n ld sl bd pw dt st uc sv tl so ag ns ss rg hw ax fu si au px pg py x1 (ix x1) g_x1 (by omega)) (cwV 1 hts gX5_filingOf_X5_endOf rfl rfl rfl (by decide +kernel) ⟨Nat.le_of_ble_eq_true rfl, Nat.le_of_ble_eq_true rfl⟩) (z_pv hK hP hD (q0 := 0) (ci := 5) rfl rfl zT_b zT_m) rfl rfl hl.1 rfl (lv_room (Nat.le_of_ble_eq_true rfl)) dX5_filingOf_150 ⟨Nat.le_of_ble_eq_true rfl, Nat.le_of_ble_eq_true rfl⟩) hP hS hA (fun r_7 _ H locs hr_7 hP hS => ?_)
        subst hr_7
        have e_wth : nI (E_filingOf x1 x2 n) = 0 := by exact (congrArg nI (by first | with_reducible rfl | (simp only [E_filingOf, F_sel, G_fof, if_neg c_2, if_neg c_4]; done) | (simp +decide only [E_filingOf, F_sel, G_fof, k9, if_neg c_2, if_neg c_4]; done) | (simp [E_filingOf, F_sel, G_fof, c_2, c_4, k9]; done) | (simp +decide [E_filingOf, F_sel, G_fof, c_2, c_4, k9]; done) : E_filingOf x1 x2 n = 0)).trans (by decide)
        have hP : va_P D vwCl (wMo cI cJ cZ a (nI (E_filingOf x1 x2 n)) td nd n ld sl bd pw dt st uc sv tl so ag ns ss rg hw ax fu si au px pg py) H := by rw [e_wth]; exact hP
        exact W.iret (v := G_endOf (st (ix x1)) (tl (ix x1)) (so (ix x1))) hx hb hr (fun t ht hW => ⟨⟨G_endOf (st (ix x1)) (tl (ix x1)) (so (ix x1)), (), rfl, (Eq.symm (by rw [show (E_filingOf x1 x2 n) = 0 from (by first | with_reducible rfl | (simp only [E_filingOf, F_sel, G_fof, if_neg c_2, if_neg c_4]; done) | (simp +decide only [E_filingOf, F_sel, G_fof, k9, if_neg c_2, if_neg c_4]; done) | (simp [E_filingOf, F_sel, G_fof, c_2, c_4, k9]; done) | (simp +decide [E_filingOf, F_sel, G_fof, c_2, c_4, k9]; done)), F_sel_0]; first | done | (first | with_reducible rfl | (simp only [E_filingOf, F_sel, G_fof, if_neg c_2, if_neg c_4]; done) | (simp +decide only [E_filingOf, F_sel, G_fof, k9, if_neg c_2, if_neg c_4]; done) | (simp [E_filingOf, F_sel, G_fof, c_2, c_4, k9]; done) | (simp +decide [E_filingOf, F_sel, G_fof, c_2, c_4, k9]; done)) : F_sel (E_filingOf x1 x2 n) (G_fof ld sl bd pw dt st uc sv tl so (ix x1) (ix x2)) 0 = G_endOf (st (ix x1)) (tl (ix x1)) (so (ix x1)))), (z_at ht hP)⟩, hS.F ht⟩) hS.2.2 dX5_filingOf_153
    · refine lv_iconst (v := 2) hx hb dX5_filingOf_23 (by decide) ?_
      refine lv_goto (tgt := 28) hx hb dX5_filingOf_24 (by decide) ?_
      refine z_ci (pre := ([] : va_W)) (wc := (wMo cI cJ cZ a th td nd n ld sl bd pw dt st uc sv tl so ag ns ss rg hw ax fu si au px pg py)) (suf := ([] : va_W)) (w1 := fun _ => (wMo cI cJ cZ a 2 td nd n ld sl bd pw dt st uc sv tl so ag ns ss rg hw ax fu si au px pg py)) (va_runV (As := [.int 2]) (rest := []) ⟨hx, hb, hml, hown, hts⟩ (c_X5_refused l D cI cJ cZ a H.size th td nd n ld sl bd pw dt st uc sv tl so ag ns ss rg hw ax fu si au px pg py 2) (cwV 1 hts gX5_filingOf_X5_refused rfl rfl rfl (by decide +kernel) ⟨Nat.le_of_ble_eq_true rfl, Nat.le_of_ble_eq_true rfl⟩) (z_pv hK hP hD (q0 := 0) (ci := 5) rfl rfl zT_b zT_m) rfl rfl hl.1 rfl (lv_room (Nat.le_of_ble_eq_true rfl)) dX5_filingOf_28 ⟨Nat.le_of_ble_eq_true rfl, Nat.le_of_ble_eq_true rfl⟩) hP hD hS hA (fun _ => rfl) (fun r_8 _ H locs hr_8 hP hD hS => ?_)
      subst hr_8
      refine W.eq (g2 := F0 m 31 ls [.int 1]) rfl ?_
      refine lv_if_eq (tgt := 36) hx hb dX5_filingOf_31 (by decide) (fun c9 => absurd c9 (by decide)) (fun _ => ?_)
      refine lv_iconst (v := 0) hx hb dX5_filingOf_34 (by decide) ?_
      have e_wth : nI (E_filingOf x1 x2 n) = 2 := by exact (congrArg nI (by first | with_reducible rfl | (simp only [E_filingOf, F_sel, G_fof, if_neg c_2, if_pos c_4]; done) | (simp +decide only [E_filingOf, F_sel, G_fof, if_neg c_2, if_pos c_4]; done) | (simp [E_filingOf, F_sel, G_fof, c_2, c_4]; done) | (simp +decide [E_filingOf, F_sel, G_fof, c_2, c_4]; done) : E_filingOf x1 x2 n = 2)).trans (by decide)
      have hP : va_P D vwCl (wMo cI cJ cZ a (nI (E_filingOf x1 x2 n)) td nd n ld sl bd pw dt st uc sv tl so ag ns ss rg hw ax fu si au px pg py) H := by rw [e_wth]; exact hP
      exact W.iret (v := 0) hx hb hr (fun t ht hW => ⟨⟨0, (), rfl, (Eq.symm (by rw [show (E_filingOf x1 x2 n) = 2 from (by first | with_reducible rfl | (simp only [E_filingOf, F_sel, G_fof, if_neg c_2, if_pos c_4]; done) | (simp +decide only [E_filingOf, F_sel, G_fof, if_neg c_2, if_pos c_4]; done) | (simp [E_filingOf, F_sel, G_fof, c_2, c_4]; done) | (simp +decide [E_filingOf, F_sel, G_fof, c_2, c_4]; done)), F_sel_2]; first | done | (first | with_reducible rfl | (simp only [E_filingOf, F_sel, G_fof, if_neg c_2, if_pos c_4]; done) | (simp +decide only [E_filingOf, F_sel, G_fof, if_neg c_2, if_pos c_4]; done) | (simp [E_filingOf, F_sel, G_fof, c_2, c_4]; done) | (simp +decide [E_filingOf, F_sel, G_fof, c_2, c_4]; done)) : F_sel (E_filingOf x1 x2 n) (G_fof ld sl bd pw dt st uc sv tl so (ix x1) (ix x2)) 0 = 0)), (z_at ht hP)⟩, hS.F ht⟩) hS.2.2 dX5_filingOf_35
  · refine lv_iconst (v := 1) hx hb dX5_filingOf_9 (by decide) ?_
    refine lv_goto (tgt := 28) hx hb dX5_filingOf_10 (by decide) ?_
    refine z_ci (pre := ([] : va_W)) (wc := (wMo cI cJ cZ a th td nd n ld sl bd pw dt st uc sv tl so ag ns ss rg hw ax fu si au px pg py)) (suf := ([] : va_W)) (w1 := fun _ => (wMo cI cJ cZ a 1 td nd n ld sl bd pw dt st uc sv tl so ag ns ss rg hw ax fu si au px pg py)) (va_runV (As := [.int 1]) (rest := []) ⟨hx, hb, hml, hown, hts⟩ (c_X5_refused l D cI cJ cZ a H.size th td nd n ld sl bd pw dt st uc sv tl so ag ns ss rg hw ax fu si au px pg py 1) (cwV 1 hts gX5_filingOf_X5_refused rfl rfl rfl (by decide +kernel) ⟨Nat.le_of_ble_eq_true rfl, Nat.le_of_ble_eq_true rfl⟩) (z_pv hK hP hD (q0 := 0) (ci := 5) rfl rfl zT_b zT_m) rfl rfl hl.1 rfl (lv_room (Nat.le_of_ble_eq_true rfl)) dX5_filingOf_28 ⟨Nat.le_of_ble_eq_true rfl, Nat.le_of_ble_eq_true rfl⟩) hP hD hS hA (fun _ => rfl) (fun r_9 _ H locs hr_9 hP hD hS => ?_)
    subst hr_9
    refine W.eq (g2 := F0 m 31 ls [.int 1]) rfl ?_
    refine lv_if_eq (tgt := 36) hx hb dX5_filingOf_31 (by decide) (fun c9 => absurd c9 (by decide)) (fun _ => ?_)
    refine lv_iconst (v := 0) hx hb dX5_filingOf_34 (by decide) ?_
    have e_wth : nI (E_filingOf x1 x2 n) = 1 := by exact (congrArg nI (by first | with_reducible rfl | (simp only [E_filingOf, F_sel, G_fof, if_pos c_2]; done) | (simp +decide only [E_filingOf, F_sel, G_fof, if_pos c_2]; done) | (simp [E_filingOf, F_sel, G_fof, c_2]; done) | (simp +decide [E_filingOf, F_sel, G_fof, c_2]; done) : E_filingOf x1 x2 n = 1)).trans (by decide)
    have hP : va_P D vwCl (wMo cI cJ cZ a (nI (E_filingOf x1 x2 n)) td nd n ld sl bd pw dt st uc sv tl so ag ns ss rg hw ax fu si au px pg py) H := by rw [e_wth]; exact hP
    exact W.iret (v := 0) hx hb hr (fun t ht hW => ⟨⟨0, (), rfl, (Eq.symm (by rw [show (E_filingOf x1 x2 n) = 1 from (by first | with_reducible rfl | (simp only [E_filingOf, F_sel, G_fof, if_pos c_2]; done) | (simp +decide only [E_filingOf, F_sel, G_fof, if_pos c_2]; done) | (simp [E_filingOf, F_sel, G_fof, c_2]; done) | (simp +decide [E_filingOf, F_sel, G_fof, c_2]; done)), F_sel_1]; first | done | (first | with_reducible rfl | (simp only [E_filingOf, F_sel, G_fof, if_pos c_2]; done) | (simp +decide only [E_filingOf, F_sel, G_fof, if_pos c_2]; done) | (simp [E_filingOf, F_sel, G_fof, c_2]; done) | (simp +decide [E_filingOf, F_sel, G_fof, c_2]; done)) : F_sel (E_filingOf x1 x2 n) (G_fof ld sl bd pw dt st uc sv tl so (ix x1) (ix x2)) 0 = 0)), (z_at ht hP)⟩, hS.F ht⟩) hS.2.2 dX5_filingOf_35
theorem k_X5_stateAnew_1 : (Cond.fieldLink RX5 25 "OrbitregisterModel" "state" "[I") ∈ wsX5_stateAnew := List.mem_of_getElem? (i := 1) rfl
theorem b_X5_stateAnew_wsX50 : ∀ w ∈ wsX50, w ∈ wsX5_stateAnew := fun _ h => List.mem_cons_of_mem _ (List.mem_append_right _ h)
set_option maxHeartbeats 4000000 in
set_option maxRecDepth 100000 in
theorem c_X5_stateAnew (l : Launch) (D : va_G) (cI cJ cZ : ClassId) (a : Nat → Nat) (sz : Nat) (th : Int32) (td : Int32) (nd : Int32) (n : Nat) (ld : A32) (sl : A32) (bd : A32) (pw : A32) (dt : A32) (st : A32) (uc : A32) (sv : A32) (tl : A32) (so : A32) (ag : A32) (ns : Nat) (ss : A32) (rg : A32) (hw : A32) (ax : A32) (fu : A32) (si : A32) (au : A32) (px : A32) (pg : A32) (py : A64) (x1 : Int32) (hn : n ≤ 40) : Met l yX5_stateAnew wsX5_stateAnew ({ frames := 2, cells := 0, slots := 0, locals := 43 }) (va_Pc [.ref (a 30), .int x1] (ZP D (zt cI cJ cZ) (wMo cI cJ cZ a th td nd n ld sl bd pw dt st uc sv tl so ag ns ss rg hw ax fu si au px pg py) sz zT)) (va_Qi (fun (r : Int32) (_ : Unit) => r = F_sel (E_one x1 n) (st (ix x1)) 0) (fun _ t => va_P D vwCl (wMo cI cJ cZ a (nI (E_one x1 n)) td nd n ld sl bd pw dt st uc sv tl so ag ns ss rg hw ax fu si au px pg py) t.heap) (va_A (wMo cI cJ cZ a th td nd n ld sl bd pw dt st uc sv tl so ag ns ss rg hw ax fu si au px pg py) sz)) 0 0 (va_A (wMo cI cJ cZ a th td nd n ld sl bd pw dt st uc sv tl so ag ns ss rg hw ax fu si au px pg py) sz) := by
  refine Met.ofW (cc := cX5_stateAnew) (maxL := 2) (ret := (some .int)) (by decide) rfl ?_
  intro p e s m args below meth c s₁ B hml hv
  obtain ⟨rfl, hsz, hP, hK, hD0, hE⟩ := hv
  have hx := B.exec
  have hb := B.bytes
  have hr := B.returns
  have hts := atoms_spec (ws := wsX5_stateAnew) B.pre
  have hown : s.vm.findClass RX5 = some m.cls := findClass_of_methodNamed B.named
  have hlocks := B.notSynchronized
  subst hsz
  have hD := hD0.self (sz := s.heap.size)
  generalize hAe : va_A (wMo cI cJ cZ a th td nd n ld sl bd pw dt st uc sv tl so ag ns ss rg hw ax fu si au px pg py) s.heap.size = A at hD ⊢
  have hA : ∀ q : Nat, s.heap.size ≤ q → A q := fun q h => by rw [← hAe]; exact Or.inr h
  have hS : va_S A s.heap s.heap [] := va_S.rf
  have hl := lv_entry ([.ref (a 30), .int x1]) (n := 2) (Nat.le_of_ble_eq_true rfl)
  rw [lg_entry_eq]
  generalize (lg_sl ([.ref (a 30), .int x1]) ++ List.replicate (2 - (lg_sl ([.ref (a 30), .int x1])).length) Slot.unset).toArray = ls at hl ⊢
  have hl : lv_has ls 2 [(0, .ref (a 30)), (1, .int x1)] := hl
  have hP : va_P D vwCl (wMo cI cJ cZ a th td nd n ld sl bd pw dt st uc sv tl so ag ns ss rg hw ax fu si au px pg py) s.heap := hP
  refine lv_aload_n hx hb dX5_stateAnew_0 rfl (lv_at hl 0 rfl) ?_
  refine lv_aload_n hx hb dX5_stateAnew_1 rfl (lv_at hl 0 rfl) ?_
  refine lv_iload_n hx hb dX5_stateAnew_2 rfl (lv_at hl 1 rfl) ?_
  refine z_ri (va_runV (As := [.int x1]) (rest := [.ref (a 30)]) ⟨hx, hb, hml, hown, hts⟩ (c_X5_isFiling l D cI cJ cZ a s.heap.size th td nd n ld sl bd pw dt st uc sv tl so ag ns ss rg hw ax fu si au px pg py x1) (cwV 1 hts gX5_stateAnew_X5_isFiling rfl rfl rfl (by decide +kernel) ⟨Nat.le_of_ble_eq_true rfl, Nat.le_of_ble_eq_true rfl⟩) (z_pv hK hP hD (q0 := 0) (ci := 5) rfl rfl zT_b zT_m) rfl rfl hl.1 rfl (lv_room (Nat.le_of_ble_eq_true rfl)) dX5_stateAnew_3 ⟨Nat.le_of_ble_eq_true rfl, Nat.le_of_ble_eq_true rfl⟩) hP hS hA (fun r_1 _ H locs hr_1 hP hS => ?_)
  subst hr_1
  refine lv_if_eq (tgt := 13) hx hb dX5_stateAnew_6 (by decide) (fun c_2 => ?_) (fun c_2 => ?_)
  · refine lv_iconst (v := 1) hx hb dX5_stateAnew_13 (by decide) ?_
    refine z_ci (pre := ([] : va_W)) (wc := (wMo cI cJ cZ a th td nd n ld sl bd pw dt st uc sv tl so ag ns ss rg hw ax fu si au px pg py)) (suf := ([] : va_W)) (w1 := fun _ => (wMo cI cJ cZ a 1 td nd n ld sl bd pw dt st uc sv tl so ag ns ss rg hw ax fu si au px pg py)) (va_runV (As := [.int 1]) (rest := []) ⟨hx, hb, hml, hown, hts⟩ (c_X5_refused l D cI cJ cZ a H.size th td nd n ld sl bd pw dt st uc sv tl so ag ns ss rg hw ax fu si au px pg py 1) (cwV 1 hts gX5_stateAnew_X5_refused rfl rfl rfl (by decide +kernel) ⟨Nat.le_of_ble_eq_true rfl, Nat.le_of_ble_eq_true rfl⟩) (z_pv hK hP hD (q0 := 0) (ci := 5) rfl rfl zT_b zT_m) rfl rfl hl.1 rfl (lv_room (Nat.le_of_ble_eq_true rfl)) dX5_stateAnew_14 ⟨Nat.le_of_ble_eq_true rfl, Nat.le_of_ble_eq_true rfl⟩) hP hD hS hA (fun _ => rfl) (fun r_3 _ H locs hr_3 hP hD hS => ?_)
    subst hr_3
    refine W.eq (g2 := F0 m 17 ls [.int 1]) rfl ?_
    refine lv_if_eq (tgt := 24) hx hb dX5_stateAnew_17 (by decide) (fun c9 => absurd c9 (by decide)) (fun _ => ?_)
    refine lv_iconst (v := 0) hx hb dX5_stateAnew_20 (by decide) ?_
    refine lv_goto (tgt := 30) hx hb dX5_stateAnew_21 (by decide) ?_
    have e_wth : nI (E_one x1 n) = 1 := by exact (congrArg nI (by first | with_reducible rfl | (simp only [E_one, F_sel, if_pos c_2]; done) | (simp +decide only [E_one, F_sel, if_pos c_2]; done) | (simp [E_one, F_sel, c_2]; done) | (simp +decide [E_one, F_sel, c_2]; done) : E_one x1 n = 1)).trans (by decide)
    have hP : va_P D vwCl (wMo cI cJ cZ a (nI (E_one x1 n)) td nd n ld sl bd pw dt st uc sv tl so ag ns ss rg hw ax fu si au px pg py) H := by rw [e_wth]; exact hP
    exact W.iret (v := 0) hx hb hr (fun t ht hW => ⟨⟨0, (), rfl, (Eq.symm (by rw [show (E_one x1 n) = 1 from (by first | with_reducible rfl | (simp only [E_one, F_sel, if_pos c_2]; done) | (simp +decide only [E_one, F_sel, if_pos c_2]; done) | (simp [E_one, F_sel, c_2]; done) | (simp +decide [E_one, F_sel, c_2]; done)), F_sel_1]; first | done | (first | with_reducible rfl | (simp only [E_one, F_sel, if_pos c_2]; done) | (simp +decide only [E_one, F_sel, if_pos c_2]; done) | (simp [E_one, F_sel, c_2]; done) | (simp +decide [E_one, F_sel, c_2]; done)) : F_sel (E_one x1 n) (st (ix x1)) 0 = 0)), (z_at ht hP)⟩, hS.F ht⟩) hS.2.2 dX5_stateAnew_30
  · obtain ⟨g_x1, g_x1b⟩ := F_in_ix c_2 (by omega)
    refine lv_iconst (v := 0) hx hb dX5_stateAnew_9 (by decide) ?_
    refine lv_goto (tgt := 14) hx hb dX5_stateAnew_10 (by decide) ?_
    refine z_ci (pre := ([] : va_W)) (wc := (wMo cI cJ cZ a th td nd n ld sl bd pw dt st uc sv tl so ag ns ss rg hw ax fu si au px pg py)) (suf := ([] : va_W)) (w1 := fun _ => (wMo cI cJ cZ a 0 td nd n ld sl bd pw dt st uc sv tl so ag ns ss rg hw ax fu si au px pg py)) (va_runV (As := [.int 0]) (rest := []) ⟨hx, hb, hml, hown, hts⟩ (c_X5_refused l D cI cJ cZ a H.size th td nd n ld sl bd pw dt st uc sv tl so ag ns ss rg hw ax fu si au px pg py 0) (cwV 1 hts gX5_stateAnew_X5_refused rfl rfl rfl (by decide +kernel) ⟨Nat.le_of_ble_eq_true rfl, Nat.le_of_ble_eq_true rfl⟩) (z_pv hK hP hD (q0 := 0) (ci := 5) rfl rfl zT_b zT_m) rfl rfl hl.1 rfl (lv_room (Nat.le_of_ble_eq_true rfl)) dX5_stateAnew_14 ⟨Nat.le_of_ble_eq_true rfl, Nat.le_of_ble_eq_true rfl⟩) hP hD hS hA (fun _ => rfl) (fun r_4 _ H locs hr_4 hP hD hS => ?_)
    subst hr_4
    refine W.eq (g2 := F0 m 17 ls [.int 0]) rfl ?_
    refine lv_if_eq (tgt := 24) hx hb dX5_stateAnew_17 (by decide) (fun _ => ?_) (fun c9 => absurd (by decide) c9)
    refine lv_aload_n hx hb dX5_stateAnew_24 rfl (lv_at hl 0 rfl) ?_
    refine z_get (ci := 5) (C := RX5) (T := TX5) (N := 26) hx hb hts b_X5_stateAnew_wsX50 hown hK hP 0 rfl rfl 9 (by decide) (hts _ k_X5_stateAnew_1) rfl (.ref (a 36)) rfl dX5_stateAnew_25 ?_
    refine lv_iload_n hx hb dX5_stateAnew_28 rfl (lv_at hl 1 rfl) ?_
    refine z_iald hx hb hK hP 6 0 rfl rfl (ix x1) g_x1 (by omega) rfl dX5_stateAnew_29 ?_
    have e_wth : nI (E_one x1 n) = 0 := by exact (congrArg nI (by first | with_reducible rfl | (simp only [E_one, F_sel, if_neg c_2]; done) | (simp +decide only [E_one, F_sel, if_neg c_2]; done) | (simp [E_one, F_sel, c_2]; done) | (simp +decide [E_one, F_sel, c_2]; done) : E_one x1 n = 0)).trans (by decide)
    have hP : va_P D vwCl (wMo cI cJ cZ a (nI (E_one x1 n)) td nd n ld sl bd pw dt st uc sv tl so ag ns ss rg hw ax fu si au px pg py) H := by rw [e_wth]; exact hP
    exact W.iret (v := st (ix x1)) hx hb hr (fun t ht hW => ⟨⟨st (ix x1), (), rfl, (Eq.symm (by rw [show (E_one x1 n) = 0 from (by first | with_reducible rfl | (simp only [E_one, F_sel, if_neg c_2]; done) | (simp +decide only [E_one, F_sel, if_neg c_2]; done) | (simp [E_one, F_sel, c_2]; done) | (simp +decide [E_one, F_sel, c_2]; done)), F_sel_0]; first | done | (first | with_reducible rfl | (simp only [E_one, F_sel, if_neg c_2]; done) | (simp +decide only [E_one, F_sel, if_neg c_2]; done) | (simp [E_one, F_sel, c_2]; done) | (simp +decide [E_one, F_sel, c_2]; done)) : F_sel (E_one x1 n) (st (ix x1)) 0 = st (ix x1))), (z_at ht hP)⟩, hS.F ht⟩) hS.2.2 dX5_stateAnew_30
set_option maxHeartbeats 4000000 in
set_option maxRecDepth 100000 in
theorem c_X5_harm (l : Launch) (D : va_G) (cI cJ cZ : ClassId) (a : Nat → Nat) (sz : Nat) (th : Int32) (td : Int32) (nd : Int32) (n : Nat) (ld : A32) (sl : A32) (bd : A32) (pw : A32) (dt : A32) (st : A32) (uc : A32) (sv : A32) (tl : A32) (so : A32) (ag : A32) (ns : Nat) (ss : A32) (rg : A32) (hw : A32) (ax : A32) (fu : A32) (si : A32) (au : A32) (px : A32) (pg : A32) (py : A64) (x1 : Int32) (x2 : Int32) (hn : n ≤ 40) : Met l yX5_harm wsX5_harm ({ frames := 3, cells := 0, slots := 0, locals := 70 }) (va_Pc [.ref (a 30), .int x1, .int x2] (ZP D (zt cI cJ cZ) (wMo cI cJ cZ a th td nd n ld sl bd pw dt st uc sv tl so ag ns ss rg hw ax fu si au px pg py) sz zT)) (va_Qi (fun (r : Int32) (_ : Unit) => r = F_sel (E_two x1 x2 n) (G_harmOf bd st sl pw (ix x1) (ix x2)) 0) (fun _ t => va_P D vwCl (wMo cI cJ cZ a (nI (E_two x1 x2 n)) td nd n ld sl bd pw dt st uc sv tl so ag ns ss rg hw ax fu si au px pg py) t.heap) (va_A (wMo cI cJ cZ a th td nd n ld sl bd pw dt st uc sv tl so ag ns ss rg hw ax fu si au px pg py) sz)) 0 0 (va_A (wMo cI cJ cZ a th td nd n ld sl bd pw dt st uc sv tl so ag ns ss rg hw ax fu si au px pg py) sz) := by
  refine Met.ofW (cc := cX5_harm) (maxL := 3) (ret := (some .int)) (by decide) rfl ?_
  intro p e s m args below meth c s₁ B hml hv
  obtain ⟨rfl, hsz, hP, hK, hD0, hE⟩ := hv
  have hx := B.exec
  have hb := B.bytes
  have hr := B.returns
  have hts := atoms_spec (ws := wsX5_harm) B.pre
  have hown : s.vm.findClass RX5 = some m.cls := findClass_of_methodNamed B.named
  have hlocks := B.notSynchronized
  subst hsz
  have hD := hD0.self (sz := s.heap.size)
  generalize hAe : va_A (wMo cI cJ cZ a th td nd n ld sl bd pw dt st uc sv tl so ag ns ss rg hw ax fu si au px pg py) s.heap.size = A at hD ⊢
  have hA : ∀ q : Nat, s.heap.size ≤ q → A q := fun q h => by rw [← hAe]; exact Or.inr h
  have hS : va_S A s.heap s.heap [] := va_S.rf
  have hl := lv_entry ([.ref (a 30), .int x1, .int x2]) (n := 3) (Nat.le_of_ble_eq_true rfl)
  rw [lg_entry_eq]
  generalize (lg_sl ([.ref (a 30), .int x1, .int x2]) ++ List.replicate (3 - (lg_sl ([.ref (a 30), .int x1, .int x2])).length) Slot.unset).toArray = ls at hl ⊢
  have hl : lv_has ls 3 [(0, .ref (a 30)), (1, .int x1), (2, .int x2)] := hl
  have hP : va_P D vwCl (wMo cI cJ cZ a th td nd n ld sl bd pw dt st uc sv tl so ag ns ss rg hw ax fu si au px pg py) s.heap := hP
  refine lv_aload_n hx hb dX5_harm_0 rfl (lv_at hl 0 rfl) ?_
  refine lv_aload_n hx hb dX5_harm_1 rfl (lv_at hl 0 rfl) ?_
  refine lv_iload_n hx hb dX5_harm_2 rfl (lv_at hl 1 rfl) ?_
  refine z_ri (va_runV (As := [.int x1]) (rest := [.ref (a 30)]) ⟨hx, hb, hml, hown, hts⟩ (c_X5_isFiling l D cI cJ cZ a s.heap.size th td nd n ld sl bd pw dt st uc sv tl so ag ns ss rg hw ax fu si au px pg py x1) (cwV 1 hts gX5_harm_X5_isFiling rfl rfl rfl (by decide +kernel) ⟨Nat.le_of_ble_eq_true rfl, Nat.le_of_ble_eq_true rfl⟩) (z_pv hK hP hD (q0 := 0) (ci := 5) rfl rfl zT_b zT_m) rfl rfl hl.1 rfl (lv_room (Nat.le_of_ble_eq_true rfl)) dX5_harm_3 ⟨Nat.le_of_ble_eq_true rfl, Nat.le_of_ble_eq_true rfl⟩) hP hS hA (fun r_1 _ H locs hr_1 hP hS => ?_)
  subst hr_1
  refine lv_if_eq (tgt := 21) hx hb dX5_harm_6 (by decide) (fun c_2 => ?_) (fun c_2 => ?_)
  · refine lv_iconst (v := 1) hx hb dX5_harm_21 (by decide) ?_
    refine z_ci (pre := ([] : va_W)) (wc := (wMo cI cJ cZ a th td nd n ld sl bd pw dt st uc sv tl so ag ns ss rg hw ax fu si au px pg py)) (suf := ([] : va_W)) (w1 := fun _ => (wMo cI cJ cZ a 1 td nd n ld sl bd pw dt st uc sv tl so ag ns ss rg hw ax fu si au px pg py)) (va_runV (As := [.int 1]) (rest := []) ⟨hx, hb, hml, hown, hts⟩ (c_X5_refused l D cI cJ cZ a H.size th td nd n ld sl bd pw dt st uc sv tl so ag ns ss rg hw ax fu si au px pg py 1) (cwV 1 hts gX5_harm_X5_refused rfl rfl rfl (by decide +kernel) ⟨Nat.le_of_ble_eq_true rfl, Nat.le_of_ble_eq_true rfl⟩) (z_pv hK hP hD (q0 := 0) (ci := 5) rfl rfl zT_b zT_m) rfl rfl hl.1 rfl (lv_room (Nat.le_of_ble_eq_true rfl)) dX5_harm_22 ⟨Nat.le_of_ble_eq_true rfl, Nat.le_of_ble_eq_true rfl⟩) hP hD hS hA (fun _ => rfl) (fun r_3 _ H locs hr_3 hP hD hS => ?_)
    subst hr_3
    refine W.eq (g2 := F0 m 25 ls [.int 1]) rfl ?_
    refine lv_if_eq (tgt := 32) hx hb dX5_harm_25 (by decide) (fun c9 => absurd c9 (by decide)) (fun _ => ?_)
    refine lv_iconst (v := 0) hx hb dX5_harm_28 (by decide) ?_
    refine lv_goto (tgt := 38) hx hb dX5_harm_29 (by decide) ?_
    have e_wth : nI (E_two x1 x2 n) = 1 := by exact (congrArg nI (by first | with_reducible rfl | (simp only [E_two, F_sel, if_pos c_2]; done) | (simp +decide only [E_two, F_sel, if_pos c_2]; done) | (simp [E_two, F_sel, c_2]; done) | (simp +decide [E_two, F_sel, c_2]; done) : E_two x1 x2 n = 1)).trans (by decide)
    have hP : va_P D vwCl (wMo cI cJ cZ a (nI (E_two x1 x2 n)) td nd n ld sl bd pw dt st uc sv tl so ag ns ss rg hw ax fu si au px pg py) H := by rw [e_wth]; exact hP
    exact W.iret (v := 0) hx hb hr (fun t ht hW => ⟨⟨0, (), rfl, (Eq.symm (by rw [show (E_two x1 x2 n) = 1 from (by first | with_reducible rfl | (simp only [E_two, F_sel, if_pos c_2]; done) | (simp +decide only [E_two, F_sel, if_pos c_2]; done) | (simp [E_two, F_sel, c_2]; done) | (simp +decide [E_two, F_sel, c_2]; done)), F_sel_1]; first | done | (first | with_reducible rfl | (simp only [E_two, F_sel, if_pos c_2]; done) | (simp +decide only [E_two, F_sel, if_pos c_2]; done) | (simp [E_two, F_sel, c_2]; done) | (simp +decide [E_two, F_sel, c_2]; done)) : F_sel (E_two x1 x2 n) (G_harmOf bd st sl pw (ix x1) (ix x2)) 0 = 0)), (z_at ht hP)⟩, hS.F ht⟩) hS.2.2 dX5_harm_38
  · obtain ⟨g_x1, g_x1b⟩ := F_in_ix c_2 (by omega)
    refine lv_aload_n hx hb dX5_harm_9 rfl (lv_at hl 0 rfl) ?_
    refine lv_iload_n hx hb dX5_harm_10 rfl (lv_at hl 2 rfl) ?_
    refine z_ri (va_runV (As := [.int x2]) (rest := [.ref (a 30)]) ⟨hx, hb, hml, hown, hts⟩ (c_X5_isFiling l D cI cJ cZ a H.size th td nd n ld sl bd pw dt st uc sv tl so ag ns ss rg hw ax fu si au px pg py x2) (cwV 1 hts gX5_harm_X5_isFiling rfl rfl rfl (by decide +kernel) ⟨Nat.le_of_ble_eq_true rfl, Nat.le_of_ble_eq_true rfl⟩) (z_pv hK hP hD (q0 := 0) (ci := 5) rfl rfl zT_b zT_m) rfl rfl hl.1 rfl (lv_room (Nat.le_of_ble_eq_true rfl)) dX5_harm_11 ⟨Nat.le_of_ble_eq_true rfl, Nat.le_of_ble_eq_true rfl⟩) hP hS hA (fun r_4 _ H locs hr_4 hP hS => ?_)
    subst hr_4
    refine lv_if_eq (tgt := 21) hx hb dX5_harm_14 (by decide) (fun c_5 => ?_) (fun c_5 => ?_)
    · refine lv_iconst (v := 1) hx hb dX5_harm_21 (by decide) ?_
      refine z_ci (pre := ([] : va_W)) (wc := (wMo cI cJ cZ a th td nd n ld sl bd pw dt st uc sv tl so ag ns ss rg hw ax fu si au px pg py)) (suf := ([] : va_W)) (w1 := fun _ => (wMo cI cJ cZ a 1 td nd n ld sl bd pw dt st uc sv tl so ag ns ss rg hw ax fu si au px pg py)) (va_runV (As := [.int 1]) (rest := []) ⟨hx, hb, hml, hown, hts⟩ (c_X5_refused l D cI cJ cZ a H.size th td nd n ld sl bd pw dt st uc sv tl so ag ns ss rg hw ax fu si au px pg py 1) (cwV 1 hts gX5_harm_X5_refused rfl rfl rfl (by decide +kernel) ⟨Nat.le_of_ble_eq_true rfl, Nat.le_of_ble_eq_true rfl⟩) (z_pv hK hP hD (q0 := 0) (ci := 5) rfl rfl zT_b zT_m) rfl rfl hl.1 rfl (lv_room (Nat.le_of_ble_eq_true rfl)) dX5_harm_22 ⟨Nat.le_of_ble_eq_true rfl, Nat.le_of_ble_eq_true rfl⟩) hP hD hS hA (fun _ => rfl) (fun r_6 _ H locs hr_6 hP hD hS => ?_)
      subst hr_6
      refine W.eq (g2 := F0 m 25 ls [.int 1]) rfl ?_
      refine lv_if_eq (tgt := 32) hx hb dX5_harm_25 (by decide) (fun c9 => absurd c9 (by decide)) (fun _ => ?_)
      refine lv_iconst (v := 0) hx hb dX5_harm_28 (by decide) ?_
      refine lv_goto (tgt := 38) hx hb dX5_harm_29 (by decide) ?_
      have e_wth : nI (E_two x1 x2 n) = 1 := by exact (congrArg nI (by first | with_reducible rfl | (simp only [E_two, F_sel, if_neg c_2, if_pos c_5]; done) | (simp +decide only [E_two, F_sel, if_neg c_2, if_pos c_5]; done) | (simp [E_two, F_sel, c_2, c_5]; done) | (simp +decide [E_two, F_sel, c_2, c_5]; done) : E_two x1 x2 n = 1)).trans (by decide)
      have hP : va_P D vwCl (wMo cI cJ cZ a (nI (E_two x1 x2 n)) td nd n ld sl bd pw dt st uc sv tl so ag ns ss rg hw ax fu si au px pg py) H := by rw [e_wth]; exact hP
      exact W.iret (v := 0) hx hb hr (fun t ht hW => ⟨⟨0, (), rfl, (Eq.symm (by rw [show (E_two x1 x2 n) = 1 from (by first | with_reducible rfl | (simp only [E_two, F_sel, if_neg c_2, if_pos c_5]; done) | (simp +decide only [E_two, F_sel, if_neg c_2, if_pos c_5]; done) | (simp [E_two, F_sel, c_2, c_5]; done) | (simp +decide [E_two, F_sel, c_2, c_5]; done)), F_sel_1]; first | done | (first | with_reducible rfl | (simp only [E_two, F_sel, if_neg c_2, if_pos c_5]; done) | (simp +decide only [E_two, F_sel, if_neg c_2, if_pos c_5]; done) | (simp [E_two, F_sel, c_2, c_5]; done) | (simp +decide [E_two, F_sel, c_2, c_5]; done)) : F_sel (E_two x1 x2 n) (G_harmOf bd st sl pw (ix x1) (ix x2)) 0 = 0)), (z_at ht hP)⟩, hS.F ht⟩) hS.2.2 dX5_harm_38
    · obtain ⟨g_x2, g_x2b⟩ := F_in_ix c_5 (by omega)
      refine lv_iconst (v := 0) hx hb dX5_harm_17 (by decide) ?_
      refine lv_goto (tgt := 22) hx hb dX5_harm_18 (by decide) ?_
      refine z_ci (pre := ([] : va_W)) (wc := (wMo cI cJ cZ a th td nd n ld sl bd pw dt st uc sv tl so ag ns ss rg hw ax fu si au px pg py)) (suf := ([] : va_W)) (w1 := fun _ => (wMo cI cJ cZ a 0 td nd n ld sl bd pw dt st uc sv tl so ag ns ss rg hw ax fu si au px pg py)) (va_runV (As := [.int 0]) (rest := []) ⟨hx, hb, hml, hown, hts⟩ (c_X5_refused l D cI cJ cZ a H.size th td nd n ld sl bd pw dt st uc sv tl so ag ns ss rg hw ax fu si au px pg py 0) (cwV 1 hts gX5_harm_X5_refused rfl rfl rfl (by decide +kernel) ⟨Nat.le_of_ble_eq_true rfl, Nat.le_of_ble_eq_true rfl⟩) (z_pv hK hP hD (q0 := 0) (ci := 5) rfl rfl zT_b zT_m) rfl rfl hl.1 rfl (lv_room (Nat.le_of_ble_eq_true rfl)) dX5_harm_22 ⟨Nat.le_of_ble_eq_true rfl, Nat.le_of_ble_eq_true rfl⟩) hP hD hS hA (fun _ => rfl) (fun r_7 _ H locs hr_7 hP hD hS => ?_)
      subst hr_7
      refine W.eq (g2 := F0 m 25 ls [.int 0]) rfl ?_
      refine lv_if_eq (tgt := 32) hx hb dX5_harm_25 (by decide) (fun _ => ?_) (fun c9 => absurd (by decide) c9)
      refine lv_aload_n hx hb dX5_harm_32 rfl (lv_at hl 0 rfl) ?_
      refine lv_iload_n hx hb dX5_harm_33 rfl (lv_at hl 1 rfl) ?_
      refine lv_iload_n hx hb dX5_harm_34 rfl (lv_at hl 2 rfl) ?_
      refine z_ri (va_runV (As := [.int x1, .int x2]) (rest := []) ⟨hx, hb, hml, hown, hts⟩ (c_X5_harmOf l D cI cJ cZ a H.size 0 td nd n ld sl bd pw dt st uc sv tl so ag ns ss rg hw ax fu si au px pg py x1 (ix x1) g_x1 (by omega) x2 (ix x2) g_x2 (by omega)) (cwV 2 hts gX5_harm_X5_harmOf rfl rfl rfl (by decide +kernel) ⟨Nat.le_of_ble_eq_true rfl, Nat.le_of_ble_eq_true rfl⟩) (z_pv hK hP hD (q0 := 0) (ci := 5) rfl rfl zT_b zT_m) rfl rfl hl.1 rfl (lv_room (Nat.le_of_ble_eq_true rfl)) dX5_harm_35 ⟨Nat.le_of_ble_eq_true rfl, Nat.le_of_ble_eq_true rfl⟩) hP hS hA (fun r_8 _ H locs hr_8 hP hS => ?_)
      subst hr_8
      have e_wth : nI (E_two x1 x2 n) = 0 := by exact (congrArg nI (by first | with_reducible rfl | (simp only [E_two, F_sel, if_neg c_2, if_neg c_5]; done) | (simp +decide only [E_two, F_sel, if_neg c_2, if_neg c_5]; done) | (simp [E_two, F_sel, c_2, c_5]; done) | (simp +decide [E_two, F_sel, c_2, c_5]; done) : E_two x1 x2 n = 0)).trans (by decide)
      have hP : va_P D vwCl (wMo cI cJ cZ a (nI (E_two x1 x2 n)) td nd n ld sl bd pw dt st uc sv tl so ag ns ss rg hw ax fu si au px pg py) H := by rw [e_wth]; exact hP
      exact W.iret (v := G_harmOf bd st sl pw (ix x1) (ix x2)) hx hb hr (fun t ht hW => ⟨⟨G_harmOf bd st sl pw (ix x1) (ix x2), (), rfl, (Eq.symm (by rw [show (E_two x1 x2 n) = 0 from (by first | with_reducible rfl | (simp only [E_two, F_sel, if_neg c_2, if_neg c_5]; done) | (simp +decide only [E_two, F_sel, if_neg c_2, if_neg c_5]; done) | (simp [E_two, F_sel, c_2, c_5]; done) | (simp +decide [E_two, F_sel, c_2, c_5]; done)), F_sel_0]; first | done | (first | with_reducible rfl | (simp only [E_two, F_sel, if_neg c_2, if_neg c_5]; done) | (simp +decide only [E_two, F_sel, if_neg c_2, if_neg c_5]; done) | (simp [E_two, F_sel, c_2, c_5]; done) | (simp +decide [E_two, F_sel, c_2, c_5]; done)) : F_sel (E_two x1 x2 n) (G_harmOf bd st sl pw (ix x1) (ix x2)) 0 = G_harmOf bd st sl pw (ix x1) (ix x2))), (z_at ht hP)⟩, hS.F ht⟩) hS.2.2 dX5_harm_38
set_option maxHeartbeats 4000000 in
set_option maxRecDepth 100000 in
theorem c_X5_allowed (l : Launch) (D : va_G) (cI cJ cZ : ClassId) (a : Nat → Nat) (sz : Nat) (th : Int32) (td : Int32) (nd : Int32) (n : Nat) (ld : A32) (sl : A32) (bd : A32) (pw : A32) (dt : A32) (st : A32) (uc : A32) (sv : A32) (tl : A32) (so : A32) (ag : A32) (ns : Nat) (ss : A32) (rg : A32) (hw : A32) (ax : A32) (fu : A32) (si : A32) (au : A32) (px : A32) (pg : A32) (py : A64) (x1 : Int32) (x2 : Int32) (hn : n ≤ 40) : Met l yX5_allowed wsX5_allowed ({ frames := 2, cells := 0, slots := 0, locals := 43 }) (va_Pc [.ref (a 30), .int x1, .int x2] (ZP D (zt cI cJ cZ) (wMo cI cJ cZ a th td nd n ld sl bd pw dt st uc sv tl so ag ns ss rg hw ax fu si au px pg py) sz zT)) (va_Qi (fun (r : Int32) (_ : Unit) => r = F_sel (E_two x1 x2 n) (G_allow dt st ag (ix x1) (ix x2)) 0) (fun _ t => va_P D vwCl (wMo cI cJ cZ a (nI (E_two x1 x2 n)) td nd n ld sl bd pw dt st uc sv tl so ag ns ss rg hw ax fu si au px pg py) t.heap) (va_A (wMo cI cJ cZ a th td nd n ld sl bd pw dt st uc sv tl so ag ns ss rg hw ax fu si au px pg py) sz)) 0 0 (va_A (wMo cI cJ cZ a th td nd n ld sl bd pw dt st uc sv tl so ag ns ss rg hw ax fu si au px pg py) sz) := by
  refine Met.ofW (cc := cX5_allowed) (maxL := 3) (ret := (some .int)) (by decide) rfl ?_
  intro p e s m args below meth c s₁ B hml hv
  obtain ⟨rfl, hsz, hP, hK, hD0, hE⟩ := hv
  have hx := B.exec
  have hb := B.bytes
  have hr := B.returns
  have hts := atoms_spec (ws := wsX5_allowed) B.pre
  have hown : s.vm.findClass RX5 = some m.cls := findClass_of_methodNamed B.named
  have hlocks := B.notSynchronized
  subst hsz
  have hD := hD0.self (sz := s.heap.size)
  generalize hAe : va_A (wMo cI cJ cZ a th td nd n ld sl bd pw dt st uc sv tl so ag ns ss rg hw ax fu si au px pg py) s.heap.size = A at hD ⊢
  have hA : ∀ q : Nat, s.heap.size ≤ q → A q := fun q h => by rw [← hAe]; exact Or.inr h
  have hS : va_S A s.heap s.heap [] := va_S.rf
  have hl := lv_entry ([.ref (a 30), .int x1, .int x2]) (n := 3) (Nat.le_of_ble_eq_true rfl)
  rw [lg_entry_eq]
  generalize (lg_sl ([.ref (a 30), .int x1, .int x2]) ++ List.replicate (3 - (lg_sl ([.ref (a 30), .int x1, .int x2])).length) Slot.unset).toArray = ls at hl ⊢
  have hl : lv_has ls 3 [(0, .ref (a 30)), (1, .int x1), (2, .int x2)] := hl
  have hP : va_P D vwCl (wMo cI cJ cZ a th td nd n ld sl bd pw dt st uc sv tl so ag ns ss rg hw ax fu si au px pg py) s.heap := hP
  refine lv_aload_n hx hb dX5_allowed_0 rfl (lv_at hl 0 rfl) ?_
  refine lv_aload_n hx hb dX5_allowed_1 rfl (lv_at hl 0 rfl) ?_
  refine lv_iload_n hx hb dX5_allowed_2 rfl (lv_at hl 1 rfl) ?_
  refine z_ri (va_runV (As := [.int x1]) (rest := [.ref (a 30)]) ⟨hx, hb, hml, hown, hts⟩ (c_X5_isFiling l D cI cJ cZ a s.heap.size th td nd n ld sl bd pw dt st uc sv tl so ag ns ss rg hw ax fu si au px pg py x1) (cwV 1 hts gX5_allowed_X5_isFiling rfl rfl rfl (by decide +kernel) ⟨Nat.le_of_ble_eq_true rfl, Nat.le_of_ble_eq_true rfl⟩) (z_pv hK hP hD (q0 := 0) (ci := 5) rfl rfl zT_b zT_m) rfl rfl hl.1 rfl (lv_room (Nat.le_of_ble_eq_true rfl)) dX5_allowed_3 ⟨Nat.le_of_ble_eq_true rfl, Nat.le_of_ble_eq_true rfl⟩) hP hS hA (fun r_1 _ H locs hr_1 hP hS => ?_)
  subst hr_1
  refine lv_if_eq (tgt := 21) hx hb dX5_allowed_6 (by decide) (fun c_2 => ?_) (fun c_2 => ?_)
  · refine lv_iconst (v := 1) hx hb dX5_allowed_21 (by decide) ?_
    refine z_ci (pre := ([] : va_W)) (wc := (wMo cI cJ cZ a th td nd n ld sl bd pw dt st uc sv tl so ag ns ss rg hw ax fu si au px pg py)) (suf := ([] : va_W)) (w1 := fun _ => (wMo cI cJ cZ a 1 td nd n ld sl bd pw dt st uc sv tl so ag ns ss rg hw ax fu si au px pg py)) (va_runV (As := [.int 1]) (rest := []) ⟨hx, hb, hml, hown, hts⟩ (c_X5_refused l D cI cJ cZ a H.size th td nd n ld sl bd pw dt st uc sv tl so ag ns ss rg hw ax fu si au px pg py 1) (cwV 1 hts gX5_allowed_X5_refused rfl rfl rfl (by decide +kernel) ⟨Nat.le_of_ble_eq_true rfl, Nat.le_of_ble_eq_true rfl⟩) (z_pv hK hP hD (q0 := 0) (ci := 5) rfl rfl zT_b zT_m) rfl rfl hl.1 rfl (lv_room (Nat.le_of_ble_eq_true rfl)) dX5_allowed_22 ⟨Nat.le_of_ble_eq_true rfl, Nat.le_of_ble_eq_true rfl⟩) hP hD hS hA (fun _ => rfl) (fun r_3 _ H locs hr_3 hP hD hS => ?_)
    subst hr_3
    refine W.eq (g2 := F0 m 25 ls [.int 1]) rfl ?_
    refine lv_if_eq (tgt := 30) hx hb dX5_allowed_25 (by decide) (fun c9 => absurd c9 (by decide)) (fun _ => ?_)
    refine lv_iconst (v := 0) hx hb dX5_allowed_28 (by decide) ?_
    have e_wth : nI (E_two x1 x2 n) = 1 := by exact (congrArg nI (by first | with_reducible rfl | (simp only [E_two, F_sel, G_allow, if_pos c_2]; done) | (simp +decide only [E_two, F_sel, G_allow, if_pos c_2]; done) | (simp [E_two, F_sel, G_allow, c_2]; done) | (simp +decide [E_two, F_sel, G_allow, c_2]; done) : E_two x1 x2 n = 1)).trans (by decide)
    have hP : va_P D vwCl (wMo cI cJ cZ a (nI (E_two x1 x2 n)) td nd n ld sl bd pw dt st uc sv tl so ag ns ss rg hw ax fu si au px pg py) H := by rw [e_wth]; exact hP
    exact W.iret (v := 0) hx hb hr (fun t ht hW => ⟨⟨0, (), rfl, (Eq.symm (by rw [show (E_two x1 x2 n) = 1 from (by first | with_reducible rfl | (simp only [E_two, F_sel, G_allow, if_pos c_2]; done) | (simp +decide only [E_two, F_sel, G_allow, if_pos c_2]; done) | (simp [E_two, F_sel, G_allow, c_2]; done) | (simp +decide [E_two, F_sel, G_allow, c_2]; done)), F_sel_1]; first | done | (first | with_reducible rfl | (simp only [E_two, F_sel, G_allow, if_pos c_2]; done) | (simp +decide only [E_two, F_sel, G_allow, if_pos c_2]; done) | (simp [E_two, F_sel, G_allow, c_2]; done) | (simp +decide [E_two, F_sel, G_allow, c_2]; done)) : F_sel (E_two x1 x2 n) (G_allow dt st ag (ix x1) (ix x2)) 0 = 0)), (z_at ht hP)⟩, hS.F ht⟩) hS.2.2 dX5_allowed_29
  · obtain ⟨g_x1, g_x1b⟩ := F_in_ix c_2 (by omega)
    refine lv_aload_n hx hb dX5_allowed_9 rfl (lv_at hl 0 rfl) ?_
    refine lv_iload_n hx hb dX5_allowed_10 rfl (lv_at hl 2 rfl) ?_
    refine z_ri (va_runV (As := [.int x2]) (rest := [.ref (a 30)]) ⟨hx, hb, hml, hown, hts⟩ (c_X5_isFiling l D cI cJ cZ a H.size th td nd n ld sl bd pw dt st uc sv tl so ag ns ss rg hw ax fu si au px pg py x2) (cwV 1 hts gX5_allowed_X5_isFiling rfl rfl rfl (by decide +kernel) ⟨Nat.le_of_ble_eq_true rfl, Nat.le_of_ble_eq_true rfl⟩) (z_pv hK hP hD (q0 := 0) (ci := 5) rfl rfl zT_b zT_m) rfl rfl hl.1 rfl (lv_room (Nat.le_of_ble_eq_true rfl)) dX5_allowed_11 ⟨Nat.le_of_ble_eq_true rfl, Nat.le_of_ble_eq_true rfl⟩) hP hS hA (fun r_4 _ H locs hr_4 hP hS => ?_)
    subst hr_4
    refine lv_if_eq (tgt := 21) hx hb dX5_allowed_14 (by decide) (fun c_5 => ?_) (fun c_5 => ?_)
    · refine lv_iconst (v := 1) hx hb dX5_allowed_21 (by decide) ?_
      refine z_ci (pre := ([] : va_W)) (wc := (wMo cI cJ cZ a th td nd n ld sl bd pw dt st uc sv tl so ag ns ss rg hw ax fu si au px pg py)) (suf := ([] : va_W)) (w1 := fun _ => (wMo cI cJ cZ a 1 td nd n ld sl bd pw dt st uc sv tl so ag ns ss rg hw ax fu si au px pg py)) (va_runV (As := [.int 1]) (rest := []) ⟨hx, hb, hml, hown, hts⟩ (c_X5_refused l D cI cJ cZ a H.size th td nd n ld sl bd pw dt st uc sv tl so ag ns ss rg hw ax fu si au px pg py 1) (cwV 1 hts gX5_allowed_X5_refused rfl rfl rfl (by decide +kernel) ⟨Nat.le_of_ble_eq_true rfl, Nat.le_of_ble_eq_true rfl⟩) (z_pv hK hP hD (q0 := 0) (ci := 5) rfl rfl zT_b zT_m) rfl rfl hl.1 rfl (lv_room (Nat.le_of_ble_eq_true rfl)) dX5_allowed_22 ⟨Nat.le_of_ble_eq_true rfl, Nat.le_of_ble_eq_true rfl⟩) hP hD hS hA (fun _ => rfl) (fun r_6 _ H locs hr_6 hP hD hS => ?_)
      subst hr_6
      refine W.eq (g2 := F0 m 25 ls [.int 1]) rfl ?_
      refine lv_if_eq (tgt := 30) hx hb dX5_allowed_25 (by decide) (fun c9 => absurd c9 (by decide)) (fun _ => ?_)
      refine lv_iconst (v := 0) hx hb dX5_allowed_28 (by decide) ?_
      have e_wth : nI (E_two x1 x2 n) = 1 := by exact (congrArg nI (by first | with_reducible rfl | (simp only [E_two, F_sel, G_allow, if_neg c_2, if_pos c_5]; done) | (simp +decide only [E_two, F_sel, G_allow, if_neg c_2, if_pos c_5]; done) | (simp [E_two, F_sel, G_allow, c_2, c_5]; done) | (simp +decide [E_two, F_sel, G_allow, c_2, c_5]; done) : E_two x1 x2 n = 1)).trans (by decide)
      have hP : va_P D vwCl (wMo cI cJ cZ a (nI (E_two x1 x2 n)) td nd n ld sl bd pw dt st uc sv tl so ag ns ss rg hw ax fu si au px pg py) H := by rw [e_wth]; exact hP
      exact W.iret (v := 0) hx hb hr (fun t ht hW => ⟨⟨0, (), rfl, (Eq.symm (by rw [show (E_two x1 x2 n) = 1 from (by first | with_reducible rfl | (simp only [E_two, F_sel, G_allow, if_neg c_2, if_pos c_5]; done) | (simp +decide only [E_two, F_sel, G_allow, if_neg c_2, if_pos c_5]; done) | (simp [E_two, F_sel, G_allow, c_2, c_5]; done) | (simp +decide [E_two, F_sel, G_allow, c_2, c_5]; done)), F_sel_1]; first | done | (first | with_reducible rfl | (simp only [E_two, F_sel, G_allow, if_neg c_2, if_pos c_5]; done) | (simp +decide only [E_two, F_sel, G_allow, if_neg c_2, if_pos c_5]; done) | (simp [E_two, F_sel, G_allow, c_2, c_5]; done) | (simp +decide [E_two, F_sel, G_allow, c_2, c_5]; done)) : F_sel (E_two x1 x2 n) (G_allow dt st ag (ix x1) (ix x2)) 0 = 0)), (z_at ht hP)⟩, hS.F ht⟩) hS.2.2 dX5_allowed_29
    · obtain ⟨g_x2, g_x2b⟩ := F_in_ix c_5 (by omega)
      refine lv_iconst (v := 0) hx hb dX5_allowed_17 (by decide) ?_
      refine lv_goto (tgt := 22) hx hb dX5_allowed_18 (by decide) ?_
      refine z_ci (pre := ([] : va_W)) (wc := (wMo cI cJ cZ a th td nd n ld sl bd pw dt st uc sv tl so ag ns ss rg hw ax fu si au px pg py)) (suf := ([] : va_W)) (w1 := fun _ => (wMo cI cJ cZ a 0 td nd n ld sl bd pw dt st uc sv tl so ag ns ss rg hw ax fu si au px pg py)) (va_runV (As := [.int 0]) (rest := []) ⟨hx, hb, hml, hown, hts⟩ (c_X5_refused l D cI cJ cZ a H.size th td nd n ld sl bd pw dt st uc sv tl so ag ns ss rg hw ax fu si au px pg py 0) (cwV 1 hts gX5_allowed_X5_refused rfl rfl rfl (by decide +kernel) ⟨Nat.le_of_ble_eq_true rfl, Nat.le_of_ble_eq_true rfl⟩) (z_pv hK hP hD (q0 := 0) (ci := 5) rfl rfl zT_b zT_m) rfl rfl hl.1 rfl (lv_room (Nat.le_of_ble_eq_true rfl)) dX5_allowed_22 ⟨Nat.le_of_ble_eq_true rfl, Nat.le_of_ble_eq_true rfl⟩) hP hD hS hA (fun _ => rfl) (fun r_7 _ H locs hr_7 hP hD hS => ?_)
      subst hr_7
      refine W.eq (g2 := F0 m 25 ls [.int 0]) rfl ?_
      refine lv_if_eq (tgt := 30) hx hb dX5_allowed_25 (by decide) (fun _ => ?_) (fun c9 => absurd (by decide) c9)
      refine lv_aload_n hx hb dX5_allowed_30 rfl (lv_at hl 0 rfl) ?_
      refine lv_iload_n hx hb dX5_allowed_31 rfl (lv_at hl 2 rfl) ?_
      refine lv_iload_n hx hb dX5_allowed_32 rfl (lv_at hl 1 rfl) ?_
      refine z_ri (va_runV (As := [.int x2, .int x1]) (rest := []) ⟨hx, hb, hml, hown, hts⟩ (c_X5_isAhead l D cI cJ cZ a H.size 0 td nd n ld sl bd pw dt st uc sv tl so ag ns ss rg hw ax fu si au px pg py x2 (ix x2) g_x2 (by omega) x1 (ix x1) g_x1 (by omega)) (cwV 2 hts gX5_allowed_X5_isAhead rfl rfl rfl (by decide +kernel) ⟨Nat.le_of_ble_eq_true rfl, Nat.le_of_ble_eq_true rfl⟩) (z_pv hK hP hD (q0 := 0) (ci := 5) rfl rfl zT_b zT_m) rfl rfl hl.1 rfl (lv_room (Nat.le_of_ble_eq_true rfl)) dX5_allowed_33 ⟨Nat.le_of_ble_eq_true rfl, Nat.le_of_ble_eq_true rfl⟩) hP hS hA (fun r_8 _ H locs hr_8 hP hS => ?_)
      subst hr_8
      refine lv_if_eq (tgt := 48) hx hb dX5_allowed_36 (by decide) (fun c_9 => ?_) (fun c_9 => ?_)
      · refine lv_iconst (v := (-1)) hx hb dX5_allowed_48 (by decide) ?_
        have e_wth : nI (E_two x1 x2 n) = 0 := by exact (congrArg nI (by first | with_reducible rfl | (simp only [E_two, F_sel, G_allow, if_neg c_2, if_neg c_5, if_pos c_9]; done) | (simp +decide only [E_two, F_sel, G_allow, if_neg c_2, if_neg c_5, if_pos c_9]; done) | (simp [E_two, F_sel, G_allow, c_2, c_5, c_9]; done) | (simp +decide [E_two, F_sel, G_allow, c_2, c_5, c_9]; done) : E_two x1 x2 n = 0)).trans (by decide)
        have hP : va_P D vwCl (wMo cI cJ cZ a (nI (E_two x1 x2 n)) td nd n ld sl bd pw dt st uc sv tl so ag ns ss rg hw ax fu si au px pg py) H := by rw [e_wth]; exact hP
        exact W.iret (v := (-1)) hx hb hr (fun t ht hW => ⟨⟨(-1), (), rfl, (Eq.symm (by rw [show (E_two x1 x2 n) = 0 from (by first | with_reducible rfl | (simp only [E_two, F_sel, G_allow, if_neg c_2, if_neg c_5, if_pos c_9]; done) | (simp +decide only [E_two, F_sel, G_allow, if_neg c_2, if_neg c_5, if_pos c_9]; done) | (simp [E_two, F_sel, G_allow, c_2, c_5, c_9]; done) | (simp +decide [E_two, F_sel, G_allow, c_2, c_5, c_9]; done)), F_sel_0]; first | done | (first | with_reducible rfl | (simp only [E_two, F_sel, G_allow, if_neg c_2, if_neg c_5, if_pos c_9]; done) | (simp +decide only [E_two, F_sel, G_allow, if_neg c_2, if_neg c_5, if_pos c_9]; done) | (simp [E_two, F_sel, G_allow, c_2, c_5, c_9]; done) | (simp +decide [E_two, F_sel, G_allow, c_2, c_5, c_9]; done)) : F_sel (E_two x1 x2 n) (G_allow dt st ag (ix x1) (ix x2)) 0 = (-1))), (z_at ht hP)⟩, hS.F ht⟩) hS.2.2 dX5_allowed_49
      · refine lv_aload_n hx hb dX5_allowed_39 rfl (lv_at hl 0 rfl) ?_
        refine lv_iload_n hx hb dX5_allowed_40 rfl (lv_at hl 1 rfl) ?_
        refine lv_iload_n hx hb dX5_allowed_41 rfl (lv_at hl 2 rfl) ?_
        refine z_ri (va_runV (As := [.int x1, .int x2]) (rest := []) ⟨hx, hb, hml, hown, hts⟩ (c_X5_freely l D cI cJ cZ a H.size 0 td nd n ld sl bd pw dt st uc sv tl so ag ns ss rg hw ax fu si au px pg py x1 (ix x1) g_x1 (by omega) x2 (ix x2) g_x2 (by omega)) (cwV 2 hts gX5_allowed_X5_freely rfl rfl rfl (by decide +kernel) ⟨Nat.le_of_ble_eq_true rfl, Nat.le_of_ble_eq_true rfl⟩) (z_pv hK hP hD (q0 := 0) (ci := 5) rfl rfl zT_b zT_m) rfl rfl hl.1 rfl (lv_room (Nat.le_of_ble_eq_true rfl)) dX5_allowed_42 ⟨Nat.le_of_ble_eq_true rfl, Nat.le_of_ble_eq_true rfl⟩) hP hS hA (fun r_10 _ H locs hr_10 hP hS => ?_)
        subst hr_10
        refine lv_goto (tgt := 49) hx hb dX5_allowed_45 (by decide) ?_
        have e_wth : nI (E_two x1 x2 n) = 0 := by exact (congrArg nI (by first | with_reducible rfl | (simp only [E_two, F_sel, G_allow, if_neg c_2, if_neg c_5, if_neg c_9]; done) | (simp +decide only [E_two, F_sel, G_allow, if_neg c_2, if_neg c_5, if_neg c_9]; done) | (simp [E_two, F_sel, G_allow, c_2, c_5, c_9]; done) | (simp +decide [E_two, F_sel, G_allow, c_2, c_5, c_9]; done) : E_two x1 x2 n = 0)).trans (by decide)
        have hP : va_P D vwCl (wMo cI cJ cZ a (nI (E_two x1 x2 n)) td nd n ld sl bd pw dt st uc sv tl so ag ns ss rg hw ax fu si au px pg py) H := by rw [e_wth]; exact hP
        exact W.iret (v := G_free ag (ix x1) (ix x2)) hx hb hr (fun t ht hW => ⟨⟨G_free ag (ix x1) (ix x2), (), rfl, (Eq.symm (by rw [show (E_two x1 x2 n) = 0 from (by first | with_reducible rfl | (simp only [E_two, F_sel, G_allow, if_neg c_2, if_neg c_5, if_neg c_9]; done) | (simp +decide only [E_two, F_sel, G_allow, if_neg c_2, if_neg c_5, if_neg c_9]; done) | (simp [E_two, F_sel, G_allow, c_2, c_5, c_9]; done) | (simp +decide [E_two, F_sel, G_allow, c_2, c_5, c_9]; done)), F_sel_0]; first | done | (first | with_reducible rfl | (simp only [E_two, F_sel, G_allow, if_neg c_2, if_neg c_5, if_neg c_9]; done) | (simp +decide only [E_two, F_sel, G_allow, if_neg c_2, if_neg c_5, if_neg c_9]; done) | (simp [E_two, F_sel, G_allow, c_2, c_5, c_9]; done) | (simp +decide [E_two, F_sel, G_allow, c_2, c_5, c_9]; done)) : F_sel (E_two x1 x2 n) (G_allow dt st ag (ix x1) (ix x2)) 0 = G_free ag (ix x1) (ix x2))), (z_at ht hP)⟩, hS.F ht⟩) hS.2.2 dX5_allowed_49
set_option maxHeartbeats 4000000 in
set_option maxRecDepth 100000 in
theorem c_X5_needs (l : Launch) (D : va_G) (cI cJ cZ : ClassId) (a : Nat → Nat) (sz : Nat) (th : Int32) (td : Int32) (nd : Int32) (n : Nat) (ld : A32) (sl : A32) (bd : A32) (pw : A32) (dt : A32) (st : A32) (uc : A32) (sv : A32) (tl : A32) (so : A32) (ag : A32) (ns : Nat) (ss : A32) (rg : A32) (hw : A32) (ax : A32) (fu : A32) (si : A32) (au : A32) (px : A32) (pg : A32) (py : A64) (x1 : Int32) (hn : n ≤ 40) : Met l yX5_needs wsX5_needs ({ frames := 4, cells := 0, slots := 0, locals := 93 }) (va_Pc [.ref (a 30), .int x1] (ZP D (zt cI cJ cZ) (wMo cI cJ cZ a th td nd n ld sl bd pw dt st uc sv tl so ag ns ss rg hw ax fu si au px pg py) sz zT)) (va_Qi (fun (r : Int32) (_ : Unit) => r = F_sel (E_one x1 n) (G_needs bd st sl pw dt ag (ix x1) n) 0) (fun _ t => va_P D vwCl (wMo cI cJ cZ a (nI (E_one x1 n)) td nd n ld sl bd pw dt st uc sv tl so ag ns ss rg hw ax fu si au px pg py) t.heap) (va_A (wMo cI cJ cZ a th td nd n ld sl bd pw dt st uc sv tl so ag ns ss rg hw ax fu si au px pg py) sz)) 0 0 (va_A (wMo cI cJ cZ a th td nd n ld sl bd pw dt st uc sv tl so ag ns ss rg hw ax fu si au px pg py) sz) := by
  refine Met.ofW (cc := cX5_needs) (maxL := 2) (ret := (some .int)) (by decide) rfl ?_
  intro p e s m args below meth c s₁ B hml hv
  obtain ⟨rfl, hsz, hP, hK, hD0, hE⟩ := hv
  have hx := B.exec
  have hb := B.bytes
  have hr := B.returns
  have hts := atoms_spec (ws := wsX5_needs) B.pre
  have hown : s.vm.findClass RX5 = some m.cls := findClass_of_methodNamed B.named
  have hlocks := B.notSynchronized
  subst hsz
  have hD := hD0.self (sz := s.heap.size)
  generalize hAe : va_A (wMo cI cJ cZ a th td nd n ld sl bd pw dt st uc sv tl so ag ns ss rg hw ax fu si au px pg py) s.heap.size = A at hD ⊢
  have hA : ∀ q : Nat, s.heap.size ≤ q → A q := fun q h => by rw [← hAe]; exact Or.inr h
  have hS : va_S A s.heap s.heap [] := va_S.rf
  have hl := lv_entry ([.ref (a 30), .int x1]) (n := 2) (Nat.le_of_ble_eq_true rfl)
  rw [lg_entry_eq]
  generalize (lg_sl ([.ref (a 30), .int x1]) ++ List.replicate (2 - (lg_sl ([.ref (a 30), .int x1])).length) Slot.unset).toArray = ls at hl ⊢
  have hl : lv_has ls 2 [(0, .ref (a 30)), (1, .int x1)] := hl
  have hP : va_P D vwCl (wMo cI cJ cZ a th td nd n ld sl bd pw dt st uc sv tl so ag ns ss rg hw ax fu si au px pg py) s.heap := hP
  refine lv_aload_n hx hb dX5_needs_0 rfl (lv_at hl 0 rfl) ?_
  refine lv_aload_n hx hb dX5_needs_1 rfl (lv_at hl 0 rfl) ?_
  refine lv_iload_n hx hb dX5_needs_2 rfl (lv_at hl 1 rfl) ?_
  refine z_ri (va_runV (As := [.int x1]) (rest := [.ref (a 30)]) ⟨hx, hb, hml, hown, hts⟩ (c_X5_isFiling l D cI cJ cZ a s.heap.size th td nd n ld sl bd pw dt st uc sv tl so ag ns ss rg hw ax fu si au px pg py x1) (cwV 1 hts gX5_needs_X5_isFiling rfl rfl rfl (by decide +kernel) ⟨Nat.le_of_ble_eq_true rfl, Nat.le_of_ble_eq_true rfl⟩) (z_pv hK hP hD (q0 := 0) (ci := 5) rfl rfl zT_b zT_m) rfl rfl hl.1 rfl (lv_room (Nat.le_of_ble_eq_true rfl)) dX5_needs_3 ⟨Nat.le_of_ble_eq_true rfl, Nat.le_of_ble_eq_true rfl⟩) hP hS hA (fun r_1 _ H locs hr_1 hP hS => ?_)
  subst hr_1
  refine lv_if_eq (tgt := 13) hx hb dX5_needs_6 (by decide) (fun c_2 => ?_) (fun c_2 => ?_)
  · refine lv_iconst (v := 1) hx hb dX5_needs_13 (by decide) ?_
    refine z_ci (pre := ([] : va_W)) (wc := (wMo cI cJ cZ a th td nd n ld sl bd pw dt st uc sv tl so ag ns ss rg hw ax fu si au px pg py)) (suf := ([] : va_W)) (w1 := fun _ => (wMo cI cJ cZ a 1 td nd n ld sl bd pw dt st uc sv tl so ag ns ss rg hw ax fu si au px pg py)) (va_runV (As := [.int 1]) (rest := []) ⟨hx, hb, hml, hown, hts⟩ (c_X5_refused l D cI cJ cZ a H.size th td nd n ld sl bd pw dt st uc sv tl so ag ns ss rg hw ax fu si au px pg py 1) (cwV 1 hts gX5_needs_X5_refused rfl rfl rfl (by decide +kernel) ⟨Nat.le_of_ble_eq_true rfl, Nat.le_of_ble_eq_true rfl⟩) (z_pv hK hP hD (q0 := 0) (ci := 5) rfl rfl zT_b zT_m) rfl rfl hl.1 rfl (lv_room (Nat.le_of_ble_eq_true rfl)) dX5_needs_14 ⟨Nat.le_of_ble_eq_true rfl, Nat.le_of_ble_eq_true rfl⟩) hP hD hS hA (fun _ => rfl) (fun r_3 _ H locs hr_3 hP hD hS => ?_)
    subst hr_3
    refine W.eq (g2 := F0 m 17 ls [.int 1]) rfl ?_
    refine lv_if_eq (tgt := 24) hx hb dX5_needs_17 (by decide) (fun c9 => absurd c9 (by decide)) (fun _ => ?_)
    refine lv_iconst (v := 0) hx hb dX5_needs_20 (by decide) ?_
    refine lv_goto (tgt := 29) hx hb dX5_needs_21 (by decide) ?_
    have e_wth : nI (E_one x1 n) = 1 := by exact (congrArg nI (by first | with_reducible rfl | (simp only [E_one, F_sel, if_pos c_2]; done) | (simp +decide only [E_one, F_sel, if_pos c_2]; done) | (simp [E_one, F_sel, c_2]; done) | (simp +decide [E_one, F_sel, c_2]; done) : E_one x1 n = 1)).trans (by decide)
    have hP : va_P D vwCl (wMo cI cJ cZ a (nI (E_one x1 n)) td nd n ld sl bd pw dt st uc sv tl so ag ns ss rg hw ax fu si au px pg py) H := by rw [e_wth]; exact hP
    exact W.iret (v := 0) hx hb hr (fun t ht hW => ⟨⟨0, (), rfl, (Eq.symm (by rw [show (E_one x1 n) = 1 from (by first | with_reducible rfl | (simp only [E_one, F_sel, if_pos c_2]; done) | (simp +decide only [E_one, F_sel, if_pos c_2]; done) | (simp [E_one, F_sel, c_2]; done) | (simp +decide [E_one, F_sel, c_2]; done)), F_sel_1]; first | done | (first | with_reducible rfl | (simp only [E_one, F_sel, if_pos c_2]; done) | (simp +decide only [E_one, F_sel, if_pos c_2]; done) | (simp [E_one, F_sel, c_2]; done) | (simp +decide [E_one, F_sel, c_2]; done)) : F_sel (E_one x1 n) (G_needs bd st sl pw dt ag (ix x1) n) 0 = 0)), (z_at ht hP)⟩, hS.F ht⟩) hS.2.2 dX5_needs_29
  · obtain ⟨g_x1, g_x1b⟩ := F_in_ix c_2 (by omega)
    refine lv_iconst (v := 0) hx hb dX5_needs_9 (by decide) ?_
    refine lv_goto (tgt := 14) hx hb dX5_needs_10 (by decide) ?_
    refine z_ci (pre := ([] : va_W)) (wc := (wMo cI cJ cZ a th td nd n ld sl bd pw dt st uc sv tl so ag ns ss rg hw ax fu si au px pg py)) (suf := ([] : va_W)) (w1 := fun _ => (wMo cI cJ cZ a 0 td nd n ld sl bd pw dt st uc sv tl so ag ns ss rg hw ax fu si au px pg py)) (va_runV (As := [.int 0]) (rest := []) ⟨hx, hb, hml, hown, hts⟩ (c_X5_refused l D cI cJ cZ a H.size th td nd n ld sl bd pw dt st uc sv tl so ag ns ss rg hw ax fu si au px pg py 0) (cwV 1 hts gX5_needs_X5_refused rfl rfl rfl (by decide +kernel) ⟨Nat.le_of_ble_eq_true rfl, Nat.le_of_ble_eq_true rfl⟩) (z_pv hK hP hD (q0 := 0) (ci := 5) rfl rfl zT_b zT_m) rfl rfl hl.1 rfl (lv_room (Nat.le_of_ble_eq_true rfl)) dX5_needs_14 ⟨Nat.le_of_ble_eq_true rfl, Nat.le_of_ble_eq_true rfl⟩) hP hD hS hA (fun _ => rfl) (fun r_4 _ H locs hr_4 hP hD hS => ?_)
    subst hr_4
    refine W.eq (g2 := F0 m 17 ls [.int 0]) rfl ?_
    refine lv_if_eq (tgt := 24) hx hb dX5_needs_17 (by decide) (fun _ => ?_) (fun c9 => absurd (by decide) c9)
    refine lv_aload_n hx hb dX5_needs_24 rfl (lv_at hl 0 rfl) ?_
    refine lv_iload_n hx hb dX5_needs_25 rfl (lv_at hl 1 rfl) ?_
    refine z_ri (va_runV (As := [.int x1]) (rest := []) ⟨hx, hb, hml, hown, hts⟩ (c_X5_needsOf l D cI cJ cZ a H.size 0 td nd n ld sl bd pw dt st uc sv tl so ag ns ss rg hw ax fu si au px pg py x1 (ix x1) g_x1 (by omega) (by first | assumption | omega)) (cwV 1 hts gX5_needs_X5_needsOf rfl rfl rfl (by decide +kernel) ⟨Nat.le_of_ble_eq_true rfl, Nat.le_of_ble_eq_true rfl⟩) (z_pv hK hP hD (q0 := 0) (ci := 5) rfl rfl zT_b zT_m) rfl rfl hl.1 rfl (lv_room (Nat.le_of_ble_eq_true rfl)) dX5_needs_26 ⟨Nat.le_of_ble_eq_true rfl, Nat.le_of_ble_eq_true rfl⟩) hP hS hA (fun r_5 _ H locs hr_5 hP hS => ?_)
    subst hr_5
    have e_wth : nI (E_one x1 n) = 0 := by exact (congrArg nI (by first | with_reducible rfl | (simp only [E_one, F_sel, if_neg c_2]; done) | (simp +decide only [E_one, F_sel, if_neg c_2]; done) | (simp [E_one, F_sel, c_2]; done) | (simp +decide [E_one, F_sel, c_2]; done) : E_one x1 n = 0)).trans (by decide)
    have hP : va_P D vwCl (wMo cI cJ cZ a (nI (E_one x1 n)) td nd n ld sl bd pw dt st uc sv tl so ag ns ss rg hw ax fu si au px pg py) H := by rw [e_wth]; exact hP
    exact W.iret (v := G_needs bd st sl pw dt ag (ix x1) n) hx hb hr (fun t ht hW => ⟨⟨G_needs bd st sl pw dt ag (ix x1) n, (), rfl, (Eq.symm (by rw [show (E_one x1 n) = 0 from (by first | with_reducible rfl | (simp only [E_one, F_sel, if_neg c_2]; done) | (simp +decide only [E_one, F_sel, if_neg c_2]; done) | (simp [E_one, F_sel, c_2]; done) | (simp +decide [E_one, F_sel, c_2]; done)), F_sel_0]; first | done | (first | with_reducible rfl | (simp only [E_one, F_sel, if_neg c_2]; done) | (simp +decide only [E_one, F_sel, if_neg c_2]; done) | (simp [E_one, F_sel, c_2]; done) | (simp +decide [E_one, F_sel, c_2]; done)) : F_sel (E_one x1 n) (G_needs bd st sl pw dt ag (ix x1) n) 0 = G_needs bd st sl pw dt ag (ix x1) n)), (z_at ht hP)⟩, hS.F ht⟩) hS.2.2 dX5_needs_29
set_option maxHeartbeats 4000000 in
set_option maxRecDepth 100000 in
theorem c_X5_bears (l : Launch) (D : va_G) (cI cJ cZ : ClassId) (a : Nat → Nat) (sz : Nat) (th : Int32) (td : Int32) (nd : Int32) (n : Nat) (ld : A32) (sl : A32) (bd : A32) (pw : A32) (dt : A32) (st : A32) (uc : A32) (sv : A32) (tl : A32) (so : A32) (ag : A32) (ns : Nat) (ss : A32) (rg : A32) (hw : A32) (ax : A32) (fu : A32) (si : A32) (au : A32) (px : A32) (pg : A32) (py : A64) (x1 : Int32) (hn : n ≤ 40) : Met l yX5_bears wsX5_bears ({ frames := 4, cells := 0, slots := 0, locals := 93 }) (va_Pc [.ref (a 30), .int x1] (ZP D (zt cI cJ cZ) (wMo cI cJ cZ a th td nd n ld sl bd pw dt st uc sv tl so ag ns ss rg hw ax fu si au px pg py) sz zT)) (va_Qi (fun (r : Int32) (_ : Unit) => r = F_sel (E_one x1 n) (G_bears bd st sl pw dt (ix x1) n) 0) (fun _ t => va_P D vwCl (wMo cI cJ cZ a (nI (E_one x1 n)) td nd n ld sl bd pw dt st uc sv tl so ag ns ss rg hw ax fu si au px pg py) t.heap) (va_A (wMo cI cJ cZ a th td nd n ld sl bd pw dt st uc sv tl so ag ns ss rg hw ax fu si au px pg py) sz)) 0 0 (va_A (wMo cI cJ cZ a th td nd n ld sl bd pw dt st uc sv tl so ag ns ss rg hw ax fu si au px pg py) sz) := by
  refine Met.ofW (cc := cX5_bears) (maxL := 2) (ret := (some .int)) (by decide) rfl ?_
  intro p e s m args below meth c s₁ B hml hv
  obtain ⟨rfl, hsz, hP, hK, hD0, hE⟩ := hv
  have hx := B.exec
  have hb := B.bytes
  have hr := B.returns
  have hts := atoms_spec (ws := wsX5_bears) B.pre
  have hown : s.vm.findClass RX5 = some m.cls := findClass_of_methodNamed B.named
  have hlocks := B.notSynchronized
  subst hsz
  have hD := hD0.self (sz := s.heap.size)
  generalize hAe : va_A (wMo cI cJ cZ a th td nd n ld sl bd pw dt st uc sv tl so ag ns ss rg hw ax fu si au px pg py) s.heap.size = A at hD ⊢
  have hA : ∀ q : Nat, s.heap.size ≤ q → A q := fun q h => by rw [← hAe]; exact Or.inr h
  have hS : va_S A s.heap s.heap [] := va_S.rf
  have hl := lv_entry ([.ref (a 30), .int x1]) (n := 2) (Nat.le_of_ble_eq_true rfl)
  rw [lg_entry_eq]
  generalize (lg_sl ([.ref (a 30), .int x1]) ++ List.replicate (2 - (lg_sl ([.ref (a 30), .int x1])).length) Slot.unset).toArray = ls at hl ⊢
  have hl : lv_has ls 2 [(0, .ref (a 30)), (1, .int x1)] := hl
  have hP : va_P D vwCl (wMo cI cJ cZ a th td nd n ld sl bd pw dt st uc sv tl so ag ns ss rg hw ax fu si au px pg py) s.heap := hP
  refine lv_aload_n hx hb dX5_bears_0 rfl (lv_at hl 0 rfl) ?_
  refine lv_aload_n hx hb dX5_bears_1 rfl (lv_at hl 0 rfl) ?_
  refine lv_iload_n hx hb dX5_bears_2 rfl (lv_at hl 1 rfl) ?_
  refine z_ri (va_runV (As := [.int x1]) (rest := [.ref (a 30)]) ⟨hx, hb, hml, hown, hts⟩ (c_X5_isFiling l D cI cJ cZ a s.heap.size th td nd n ld sl bd pw dt st uc sv tl so ag ns ss rg hw ax fu si au px pg py x1) (cwV 1 hts gX5_bears_X5_isFiling rfl rfl rfl (by decide +kernel) ⟨Nat.le_of_ble_eq_true rfl, Nat.le_of_ble_eq_true rfl⟩) (z_pv hK hP hD (q0 := 0) (ci := 5) rfl rfl zT_b zT_m) rfl rfl hl.1 rfl (lv_room (Nat.le_of_ble_eq_true rfl)) dX5_bears_3 ⟨Nat.le_of_ble_eq_true rfl, Nat.le_of_ble_eq_true rfl⟩) hP hS hA (fun r_1 _ H locs hr_1 hP hS => ?_)
  subst hr_1
  refine lv_if_eq (tgt := 13) hx hb dX5_bears_6 (by decide) (fun c_2 => ?_) (fun c_2 => ?_)
  · refine lv_iconst (v := 1) hx hb dX5_bears_13 (by decide) ?_
    refine z_ci (pre := ([] : va_W)) (wc := (wMo cI cJ cZ a th td nd n ld sl bd pw dt st uc sv tl so ag ns ss rg hw ax fu si au px pg py)) (suf := ([] : va_W)) (w1 := fun _ => (wMo cI cJ cZ a 1 td nd n ld sl bd pw dt st uc sv tl so ag ns ss rg hw ax fu si au px pg py)) (va_runV (As := [.int 1]) (rest := []) ⟨hx, hb, hml, hown, hts⟩ (c_X5_refused l D cI cJ cZ a H.size th td nd n ld sl bd pw dt st uc sv tl so ag ns ss rg hw ax fu si au px pg py 1) (cwV 1 hts gX5_bears_X5_refused rfl rfl rfl (by decide +kernel) ⟨Nat.le_of_ble_eq_true rfl, Nat.le_of_ble_eq_true rfl⟩) (z_pv hK hP hD (q0 := 0) (ci := 5) rfl rfl zT_b zT_m) rfl rfl hl.1 rfl (lv_room (Nat.le_of_ble_eq_true rfl)) dX5_bears_14 ⟨Nat.le_of_ble_eq_true rfl, Nat.le_of_ble_eq_true rfl⟩) hP hD hS hA (fun _ => rfl) (fun r_3 _ H locs hr_3 hP hD hS => ?_)
    subst hr_3
    refine W.eq (g2 := F0 m 17 ls [.int 1]) rfl ?_
    refine lv_if_eq (tgt := 24) hx hb dX5_bears_17 (by decide) (fun c9 => absurd c9 (by decide)) (fun _ => ?_)
    refine lv_iconst (v := 0) hx hb dX5_bears_20 (by decide) ?_
    refine lv_goto (tgt := 29) hx hb dX5_bears_21 (by decide) ?_
    have e_wth : nI (E_one x1 n) = 1 := by exact (congrArg nI (by first | with_reducible rfl | (simp only [E_one, F_sel, if_pos c_2]; done) | (simp +decide only [E_one, F_sel, if_pos c_2]; done) | (simp [E_one, F_sel, c_2]; done) | (simp +decide [E_one, F_sel, c_2]; done) : E_one x1 n = 1)).trans (by decide)
    have hP : va_P D vwCl (wMo cI cJ cZ a (nI (E_one x1 n)) td nd n ld sl bd pw dt st uc sv tl so ag ns ss rg hw ax fu si au px pg py) H := by rw [e_wth]; exact hP
    exact W.iret (v := 0) hx hb hr (fun t ht hW => ⟨⟨0, (), rfl, (Eq.symm (by rw [show (E_one x1 n) = 1 from (by first | with_reducible rfl | (simp only [E_one, F_sel, if_pos c_2]; done) | (simp +decide only [E_one, F_sel, if_pos c_2]; done) | (simp [E_one, F_sel, c_2]; done) | (simp +decide [E_one, F_sel, c_2]; done)), F_sel_1]; first | done | (first | with_reducible rfl | (simp only [E_one, F_sel, if_pos c_2]; done) | (simp +decide only [E_one, F_sel, if_pos c_2]; done) | (simp [E_one, F_sel, c_2]; done) | (simp +decide [E_one, F_sel, c_2]; done)) : F_sel (E_one x1 n) (G_bears bd st sl pw dt (ix x1) n) 0 = 0)), (z_at ht hP)⟩, hS.F ht⟩) hS.2.2 dX5_bears_29
  · obtain ⟨g_x1, g_x1b⟩ := F_in_ix c_2 (by omega)
    refine lv_iconst (v := 0) hx hb dX5_bears_9 (by decide) ?_
    refine lv_goto (tgt := 14) hx hb dX5_bears_10 (by decide) ?_
    refine z_ci (pre := ([] : va_W)) (wc := (wMo cI cJ cZ a th td nd n ld sl bd pw dt st uc sv tl so ag ns ss rg hw ax fu si au px pg py)) (suf := ([] : va_W)) (w1 := fun _ => (wMo cI cJ cZ a 0 td nd n ld sl bd pw dt st uc sv tl so ag ns ss rg hw ax fu si au px pg py)) (va_runV (As := [.int 0]) (rest := []) ⟨hx, hb, hml, hown, hts⟩ (c_X5_refused l D cI cJ cZ a H.size th td nd n ld sl bd pw dt st uc sv tl so ag ns ss rg hw ax fu si au px pg py 0) (cwV 1 hts gX5_bears_X5_refused rfl rfl rfl (by decide +kernel) ⟨Nat.le_of_ble_eq_true rfl, Nat.le_of_ble_eq_true rfl⟩) (z_pv hK hP hD (q0 := 0) (ci := 5) rfl rfl zT_b zT_m) rfl rfl hl.1 rfl (lv_room (Nat.le_of_ble_eq_true rfl)) dX5_bears_14 ⟨Nat.le_of_ble_eq_true rfl, Nat.le_of_ble_eq_true rfl⟩) hP hD hS hA (fun _ => rfl) (fun r_4 _ H locs hr_4 hP hD hS => ?_)
    subst hr_4
    refine W.eq (g2 := F0 m 17 ls [.int 0]) rfl ?_
    refine lv_if_eq (tgt := 24) hx hb dX5_bears_17 (by decide) (fun _ => ?_) (fun c9 => absurd (by decide) c9)
    refine lv_aload_n hx hb dX5_bears_24 rfl (lv_at hl 0 rfl) ?_
    refine lv_iload_n hx hb dX5_bears_25 rfl (lv_at hl 1 rfl) ?_
    refine z_ri (va_runV (As := [.int x1]) (rest := []) ⟨hx, hb, hml, hown, hts⟩ (c_X5_bearsOf l D cI cJ cZ a H.size 0 td nd n ld sl bd pw dt st uc sv tl so ag ns ss rg hw ax fu si au px pg py x1 (ix x1) g_x1 (by omega) (by first | assumption | omega)) (cwV 1 hts gX5_bears_X5_bearsOf rfl rfl rfl (by decide +kernel) ⟨Nat.le_of_ble_eq_true rfl, Nat.le_of_ble_eq_true rfl⟩) (z_pv hK hP hD (q0 := 0) (ci := 5) rfl rfl zT_b zT_m) rfl rfl hl.1 rfl (lv_room (Nat.le_of_ble_eq_true rfl)) dX5_bears_26 ⟨Nat.le_of_ble_eq_true rfl, Nat.le_of_ble_eq_true rfl⟩) hP hS hA (fun r_5 _ H locs hr_5 hP hS => ?_)
    subst hr_5
    have e_wth : nI (E_one x1 n) = 0 := by exact (congrArg nI (by first | with_reducible rfl | (simp only [E_one, F_sel, if_neg c_2]; done) | (simp +decide only [E_one, F_sel, if_neg c_2]; done) | (simp [E_one, F_sel, c_2]; done) | (simp +decide [E_one, F_sel, c_2]; done) : E_one x1 n = 0)).trans (by decide)
    have hP : va_P D vwCl (wMo cI cJ cZ a (nI (E_one x1 n)) td nd n ld sl bd pw dt st uc sv tl so ag ns ss rg hw ax fu si au px pg py) H := by rw [e_wth]; exact hP
    exact W.iret (v := G_bears bd st sl pw dt (ix x1) n) hx hb hr (fun t ht hW => ⟨⟨G_bears bd st sl pw dt (ix x1) n, (), rfl, (Eq.symm (by rw [show (E_one x1 n) = 0 from (by first | with_reducible rfl | (simp only [E_one, F_sel, if_neg c_2]; done) | (simp +decide only [E_one, F_sel, if_neg c_2]; done) | (simp [E_one, F_sel, c_2]; done) | (simp +decide [E_one, F_sel, c_2]; done)), F_sel_0]; first | done | (first | with_reducible rfl | (simp only [E_one, F_sel, if_neg c_2]; done) | (simp +decide only [E_one, F_sel, if_neg c_2]; done) | (simp [E_one, F_sel, c_2]; done) | (simp +decide [E_one, F_sel, c_2]; done)) : F_sel (E_one x1 n) (G_bears bd st sl pw dt (ix x1) n) 0 = G_bears bd st sl pw dt (ix x1) n)), (z_at ht hP)⟩, hS.F ht⟩) hS.2.2 dX5_bears_29
theorem k_X5_first_1 : (Cond.fieldLink RX5 79 "OrbitregisterModel" "filings" "I") ∈ wsX5_first := List.mem_of_getElem? (i := 1) rfl
theorem b_X5_first_wsX50 : ∀ w ∈ wsX50, w ∈ wsX5_first := fun _ h => List.mem_cons_of_mem _ (List.mem_append_right _ h)
theorem k_X5_first_2 : (Cond.fieldLink RX5 13 "OrbitregisterModel" "slot" "[I") ∈ wsX5_first := List.mem_of_getElem? (i := 2) rfl
theorem k_X5_first_3 : (Cond.fieldLink RX5 16 "OrbitregisterModel" "band" "[I") ∈ wsX5_first := List.mem_of_getElem? (i := 3) rfl
theorem k_X5_first_4 : (Cond.fieldLink RX5 25 "OrbitregisterModel" "state" "[I") ∈ wsX5_first := List.mem_of_getElem? (i := 4) rfl
theorem k_X5_first_5 : (Cond.fieldLink RX5 22 "OrbitregisterModel" "date" "[I") ∈ wsX5_first := List.mem_of_getElem? (i := 5) rfl
set_option maxHeartbeats 4000000 in
set_option maxRecDepth 100000 in
theorem c_X5_first (l : Launch) (D : va_G) (cI cJ cZ : ClassId) (a : Nat → Nat) (sz : Nat) (th : Int32) (td : Int32) (nd : Int32) (n : Nat) (ld : A32) (sl : A32) (bd : A32) (pw : A32) (dt : A32) (st : A32) (uc : A32) (sv : A32) (tl : A32) (so : A32) (ag : A32) (ns : Nat) (ss : A32) (rg : A32) (hw : A32) (ax : A32) (fu : A32) (si : A32) (au : A32) (px : A32) (pg : A32) (py : A64) (x1 : Int32) (x2 : Int32) (hn : n ≤ 40) : Met l yX5_first wsX5_first ({ frames := 2, cells := 0, slots := 0, locals := 42 }) (va_Pc [.ref (a 30), .int x1, .int x2] (ZP D (zt cI cJ cZ) (wMo cI cJ cZ a th td nd n ld sl bd pw dt st uc sv tl so ag ns ss rg hw ax fu si au px pg py) sz zT)) (va_Qi (fun (r : Int32) (_ : Unit) => r = F_sel (E_first x1 x2) (G_fst bd st sl dt x1 x2 n) 0) (fun _ t => va_P D vwCl (wMo cI cJ cZ a (nI (E_first x1 x2)) td nd n ld sl bd pw dt st uc sv tl so ag ns ss rg hw ax fu si au px pg py) t.heap) (va_A (wMo cI cJ cZ a th td nd n ld sl bd pw dt st uc sv tl so ag ns ss rg hw ax fu si au px pg py) sz)) 0 0 (va_A (wMo cI cJ cZ a th td nd n ld sl bd pw dt st uc sv tl so ag ns ss rg hw ax fu si au px pg py) sz) := by
  refine Met.ofW (cc := cX5_first) (maxL := 6) (ret := (some .int)) (by decide) rfl ?_
  intro p e s m args below meth c s₁ B hml hv
  obtain ⟨rfl, hsz, hP, hK, hD0, hE⟩ := hv
  have hx := B.exec
  have hb := B.bytes
  have hr := B.returns
  have hts := atoms_spec (ws := wsX5_first) B.pre
  have hown : s.vm.findClass RX5 = some m.cls := findClass_of_methodNamed B.named
  have hlocks := B.notSynchronized
  subst hsz
  have hD := hD0.self (sz := s.heap.size)
  generalize hAe : va_A (wMo cI cJ cZ a th td nd n ld sl bd pw dt st uc sv tl so ag ns ss rg hw ax fu si au px pg py) s.heap.size = A at hD ⊢
  have hA : ∀ q : Nat, s.heap.size ≤ q → A q := fun q h => by rw [← hAe]; exact Or.inr h
  have hS : va_S A s.heap s.heap [] := va_S.rf
  have hl := lv_entry ([.ref (a 30), .int x1, .int x2]) (n := 6) (Nat.le_of_ble_eq_true rfl)
  rw [lg_entry_eq]
  generalize (lg_sl ([.ref (a 30), .int x1, .int x2]) ++ List.replicate (6 - (lg_sl ([.ref (a 30), .int x1, .int x2])).length) Slot.unset).toArray = ls at hl ⊢
  have hl : lv_has ls 6 [(0, .ref (a 30)), (1, .int x1), (2, .int x2)] := hl
  have hP : va_P D vwCl (wMo cI cJ cZ a th td nd n ld sl bd pw dt st uc sv tl so ag ns ss rg hw ax fu si au px pg py) s.heap := hP
  refine lv_aload_n hx hb dX5_first_0 rfl (lv_at hl 0 rfl) ?_
  refine lv_iload_n hx hb dX5_first_1 rfl (lv_at hl 1 rfl) ?_
  refine z_ri (va_runS (As := [.int x1]) (rest := [.ref (a 30)]) ⟨hx, hb, hml, hown, hts⟩ (c_X5_isSlot l D cI cJ cZ a s.heap.size x1) (va_cwS 1 hts gX5_first_X5_isSlot rfl rfl rfl (by decide +kernel) ⟨Nat.le_of_ble_eq_true rfl, Nat.le_of_ble_eq_true rfl⟩) (z_ps hK zP_0 zD_0 zT_b zT_m) rfl rfl hl.1 rfl (lv_room (Nat.le_of_ble_eq_true rfl)) dX5_first_2 ⟨Nat.le_of_ble_eq_true rfl, Nat.le_of_ble_eq_true rfl⟩) hP hS hA (fun r_1 _ H locs hr_1 hP hS => ?_)
  subst hr_1
  refine lv_if_eq (tgt := 21) hx hb dX5_first_5 (by decide) (fun c_2 => ?_) (fun c_2 => ?_)
  · refine lv_iconst (v := 1) hx hb dX5_first_21 (by decide) ?_
    refine z_ci (pre := ([] : va_W)) (wc := (wMo cI cJ cZ a th td nd n ld sl bd pw dt st uc sv tl so ag ns ss rg hw ax fu si au px pg py)) (suf := ([] : va_W)) (w1 := fun _ => (wMo cI cJ cZ a 1 td nd n ld sl bd pw dt st uc sv tl so ag ns ss rg hw ax fu si au px pg py)) (va_runV (As := [.int 1]) (rest := []) ⟨hx, hb, hml, hown, hts⟩ (c_X5_refused l D cI cJ cZ a H.size th td nd n ld sl bd pw dt st uc sv tl so ag ns ss rg hw ax fu si au px pg py 1) (cwV 1 hts gX5_first_X5_refused rfl rfl rfl (by decide +kernel) ⟨Nat.le_of_ble_eq_true rfl, Nat.le_of_ble_eq_true rfl⟩) (z_pv hK hP hD (q0 := 0) (ci := 5) rfl rfl zT_b zT_m) rfl rfl hl.1 rfl (lv_room (Nat.le_of_ble_eq_true rfl)) dX5_first_22 ⟨Nat.le_of_ble_eq_true rfl, Nat.le_of_ble_eq_true rfl⟩) hP hD hS hA (fun _ => rfl) (fun r_3 _ H locs hr_3 hP hD hS => ?_)
    subst hr_3
    refine W.eq (g2 := F0 m 25 ls [.int 1]) rfl ?_
    refine lv_if_eq (tgt := 30) hx hb dX5_first_25 (by decide) (fun c9 => absurd c9 (by decide)) (fun _ => ?_)
    refine lv_iconst (v := 0) hx hb dX5_first_28 (by decide) ?_
    have e_wth : nI (E_first x1 x2) = 1 := by exact (congrArg nI (by first | with_reducible rfl | (simp only [E_first, F_sel, if_pos c_2]; done) | (simp +decide only [E_first, F_sel, if_pos c_2]; done) | (simp [E_first, F_sel, c_2]; done) | (simp +decide [E_first, F_sel, c_2]; done) : E_first x1 x2 = 1)).trans (by decide)
    have hP : va_P D vwCl (wMo cI cJ cZ a (nI (E_first x1 x2)) td nd n ld sl bd pw dt st uc sv tl so ag ns ss rg hw ax fu si au px pg py) H := by rw [e_wth]; exact hP
    exact W.iret (v := 0) hx hb hr (fun t ht hW => ⟨⟨0, (), rfl, (Eq.symm (by rw [show (E_first x1 x2) = 1 from (by first | with_reducible rfl | (simp only [E_first, F_sel, if_pos c_2]; done) | (simp +decide only [E_first, F_sel, if_pos c_2]; done) | (simp [E_first, F_sel, c_2]; done) | (simp +decide [E_first, F_sel, c_2]; done)), F_sel_1]; first | done | (first | with_reducible rfl | (simp only [E_first, F_sel, if_pos c_2]; done) | (simp +decide only [E_first, F_sel, if_pos c_2]; done) | (simp [E_first, F_sel, c_2]; done) | (simp +decide [E_first, F_sel, c_2]; done)) : F_sel (E_first x1 x2) (G_fst bd st sl dt x1 x2 n) 0 = 0)), (z_at ht hP)⟩, hS.F ht⟩) hS.2.2 dX5_first_29
  · refine lv_iload_n hx hb dX5_first_8 rfl (lv_at hl 2 rfl) ?_
    refine lv_iconst (v := 0) hx hb dX5_first_9 (by decide) ?_
    refine lv_iconst (v := 4) hx hb dX5_first_10 (by decide) ?_
    refine z_ri (va_runS (As := [.int x2, .int 0, .int 4]) (rest := [.ref (a 30)]) ⟨hx, hb, hml, hown, hts⟩ (c_X5_in l D cI cJ cZ a H.size x2 0 4) (va_cwS 3 hts gX5_first_X5_in rfl rfl rfl (by decide +kernel) ⟨Nat.le_of_ble_eq_true rfl, Nat.le_of_ble_eq_true rfl⟩) (z_ps hK zP_0 zD_0 zT_b zT_m) rfl rfl hl.1 rfl (lv_room (Nat.le_of_ble_eq_true rfl)) dX5_first_11 ⟨Nat.le_of_ble_eq_true rfl, Nat.le_of_ble_eq_true rfl⟩) hP hS hA (fun r_4 _ H locs hr_4 hP hS => ?_)
    subst hr_4
    refine lv_if_eq (tgt := 21) hx hb dX5_first_14 (by decide) (fun c_5 => ?_) (fun c_5 => ?_)
    · refine lv_iconst (v := 1) hx hb dX5_first_21 (by decide) ?_
      refine z_ci (pre := ([] : va_W)) (wc := (wMo cI cJ cZ a th td nd n ld sl bd pw dt st uc sv tl so ag ns ss rg hw ax fu si au px pg py)) (suf := ([] : va_W)) (w1 := fun _ => (wMo cI cJ cZ a 1 td nd n ld sl bd pw dt st uc sv tl so ag ns ss rg hw ax fu si au px pg py)) (va_runV (As := [.int 1]) (rest := []) ⟨hx, hb, hml, hown, hts⟩ (c_X5_refused l D cI cJ cZ a H.size th td nd n ld sl bd pw dt st uc sv tl so ag ns ss rg hw ax fu si au px pg py 1) (cwV 1 hts gX5_first_X5_refused rfl rfl rfl (by decide +kernel) ⟨Nat.le_of_ble_eq_true rfl, Nat.le_of_ble_eq_true rfl⟩) (z_pv hK hP hD (q0 := 0) (ci := 5) rfl rfl zT_b zT_m) rfl rfl hl.1 rfl (lv_room (Nat.le_of_ble_eq_true rfl)) dX5_first_22 ⟨Nat.le_of_ble_eq_true rfl, Nat.le_of_ble_eq_true rfl⟩) hP hD hS hA (fun _ => rfl) (fun r_6 _ H locs hr_6 hP hD hS => ?_)
      subst hr_6
      refine W.eq (g2 := F0 m 25 ls [.int 1]) rfl ?_
      refine lv_if_eq (tgt := 30) hx hb dX5_first_25 (by decide) (fun c9 => absurd c9 (by decide)) (fun _ => ?_)
      refine lv_iconst (v := 0) hx hb dX5_first_28 (by decide) ?_
      have e_wth : nI (E_first x1 x2) = 1 := by exact (congrArg nI (by first | with_reducible rfl | (simp only [E_first, F_sel, if_neg c_2, if_pos c_5]; done) | (simp +decide only [E_first, F_sel, if_neg c_2, if_pos c_5]; done) | (simp [E_first, F_sel, c_2, c_5]; done) | (simp +decide [E_first, F_sel, c_2, c_5]; done) : E_first x1 x2 = 1)).trans (by decide)
      have hP : va_P D vwCl (wMo cI cJ cZ a (nI (E_first x1 x2)) td nd n ld sl bd pw dt st uc sv tl so ag ns ss rg hw ax fu si au px pg py) H := by rw [e_wth]; exact hP
      exact W.iret (v := 0) hx hb hr (fun t ht hW => ⟨⟨0, (), rfl, (Eq.symm (by rw [show (E_first x1 x2) = 1 from (by first | with_reducible rfl | (simp only [E_first, F_sel, if_neg c_2, if_pos c_5]; done) | (simp +decide only [E_first, F_sel, if_neg c_2, if_pos c_5]; done) | (simp [E_first, F_sel, c_2, c_5]; done) | (simp +decide [E_first, F_sel, c_2, c_5]; done)), F_sel_1]; first | done | (first | with_reducible rfl | (simp only [E_first, F_sel, if_neg c_2, if_pos c_5]; done) | (simp +decide only [E_first, F_sel, if_neg c_2, if_pos c_5]; done) | (simp [E_first, F_sel, c_2, c_5]; done) | (simp +decide [E_first, F_sel, c_2, c_5]; done)) : F_sel (E_first x1 x2) (G_fst bd st sl dt x1 x2 n) 0 = 0)), (z_at ht hP)⟩, hS.F ht⟩) hS.2.2 dX5_first_29
    · refine lv_iconst (v := 0) hx hb dX5_first_17 (by decide) ?_
      refine lv_goto (tgt := 22) hx hb dX5_first_18 (by decide) ?_
      refine z_ci (pre := ([] : va_W)) (wc := (wMo cI cJ cZ a th td nd n ld sl bd pw dt st uc sv tl so ag ns ss rg hw ax fu si au px pg py)) (suf := ([] : va_W)) (w1 := fun _ => (wMo cI cJ cZ a 0 td nd n ld sl bd pw dt st uc sv tl so ag ns ss rg hw ax fu si au px pg py)) (va_runV (As := [.int 0]) (rest := []) ⟨hx, hb, hml, hown, hts⟩ (c_X5_refused l D cI cJ cZ a H.size th td nd n ld sl bd pw dt st uc sv tl so ag ns ss rg hw ax fu si au px pg py 0) (cwV 1 hts gX5_first_X5_refused rfl rfl rfl (by decide +kernel) ⟨Nat.le_of_ble_eq_true rfl, Nat.le_of_ble_eq_true rfl⟩) (z_pv hK hP hD (q0 := 0) (ci := 5) rfl rfl zT_b zT_m) rfl rfl hl.1 rfl (lv_room (Nat.le_of_ble_eq_true rfl)) dX5_first_22 ⟨Nat.le_of_ble_eq_true rfl, Nat.le_of_ble_eq_true rfl⟩) hP hD hS hA (fun _ => rfl) (fun r_7 _ H locs hr_7 hP hD hS => ?_)
      subst hr_7
      refine W.eq (g2 := F0 m 25 ls [.int 0]) rfl ?_
      refine lv_if_eq (tgt := 30) hx hb dX5_first_25 (by decide) (fun _ => ?_) (fun c9 => absurd (by decide) c9)
      refine lv_iconst (v := (-1)) hx hb dX5_first_30 (by decide) ?_
      refine lv_istore_n (lv' := [(3, .int (-1)), (0, .ref (a 30)), (1, .int x1), (2, .int x2)]) hx hb dX5_first_31 rfl hl (by decide) rfl (fun ls hl => ?_)
      refine lv_iconst (v := 0) hx hb dX5_first_32 (by decide) ?_
      refine lv_istore (lv' := [(4, .int 0), (3, .int (-1)), (0, .ref (a 30)), (1, .int x1), (2, .int x2)]) hx hb dX5_first_33 hl (by decide) rfl (fun ls hl => ?_)
      have e_l3 : (G_fst bd st sl dt x1 x2 0) = (-1) := by first | rfl | exact nI_0
      have e_l4 : (nI 0) = 0 := by first | rfl | exact nI_0
      have hl : lv_has ls 6 [(3, .int (G_fst bd st sl dt x1 x2 0)), (4, .int (nI 0)), (0, .ref (a 30)), (1, .int x1), (2, .int x2)] := by rw [e_l3, e_l4]; exact lv_sub hl [1, 0, 2, 3, 4] rfl
      refine z_loop (D := D) (A := A) (H0 := s.heap) (N := n) (Wf := fun i => (wMo cI cJ cZ a 0 td nd n ld sl bd pw dt st uc sv tl so ag ns ss rg hw ax fu si au px pg py)) (lvf := fun i => [(3, .int (G_fst bd st sl dt x1 x2 i)), (4, .int (nI i)), (0, .ref (a 30)), (1, .int x1), (2, .int x2)]) (Inv := fun i => True) 0 (by omega) trivial hP hS hl (fun i hi hinv H locs ls hP hS hl ih => ?_)
      have hP : va_P D vwCl (wMo cI cJ cZ a 0 td nd n ld sl bd pw dt st uc sv tl so ag ns ss rg hw ax fu si au px pg py) H := hP
      have hD : va_D A (wMo cI cJ cZ a 0 td nd n ld sl bd pw dt st uc sv tl so ag ns ss rg hw ax fu si au px pg py) := zD_congr (w1 := (wMo cI cJ cZ a 0 td nd n ld sl bd pw dt st uc sv tl so ag ns ss rg hw ax fu si au px pg py)) rfl hD
      have hl : lv_has ls 6 [(3, .int (G_fst bd st sl dt x1 x2 i)), (4, .int (nI i)), (0, .ref (a 30)), (1, .int x1), (2, .int x2)] := hl
      have hinv : True := hinv
      refine lv_iload hx hb dX5_first_35 (lv_at hl 1 rfl) ?_
      refine lv_aload_n hx hb dX5_first_37 rfl (lv_at hl 2 rfl) ?_
      refine z_get (ci := 5) (C := RX5) (T := TX5) (N := 26) hx hb hts b_X5_first_wsX50 hown hK hP 0 rfl rfl 3 (by decide) (hts _ k_X5_first_1) rfl (.int (nI n)) rfl dX5_first_38 ?_
      refine lv_icmp_ge (tgt := 123) hx hb dX5_first_41 (by decide) (fun c_8 => ?_) (fun c_8 => ?_)
      · have f_8 := z_leN (a := n) (b := i) c_8 rfl rfl (by omega) (by omega)
        have f_8n := Nat.not_lt.mpr f_8
        obtain rfl : n = i := by omega
        refine lv_iload_n hx hb dX5_first_123 rfl (lv_at hl 0 rfl) ?_
        have e_wth : nI (E_first x1 x2) = 0 := by exact (congrArg nI (by first | with_reducible rfl | (simp only [E_first, F_sel, if_neg c_2, if_neg c_5, if_pos c_8, if_pos f_8, if_neg f_8n]; done) | (simp +decide only [E_first, F_sel, f_8, if_neg c_2, if_neg c_5, if_pos c_8, if_pos f_8, if_neg f_8n]; done) | (simp [E_first, F_sel, c_2, c_5, c_8, f_8, f_8n, f_8]; done) | (simp +decide [E_first, F_sel, c_2, c_5, c_8, f_8, f_8n, f_8]; done) : E_first x1 x2 = 0)).trans (by decide)
        have hP : va_P D vwCl (wMo cI cJ cZ a (nI (E_first x1 x2)) td nd n ld sl bd pw dt st uc sv tl so ag ns ss rg hw ax fu si au px pg py) H := by rw [e_wth]; exact hP
        exact W.iret (v := G_fst bd st sl dt x1 x2 n) hx hb hr (fun t ht hW => ⟨⟨G_fst bd st sl dt x1 x2 n, (), rfl, (Eq.symm (by rw [show (E_first x1 x2) = 0 from (by first | with_reducible rfl | (simp only [E_first, F_sel, if_neg c_2, if_neg c_5, if_pos c_8, if_pos f_8, if_neg f_8n]; done) | (simp +decide only [E_first, F_sel, f_8, if_neg c_2, if_neg c_5, if_pos c_8, if_pos f_8, if_neg f_8n]; done) | (simp [E_first, F_sel, c_2, c_5, c_8, f_8, f_8n, f_8]; done) | (simp +decide [E_first, F_sel, c_2, c_5, c_8, f_8, f_8n, f_8]; done)), F_sel_0]; first | done | (first | with_reducible rfl | (simp only [E_first, F_sel, if_neg c_2, if_neg c_5, if_pos c_8, if_pos f_8, if_neg f_8n]; done) | (simp +decide only [E_first, F_sel, f_8, if_neg c_2, if_neg c_5, if_pos c_8, if_pos f_8, if_neg f_8n]; done) | (simp [E_first, F_sel, c_2, c_5, c_8, f_8, f_8n, f_8]; done) | (simp +decide [E_first, F_sel, c_2, c_5, c_8, f_8, f_8n, f_8]; done)) : F_sel (E_first x1 x2) (G_fst bd st sl dt x1 x2 n) 0 = G_fst bd st sl dt x1 x2 n)), (z_at ht hP)⟩, hS.F ht⟩) hS.2.2 dX5_first_124
      · have f_8 := z_nleN (a := n) (b := i) c_8 rfl rfl (by omega) (by omega)
        have f_8n := Nat.not_le.mpr f_8
        refine lv_aload_n hx hb dX5_first_44 rfl (lv_at hl 2 rfl) ?_
        refine z_get (ci := 5) (C := RX5) (T := TX5) (N := 26) hx hb hts b_X5_first_wsX50 hown hK hP 0 rfl rfl 5 (by decide) (hts _ k_X5_first_2) rfl (.ref (a 32)) rfl dX5_first_45 ?_
        refine lv_iload hx hb dX5_first_48 (lv_at hl 1 rfl) ?_
        refine z_iald hx hb hK hP 2 0 rfl rfl i rfl (by omega) rfl dX5_first_50 ?_
        refine lv_iload_n hx hb dX5_first_51 rfl (lv_at hl 3 rfl) ?_
        refine lv_icmp_ne (tgt := 81) hx hb dX5_first_52 (by decide) (fun c_9 => ?_) (fun c_9 => ?_)
        · refine lv_iconst (v := 0) hx hb dX5_first_81 (by decide) ?_
          refine lv_istore (lv' := [(5, .int 0), (3, .int (G_fst bd st sl dt x1 x2 i)), (4, .int (nI i)), (0, .ref (a 30)), (1, .int x1), (2, .int x2)]) hx hb dX5_first_82 hl (by decide) rfl (fun ls hl => ?_)
          refine lv_iload hx hb dX5_first_84 (lv_at hl 0 rfl) ?_
          refine lv_if_eq (tgt := 115) hx hb dX5_first_86 (by decide) (fun _ => ?_) (fun c9 => absurd (by decide) c9)
          refine lv_iload_n hx hb dX5_first_115 rfl (lv_at hl 1 rfl) ?_
          refine lv_istore_n (lv' := [(3, .int (G_fst bd st sl dt x1 x2 i)), (5, .int 0), (4, .int (nI i)), (0, .ref (a 30)), (1, .int x1), (2, .int x2)]) hx hb dX5_first_116 rfl hl (by decide) rfl (fun ls hl => ?_)
          refine lv_iinc (v := nI (i + 1)) (lv' := [(4, .int (nI (i + 1))), (3, .int (G_fst bd st sl dt x1 x2 i)), (5, .int 0), (0, .ref (a 30)), (1, .int x1), (2, .int x2)]) hx hb dX5_first_117 hl (k := 2) rfl (z_inc1 i) (by decide) rfl (fun ls hl => ?_)
          refine lv_goto (tgt := 35) hx hb dX5_first_120 (by decide) ?_
          have e_l3 : (G_fst bd st sl dt x1 x2 (i + 1)) = G_fst bd st sl dt x1 x2 i := by first | with_reducible rfl | (simp only [E_first, F_sel, G_fst, if_neg c_2, if_neg c_5, if_neg c_8, if_pos f_8, if_neg f_8n, if_neg c_9]; done) | (simp +decide only [E_first, F_sel, G_fst, f_8, if_neg c_2, if_neg c_5, if_neg c_8, if_pos f_8, if_neg f_8n, if_neg c_9]; done) | (simp [E_first, F_sel, G_fst, c_2, c_5, c_8, f_8, f_8n, c_9, f_8]; done) | (simp +decide [E_first, F_sel, G_fst, c_2, c_5, c_8, f_8, f_8n, c_9, f_8]; done)
          have hl : lv_has ls 6 [(3, .int (G_fst bd st sl dt x1 x2 (i + 1))), (4, .int (nI (i + 1))), (0, .ref (a 30)), (1, .int x1), (2, .int x2)] := by rw [e_l3]; exact lv_sub hl [1, 0, 3, 4, 5] rfl
          exact ih H locs ls (by omega) trivial hP hS hl
        · refine lv_aload_n hx hb dX5_first_55 rfl (lv_at hl 2 rfl) ?_
          refine z_get (ci := 5) (C := RX5) (T := TX5) (N := 26) hx hb hts b_X5_first_wsX50 hown hK hP 0 rfl rfl 6 (by decide) (hts _ k_X5_first_3) rfl (.ref (a 33)) rfl dX5_first_56 ?_
          refine lv_iload hx hb dX5_first_59 (lv_at hl 1 rfl) ?_
          refine z_iald hx hb hK hP 3 0 rfl rfl i rfl (by omega) rfl dX5_first_61 ?_
          refine lv_iload_n hx hb dX5_first_62 rfl (lv_at hl 4 rfl) ?_
          refine lv_icmp_ne (tgt := 81) hx hb dX5_first_63 (by decide) (fun c_10 => ?_) (fun c_10 => ?_)
          · refine lv_iconst (v := 0) hx hb dX5_first_81 (by decide) ?_
            refine lv_istore (lv' := [(5, .int 0), (3, .int (G_fst bd st sl dt x1 x2 i)), (4, .int (nI i)), (0, .ref (a 30)), (1, .int x1), (2, .int x2)]) hx hb dX5_first_82 hl (by decide) rfl (fun ls hl => ?_)
            refine lv_iload hx hb dX5_first_84 (lv_at hl 0 rfl) ?_
            refine lv_if_eq (tgt := 115) hx hb dX5_first_86 (by decide) (fun _ => ?_) (fun c9 => absurd (by decide) c9)
            refine lv_iload_n hx hb dX5_first_115 rfl (lv_at hl 1 rfl) ?_
            refine lv_istore_n (lv' := [(3, .int (G_fst bd st sl dt x1 x2 i)), (5, .int 0), (4, .int (nI i)), (0, .ref (a 30)), (1, .int x1), (2, .int x2)]) hx hb dX5_first_116 rfl hl (by decide) rfl (fun ls hl => ?_)
            refine lv_iinc (v := nI (i + 1)) (lv' := [(4, .int (nI (i + 1))), (3, .int (G_fst bd st sl dt x1 x2 i)), (5, .int 0), (0, .ref (a 30)), (1, .int x1), (2, .int x2)]) hx hb dX5_first_117 hl (k := 2) rfl (z_inc1 i) (by decide) rfl (fun ls hl => ?_)
            refine lv_goto (tgt := 35) hx hb dX5_first_120 (by decide) ?_
            have e_l3 : (G_fst bd st sl dt x1 x2 (i + 1)) = G_fst bd st sl dt x1 x2 i := by first | with_reducible rfl | (simp only [E_first, F_sel, G_fst, if_neg c_2, if_neg c_5, if_neg c_8, if_pos f_8, if_neg f_8n, if_pos c_9, if_neg c_10]; done) | (simp +decide only [E_first, F_sel, G_fst, f_8, if_neg c_2, if_neg c_5, if_neg c_8, if_pos f_8, if_neg f_8n, if_pos c_9, if_neg c_10]; done) | (simp [E_first, F_sel, G_fst, c_2, c_5, c_8, f_8, f_8n, c_9, c_10, f_8]; done) | (simp +decide [E_first, F_sel, G_fst, c_2, c_5, c_8, f_8, f_8n, c_9, c_10, f_8]; done)
            have hl : lv_has ls 6 [(3, .int (G_fst bd st sl dt x1 x2 (i + 1))), (4, .int (nI (i + 1))), (0, .ref (a 30)), (1, .int x1), (2, .int x2)] := by rw [e_l3]; exact lv_sub hl [1, 0, 3, 4, 5] rfl
            exact ih H locs ls (by omega) trivial hP hS hl
          · refine lv_aload_n hx hb dX5_first_66 rfl (lv_at hl 2 rfl) ?_
            refine z_get (ci := 5) (C := RX5) (T := TX5) (N := 26) hx hb hts b_X5_first_wsX50 hown hK hP 0 rfl rfl 9 (by decide) (hts _ k_X5_first_4) rfl (.ref (a 36)) rfl dX5_first_67 ?_
            refine lv_iload hx hb dX5_first_70 (lv_at hl 1 rfl) ?_
            refine z_iald hx hb hK hP 6 0 rfl rfl i rfl (by omega) rfl dX5_first_72 ?_
            refine lv_iconst (v := 4) hx hb dX5_first_73 (by decide) ?_
            refine lv_icmp_eq (tgt := 81) hx hb dX5_first_74 (by decide) (fun c_11 => ?_) (fun c_11 => ?_)
            · refine lv_iconst (v := 0) hx hb dX5_first_81 (by decide) ?_
              refine lv_istore (lv' := [(5, .int 0), (3, .int (G_fst bd st sl dt x1 x2 i)), (4, .int (nI i)), (0, .ref (a 30)), (1, .int x1), (2, .int x2)]) hx hb dX5_first_82 hl (by decide) rfl (fun ls hl => ?_)
              refine lv_iload hx hb dX5_first_84 (lv_at hl 0 rfl) ?_
              refine lv_if_eq (tgt := 115) hx hb dX5_first_86 (by decide) (fun _ => ?_) (fun c9 => absurd (by decide) c9)
              refine lv_iload_n hx hb dX5_first_115 rfl (lv_at hl 1 rfl) ?_
              refine lv_istore_n (lv' := [(3, .int (G_fst bd st sl dt x1 x2 i)), (5, .int 0), (4, .int (nI i)), (0, .ref (a 30)), (1, .int x1), (2, .int x2)]) hx hb dX5_first_116 rfl hl (by decide) rfl (fun ls hl => ?_)
              refine lv_iinc (v := nI (i + 1)) (lv' := [(4, .int (nI (i + 1))), (3, .int (G_fst bd st sl dt x1 x2 i)), (5, .int 0), (0, .ref (a 30)), (1, .int x1), (2, .int x2)]) hx hb dX5_first_117 hl (k := 2) rfl (z_inc1 i) (by decide) rfl (fun ls hl => ?_)
              refine lv_goto (tgt := 35) hx hb dX5_first_120 (by decide) ?_
              have e_l3 : (G_fst bd st sl dt x1 x2 (i + 1)) = G_fst bd st sl dt x1 x2 i := by first | with_reducible rfl | (simp only [E_first, F_sel, G_fst, if_neg c_2, if_neg c_5, if_neg c_8, if_pos f_8, if_neg f_8n, if_pos c_9, if_pos c_10, if_pos c_11]; done) | (simp +decide only [E_first, F_sel, G_fst, f_8, if_neg c_2, if_neg c_5, if_neg c_8, if_pos f_8, if_neg f_8n, if_pos c_9, if_pos c_10, if_pos c_11]; done) | (simp [E_first, F_sel, G_fst, c_2, c_5, c_8, f_8, f_8n, c_9, c_10, c_11, f_8]; done) | (simp +decide [E_first, F_sel, G_fst, c_2, c_5, c_8, f_8, f_8n, c_9, c_10, c_11, f_8]; done)
              have hl : lv_has ls 6 [(3, .int (G_fst bd st sl dt x1 x2 (i + 1))), (4, .int (nI (i + 1))), (0, .ref (a 30)), (1, .int x1), (2, .int x2)] := by rw [e_l3]; exact lv_sub hl [1, 0, 3, 4, 5] rfl
              exact ih H locs ls (by omega) trivial hP hS hl
            · refine lv_iconst (v := 1) hx hb dX5_first_77 (by decide) ?_
              refine lv_goto (tgt := 82) hx hb dX5_first_78 (by decide) ?_
              refine lv_istore (lv' := [(5, .int 1), (3, .int (G_fst bd st sl dt x1 x2 i)), (4, .int (nI i)), (0, .ref (a 30)), (1, .int x1), (2, .int x2)]) hx hb dX5_first_82 hl (by decide) rfl (fun ls hl => ?_)
              refine lv_iload hx hb dX5_first_84 (lv_at hl 0 rfl) ?_
              refine lv_if_eq (tgt := 115) hx hb dX5_first_86 (by decide) (fun c9 => absurd c9 (by decide)) (fun _ => ?_)
              refine lv_iload_n hx hb dX5_first_89 rfl (lv_at hl 1 rfl) ?_
              refine lv_iconst (v := (-1)) hx hb dX5_first_90 (by decide) ?_
              refine lv_icmp_eq (tgt := 110) hx hb dX5_first_91 (by decide) (fun c_12 => ?_) (fun c_12 => ?_)
              · refine lv_iload hx hb dX5_first_110 (lv_at hl 2 rfl) ?_
                refine lv_goto (tgt := 116) hx hb dX5_first_112 (by decide) ?_
                refine lv_istore_n (lv' := [(3, .int (nI i)), (5, .int 1), (4, .int (nI i)), (0, .ref (a 30)), (1, .int x1), (2, .int x2)]) hx hb dX5_first_116 rfl hl (by decide) rfl (fun ls hl => ?_)
                refine lv_iinc (v := nI (i + 1)) (lv' := [(4, .int (nI (i + 1))), (3, .int (nI i)), (5, .int 1), (0, .ref (a 30)), (1, .int x1), (2, .int x2)]) hx hb dX5_first_117 hl (k := 2) rfl (z_inc1 i) (by decide) rfl (fun ls hl => ?_)
                refine lv_goto (tgt := 35) hx hb dX5_first_120 (by decide) ?_
                have e_l3 : (G_fst bd st sl dt x1 x2 (i + 1)) = nI i := by first | with_reducible rfl | (simp only [E_first, F_sel, G_fst, if_neg c_2, if_neg c_5, if_neg c_8, if_pos f_8, if_neg f_8n, if_pos c_9, if_pos c_10, if_neg c_11, if_pos c_12]; done) | (simp +decide only [E_first, F_sel, G_fst, f_8, if_neg c_2, if_neg c_5, if_neg c_8, if_pos f_8, if_neg f_8n, if_pos c_9, if_pos c_10, if_neg c_11, if_pos c_12]; done) | (simp [E_first, F_sel, G_fst, c_2, c_5, c_8, f_8, f_8n, c_9, c_10, c_11, c_12, f_8]; done) | (simp +decide [E_first, F_sel, G_fst, c_2, c_5, c_8, f_8, f_8n, c_9, c_10, c_11, c_12, f_8]; done)
                have hl : lv_has ls 6 [(3, .int (G_fst bd st sl dt x1 x2 (i + 1))), (4, .int (nI (i + 1))), (0, .ref (a 30)), (1, .int x1), (2, .int x2)] := by rw [e_l3]; exact lv_sub hl [1, 0, 3, 4, 5] rfl
                exact ih H locs ls (by omega) trivial hP hS hl
              · refine lv_aload_n hx hb dX5_first_94 rfl (lv_at hl 3 rfl) ?_
                refine z_get (ci := 5) (C := RX5) (T := TX5) (N := 26) hx hb hts b_X5_first_wsX50 hown hK hP 0 rfl rfl 8 (by decide) (hts _ k_X5_first_5) rfl (.ref (a 35)) rfl dX5_first_95 ?_
                refine lv_iload hx hb dX5_first_98 (lv_at hl 2 rfl) ?_
                refine z_iald hx hb hK hP 5 0 rfl rfl i rfl (by omega) rfl dX5_first_100 ?_
                refine lv_aload_n hx hb dX5_first_101 rfl (lv_at hl 3 rfl) ?_
                refine z_get (ci := 5) (C := RX5) (T := TX5) (N := 26) hx hb hts b_X5_first_wsX50 hown hK hP 0 rfl rfl 8 (by decide) (hts _ k_X5_first_5) rfl (.ref (a 35)) rfl dX5_first_102 ?_
                refine lv_iload_n hx hb dX5_first_105 rfl (lv_at hl 1 rfl) ?_
                refine z_iald hx hb hK hP 5 0 rfl rfl ((G_fst bd st sl dt x1 x2 i).toNatClampNeg) ((G_fst_ix bd st sl dt x1 x2 i (by omega)).resolve_left c_12).1 (Nat.lt_of_lt_of_le ((G_fst_ix bd st sl dt x1 x2 i (by omega)).resolve_left c_12).2 (by omega)) rfl dX5_first_106 ?_
                refine lv_icmp_ge (tgt := 115) hx hb dX5_first_107 (by decide) (fun c_13 => ?_) (fun c_13 => ?_)
                · refine lv_iload_n hx hb dX5_first_115 rfl (lv_at hl 1 rfl) ?_
                  refine lv_istore_n (lv' := [(3, .int (G_fst bd st sl dt x1 x2 i)), (5, .int 1), (4, .int (nI i)), (0, .ref (a 30)), (1, .int x1), (2, .int x2)]) hx hb dX5_first_116 rfl hl (by decide) rfl (fun ls hl => ?_)
                  refine lv_iinc (v := nI (i + 1)) (lv' := [(4, .int (nI (i + 1))), (3, .int (G_fst bd st sl dt x1 x2 i)), (5, .int 1), (0, .ref (a 30)), (1, .int x1), (2, .int x2)]) hx hb dX5_first_117 hl (k := 2) rfl (z_inc1 i) (by decide) rfl (fun ls hl => ?_)
                  refine lv_goto (tgt := 35) hx hb dX5_first_120 (by decide) ?_
                  have e_l3 : (G_fst bd st sl dt x1 x2 (i + 1)) = G_fst bd st sl dt x1 x2 i := by first | with_reducible rfl | (simp only [E_first, F_sel, G_fst, if_neg c_2, if_neg c_5, if_neg c_8, if_pos f_8, if_neg f_8n, if_pos c_9, if_pos c_10, if_neg c_11, if_neg c_12, if_pos c_13]; done) | (simp +decide only [E_first, F_sel, G_fst, f_8, if_neg c_2, if_neg c_5, if_neg c_8, if_pos f_8, if_neg f_8n, if_pos c_9, if_pos c_10, if_neg c_11, if_neg c_12, if_pos c_13]; done) | (simp [E_first, F_sel, G_fst, c_2, c_5, c_8, f_8, f_8n, c_9, c_10, c_11, c_12, c_13, f_8]; done) | (simp +decide [E_first, F_sel, G_fst, c_2, c_5, c_8, f_8, f_8n, c_9, c_10, c_11, c_12, c_13, f_8]; done)
                  have hl : lv_has ls 6 [(3, .int (G_fst bd st sl dt x1 x2 (i + 1))), (4, .int (nI (i + 1))), (0, .ref (a 30)), (1, .int x1), (2, .int x2)] := by rw [e_l3]; exact lv_sub hl [1, 0, 3, 4, 5] rfl
                  exact ih H locs ls (by omega) trivial hP hS hl
                · refine lv_iload hx hb dX5_first_110 (lv_at hl 2 rfl) ?_
                  refine lv_goto (tgt := 116) hx hb dX5_first_112 (by decide) ?_
                  refine lv_istore_n (lv' := [(3, .int (nI i)), (5, .int 1), (4, .int (nI i)), (0, .ref (a 30)), (1, .int x1), (2, .int x2)]) hx hb dX5_first_116 rfl hl (by decide) rfl (fun ls hl => ?_)
                  refine lv_iinc (v := nI (i + 1)) (lv' := [(4, .int (nI (i + 1))), (3, .int (nI i)), (5, .int 1), (0, .ref (a 30)), (1, .int x1), (2, .int x2)]) hx hb dX5_first_117 hl (k := 2) rfl (z_inc1 i) (by decide) rfl (fun ls hl => ?_)
                  refine lv_goto (tgt := 35) hx hb dX5_first_120 (by decide) ?_
                  have e_l3 : (G_fst bd st sl dt x1 x2 (i + 1)) = nI i := by first | with_reducible rfl | (simp only [E_first, F_sel, G_fst, if_neg c_2, if_neg c_5, if_neg c_8, if_pos f_8, if_neg f_8n, if_pos c_9, if_pos c_10, if_neg c_11, if_neg c_12, if_neg c_13]; done) | (simp +decide only [E_first, F_sel, G_fst, f_8, if_neg c_2, if_neg c_5, if_neg c_8, if_pos f_8, if_neg f_8n, if_pos c_9, if_pos c_10, if_neg c_11, if_neg c_12, if_neg c_13]; done) | (simp [E_first, F_sel, G_fst, c_2, c_5, c_8, f_8, f_8n, c_9, c_10, c_11, c_12, c_13, f_8]; done) | (simp +decide [E_first, F_sel, G_fst, c_2, c_5, c_8, f_8, f_8n, c_9, c_10, c_11, c_12, c_13, f_8]; done)
                  have hl : lv_has ls 6 [(3, .int (G_fst bd st sl dt x1 x2 (i + 1))), (4, .int (nI (i + 1))), (0, .ref (a 30)), (1, .int x1), (2, .int x2)] := by rw [e_l3]; exact lv_sub hl [1, 0, 3, 4, 5] rfl
                  exact ih H locs ls (by omega) trivial hP hS hl
theorem k_X5_satelliteOf_1 : (Cond.fieldLink RX5 44 "OrbitregisterModel" "states" "[I") ∈ wsX5_satelliteOf := List.mem_of_getElem? (i := 1) rfl
theorem b_X5_satelliteOf_wsX50 : ∀ w ∈ wsX50, w ∈ wsX5_satelliteOf := fun _ h => List.mem_cons_of_mem _ (List.mem_append_right _ h)
theorem k_X5_satelliteOf_2 : (Cond.fieldLink RX5 47 "OrbitregisterModel" "register" "[I") ∈ wsX5_satelliteOf := List.mem_of_getElem? (i := 2) rfl
theorem k_X5_satelliteOf_3 : (Cond.fieldLink RX5 50 "OrbitregisterModel" "how" "[I") ∈ wsX5_satelliteOf := List.mem_of_getElem? (i := 3) rfl
theorem k_X5_satelliteOf_4 : (Cond.fieldLink RX5 53 "OrbitregisterModel" "at" "[I") ∈ wsX5_satelliteOf := List.mem_of_getElem? (i := 4) rfl
theorem k_X5_satelliteOf_5 : (Cond.fieldLink RX5 56 "OrbitregisterModel" "fuel" "[I") ∈ wsX5_satelliteOf := List.mem_of_getElem? (i := 5) rfl
theorem k_X5_satelliteOf_6 : (Cond.fieldLink RX5 117 "OrbitregisterModel" "day" "I") ∈ wsX5_satelliteOf := List.mem_of_getElem? (i := 6) rfl
theorem k_X5_satelliteOf_7 : (Cond.fieldLink RX5 59 "OrbitregisterModel" "since" "[I") ∈ wsX5_satelliteOf := List.mem_of_getElem? (i := 7) rfl
set_option maxHeartbeats 4000000 in
set_option maxRecDepth 100000 in
theorem c_X5_satelliteOf (l : Launch) (D : va_G) (cI cJ cZ : ClassId) (a : Nat → Nat) (sz : Nat) (th : Int32) (td : Int32) (nd : Int32) (n : Nat) (ld : A32) (sl : A32) (bd : A32) (pw : A32) (dt : A32) (st : A32) (uc : A32) (sv : A32) (tl : A32) (so : A32) (ag : A32) (ns : Nat) (ss : A32) (rg : A32) (hw : A32) (ax : A32) (fu : A32) (si : A32) (au : A32) (px : A32) (pg : A32) (py : A64) (x1 : Int32) (x2 : Int32) (hn : n ≤ 40) (hs : ns ≤ 16) : Met l yX5_satelliteOf wsX5_satelliteOf ({ frames := 2, cells := 0, slots := 0, locals := 43 }) (va_Pc [.ref (a 30), .int x1, .int x2] (ZP D (zt cI cJ cZ) (wMo cI cJ cZ a th td nd n ld sl bd pw dt st uc sv tl so ag ns ss rg hw ax fu si au px pg py) sz zT)) (va_Qi (fun (r : Int32) (_ : Unit) => r = F_sel (E_satelliteOf x1 x2 ns) (F_sof ss rg hw ax fu si td (G_served sv x1 n) (ix x1) (ix x2)) 0) (fun _ t => va_P D vwCl (wMo cI cJ cZ a (nI (E_satelliteOf x1 x2 ns)) td nd n ld sl bd pw dt st uc sv tl so ag ns ss rg hw ax fu si au px pg py) t.heap) (va_A (wMo cI cJ cZ a th td nd n ld sl bd pw dt st uc sv tl so ag ns ss rg hw ax fu si au px pg py) sz)) 0 0 (va_A (wMo cI cJ cZ a th td nd n ld sl bd pw dt st uc sv tl so ag ns ss rg hw ax fu si au px pg py) sz) := by
  refine Met.ofW (cc := cX5_satelliteOf) (maxL := 3) (ret := (some .int)) (by decide) rfl ?_
  intro p e s m args below meth c s₁ B hml hv
  obtain ⟨rfl, hsz, hP, hK, hD0, hE⟩ := hv
  have hx := B.exec
  have hb := B.bytes
  have hr := B.returns
  have hts := atoms_spec (ws := wsX5_satelliteOf) B.pre
  have hown : s.vm.findClass RX5 = some m.cls := findClass_of_methodNamed B.named
  have hlocks := B.notSynchronized
  subst hsz
  have hD := hD0.self (sz := s.heap.size)
  generalize hAe : va_A (wMo cI cJ cZ a th td nd n ld sl bd pw dt st uc sv tl so ag ns ss rg hw ax fu si au px pg py) s.heap.size = A at hD ⊢
  have hA : ∀ q : Nat, s.heap.size ≤ q → A q := fun q h => by rw [← hAe]; exact Or.inr h
  have hS : va_S A s.heap s.heap [] := va_S.rf
  have hl := lv_entry ([.ref (a 30), .int x1, .int x2]) (n := 3) (Nat.le_of_ble_eq_true rfl)
  rw [lg_entry_eq]
  generalize (lg_sl ([.ref (a 30), .int x1, .int x2]) ++ List.replicate (3 - (lg_sl ([.ref (a 30), .int x1, .int x2])).length) Slot.unset).toArray = ls at hl ⊢
  have hl : lv_has ls 3 [(0, .ref (a 30)), (1, .int x1), (2, .int x2)] := hl
  have hP : va_P D vwCl (wMo cI cJ cZ a th td nd n ld sl bd pw dt st uc sv tl so ag ns ss rg hw ax fu si au px pg py) s.heap := hP
  refine lv_aload_n hx hb dX5_satelliteOf_0 rfl (lv_at hl 0 rfl) ?_
  refine lv_aload_n hx hb dX5_satelliteOf_1 rfl (lv_at hl 0 rfl) ?_
  refine lv_iload_n hx hb dX5_satelliteOf_2 rfl (lv_at hl 1 rfl) ?_
  refine z_ri (va_runV (As := [.int x1]) (rest := [.ref (a 30)]) ⟨hx, hb, hml, hown, hts⟩ (c_X5_isSatellite l D cI cJ cZ a s.heap.size th td nd n ld sl bd pw dt st uc sv tl so ag ns ss rg hw ax fu si au px pg py x1) (cwV 1 hts gX5_satelliteOf_X5_isSatellite rfl rfl rfl (by decide +kernel) ⟨Nat.le_of_ble_eq_true rfl, Nat.le_of_ble_eq_true rfl⟩) (z_pv hK hP hD (q0 := 0) (ci := 5) rfl rfl zT_b zT_m) rfl rfl hl.1 rfl (lv_room (Nat.le_of_ble_eq_true rfl)) dX5_satelliteOf_3 ⟨Nat.le_of_ble_eq_true rfl, Nat.le_of_ble_eq_true rfl⟩) hP hS hA (fun r_1 _ H locs hr_1 hP hS => ?_)
  subst hr_1
  refine lv_if_ne (tgt := 13) hx hb dX5_satelliteOf_6 (by decide) (fun c_2 => ?_) (fun c_2 => ?_)
  · obtain ⟨g_x1, g_x1b⟩ := F_in_ix c_2 (by omega)
    refine lv_iload_n hx hb dX5_satelliteOf_13 rfl (lv_at hl 2 rfl) ?_
    refine lv_iconst (v := 0) hx hb dX5_satelliteOf_14 (by decide) ?_
    refine lv_bipush (v := 6) hx hb dX5_satelliteOf_15 (by decide) ?_
    refine z_ri (va_runS (As := [.int x2, .int 0, .int 6]) (rest := [.ref (a 30)]) ⟨hx, hb, hml, hown, hts⟩ (c_X5_in l D cI cJ cZ a H.size x2 0 6) (va_cwS 3 hts gX5_satelliteOf_X5_in rfl rfl rfl (by decide +kernel) ⟨Nat.le_of_ble_eq_true rfl, Nat.le_of_ble_eq_true rfl⟩) (z_ps hK zP_0 zD_0 zT_b zT_m) rfl rfl hl.1 rfl (lv_room (Nat.le_of_ble_eq_true rfl)) dX5_satelliteOf_17 ⟨Nat.le_of_ble_eq_true rfl, Nat.le_of_ble_eq_true rfl⟩) hP hS hA (fun r_3 _ H locs hr_3 hP hS => ?_)
    subst hr_3
    refine lv_if_ne (tgt := 27) hx hb dX5_satelliteOf_20 (by decide) (fun c_4 => ?_) (fun c_4 => ?_)
    · refine lv_iconst (v := 0) hx hb dX5_satelliteOf_27 (by decide) ?_
      refine z_ci (pre := ([] : va_W)) (wc := (wMo cI cJ cZ a th td nd n ld sl bd pw dt st uc sv tl so ag ns ss rg hw ax fu si au px pg py)) (suf := ([] : va_W)) (w1 := fun _ => (wMo cI cJ cZ a 0 td nd n ld sl bd pw dt st uc sv tl so ag ns ss rg hw ax fu si au px pg py)) (va_runV (As := [.int 0]) (rest := []) ⟨hx, hb, hml, hown, hts⟩ (c_X5_refused l D cI cJ cZ a H.size th td nd n ld sl bd pw dt st uc sv tl so ag ns ss rg hw ax fu si au px pg py 0) (cwV 1 hts gX5_satelliteOf_X5_refused rfl rfl rfl (by decide +kernel) ⟨Nat.le_of_ble_eq_true rfl, Nat.le_of_ble_eq_true rfl⟩) (z_pv hK hP hD (q0 := 0) (ci := 5) rfl rfl zT_b zT_m) rfl rfl hl.1 rfl (lv_room (Nat.le_of_ble_eq_true rfl)) dX5_satelliteOf_28 ⟨Nat.le_of_ble_eq_true rfl, Nat.le_of_ble_eq_true rfl⟩) hP hD hS hA (fun _ => rfl) (fun r_5 _ H locs hr_5 hP hD hS => ?_)
      subst hr_5
      refine W.eq (g2 := F0 m 31 ls [.int 0]) rfl ?_
      refine lv_if_eq (tgt := 36) hx hb dX5_satelliteOf_31 (by decide) (fun _ => ?_) (fun c9 => absurd (by decide) c9)
      obtain ⟨g_x2, g_x2b⟩ := F_in_nat 7 c_4 (by decide)
      refine lv_iload_n hx hb dX5_satelliteOf_36 rfl (lv_at hl 2 rfl) ?_
      rcases (show ix x2 = 0 ∨ ix x2 = 1 ∨ ix x2 = 2 ∨ ix x2 = 3 ∨ ix x2 = 4 ∨ ix x2 = 5 ∨ ix x2 = 6 by omega) with k9 | k9 | k9 | k9 | k9 | k9 | k9
      · have e9 : x2 = nI 0 := by rw [g_x2, k9]
        refine lv_tableIn (off := 39) (tgt := 76) hx hb dX5_satelliteOf_37 (by rw [e9]; decide) (by rw [e9]; decide) (by rw [e9]; decide) (by decide) ?_
        refine lv_aload_n hx hb dX5_satelliteOf_76 rfl (lv_at hl 0 rfl) ?_
        refine z_get (ci := 5) (C := RX5) (T := TX5) (N := 26) hx hb hts b_X5_satelliteOf_wsX50 hown hK hP 0 rfl rfl 16 (by decide) (hts _ k_X5_satelliteOf_1) rfl (.ref (a 42)) rfl dX5_satelliteOf_77 ?_
        refine lv_iload_n hx hb dX5_satelliteOf_80 rfl (lv_at hl 1 rfl) ?_
        refine z_iald hx hb hK hP 12 0 rfl rfl (ix x1) g_x1 (by omega) rfl dX5_satelliteOf_81 ?_
        have e_wth : nI (E_satelliteOf x1 x2 ns) = 0 := by exact (congrArg nI (by first | with_reducible rfl | (simp only [E_satelliteOf, F_sel, F_sof, if_neg c_2, if_neg c_4]; done) | (simp +decide only [E_satelliteOf, F_sel, F_sof, k9, if_neg c_2, if_neg c_4]; done) | (simp [E_satelliteOf, F_sel, F_sof, c_2, c_4, k9]; done) | (simp +decide [E_satelliteOf, F_sel, F_sof, c_2, c_4, k9]; done) : E_satelliteOf x1 x2 ns = 0)).trans (by decide)
        have hP : va_P D vwCl (wMo cI cJ cZ a (nI (E_satelliteOf x1 x2 ns)) td nd n ld sl bd pw dt st uc sv tl so ag ns ss rg hw ax fu si au px pg py) H := by rw [e_wth]; exact hP
        exact W.iret (v := ss (ix x1)) hx hb hr (fun t ht hW => ⟨⟨ss (ix x1), (), rfl, (Eq.symm (by rw [show (E_satelliteOf x1 x2 ns) = 0 from (by first | with_reducible rfl | (simp only [E_satelliteOf, F_sel, F_sof, if_neg c_2, if_neg c_4]; done) | (simp +decide only [E_satelliteOf, F_sel, F_sof, k9, if_neg c_2, if_neg c_4]; done) | (simp [E_satelliteOf, F_sel, F_sof, c_2, c_4, k9]; done) | (simp +decide [E_satelliteOf, F_sel, F_sof, c_2, c_4, k9]; done)), F_sel_0]; first | done | (first | with_reducible rfl | (simp only [E_satelliteOf, F_sel, F_sof, if_neg c_2, if_neg c_4]; done) | (simp +decide only [E_satelliteOf, F_sel, F_sof, k9, if_neg c_2, if_neg c_4]; done) | (simp [E_satelliteOf, F_sel, F_sof, c_2, c_4, k9]; done) | (simp +decide [E_satelliteOf, F_sel, F_sof, c_2, c_4, k9]; done)) : F_sel (E_satelliteOf x1 x2 ns) (F_sof ss rg hw ax fu si td (G_served sv x1 n) (ix x1) (ix x2)) 0 = ss (ix x1))), (z_at ht hP)⟩, hS.F ht⟩) hS.2.2 dX5_satelliteOf_82
      · have e9 : x2 = nI 1 := by rw [g_x2, k9]
        refine lv_tableIn (off := 46) (tgt := 83) hx hb dX5_satelliteOf_37 (by rw [e9]; decide) (by rw [e9]; decide) (by rw [e9]; decide) (by decide) ?_
        refine lv_aload_n hx hb dX5_satelliteOf_83 rfl (lv_at hl 0 rfl) ?_
        refine z_get (ci := 5) (C := RX5) (T := TX5) (N := 26) hx hb hts b_X5_satelliteOf_wsX50 hown hK hP 0 rfl rfl 17 (by decide) (hts _ k_X5_satelliteOf_2) rfl (.ref (a 43)) rfl dX5_satelliteOf_84 ?_
        refine lv_iload_n hx hb dX5_satelliteOf_87 rfl (lv_at hl 1 rfl) ?_
        refine z_iald hx hb hK hP 13 0 rfl rfl (ix x1) g_x1 (by omega) rfl dX5_satelliteOf_88 ?_
        have e_wth : nI (E_satelliteOf x1 x2 ns) = 0 := by exact (congrArg nI (by first | with_reducible rfl | (simp only [E_satelliteOf, F_sel, F_sof, if_neg c_2, if_neg c_4]; done) | (simp +decide only [E_satelliteOf, F_sel, F_sof, k9, if_neg c_2, if_neg c_4]; done) | (simp [E_satelliteOf, F_sel, F_sof, c_2, c_4, k9]; done) | (simp +decide [E_satelliteOf, F_sel, F_sof, c_2, c_4, k9]; done) : E_satelliteOf x1 x2 ns = 0)).trans (by decide)
        have hP : va_P D vwCl (wMo cI cJ cZ a (nI (E_satelliteOf x1 x2 ns)) td nd n ld sl bd pw dt st uc sv tl so ag ns ss rg hw ax fu si au px pg py) H := by rw [e_wth]; exact hP
        exact W.iret (v := rg (ix x1)) hx hb hr (fun t ht hW => ⟨⟨rg (ix x1), (), rfl, (Eq.symm (by rw [show (E_satelliteOf x1 x2 ns) = 0 from (by first | with_reducible rfl | (simp only [E_satelliteOf, F_sel, F_sof, if_neg c_2, if_neg c_4]; done) | (simp +decide only [E_satelliteOf, F_sel, F_sof, k9, if_neg c_2, if_neg c_4]; done) | (simp [E_satelliteOf, F_sel, F_sof, c_2, c_4, k9]; done) | (simp +decide [E_satelliteOf, F_sel, F_sof, c_2, c_4, k9]; done)), F_sel_0]; first | done | (first | with_reducible rfl | (simp only [E_satelliteOf, F_sel, F_sof, if_neg c_2, if_neg c_4]; done) | (simp +decide only [E_satelliteOf, F_sel, F_sof, k9, if_neg c_2, if_neg c_4]; done) | (simp [E_satelliteOf, F_sel, F_sof, c_2, c_4, k9]; done) | (simp +decide [E_satelliteOf, F_sel, F_sof, c_2, c_4, k9]; done)) : F_sel (E_satelliteOf x1 x2 ns) (F_sof ss rg hw ax fu si td (G_served sv x1 n) (ix x1) (ix x2)) 0 = rg (ix x1))), (z_at ht hP)⟩, hS.F ht⟩) hS.2.2 dX5_satelliteOf_89
      · have e9 : x2 = nI 2 := by rw [g_x2, k9]
        refine lv_tableIn (off := 53) (tgt := 90) hx hb dX5_satelliteOf_37 (by rw [e9]; decide) (by rw [e9]; decide) (by rw [e9]; decide) (by decide) ?_
        refine lv_aload_n hx hb dX5_satelliteOf_90 rfl (lv_at hl 0 rfl) ?_
        refine z_get (ci := 5) (C := RX5) (T := TX5) (N := 26) hx hb hts b_X5_satelliteOf_wsX50 hown hK hP 0 rfl rfl 18 (by decide) (hts _ k_X5_satelliteOf_3) rfl (.ref (a 44)) rfl dX5_satelliteOf_91 ?_
        refine lv_iload_n hx hb dX5_satelliteOf_94 rfl (lv_at hl 1 rfl) ?_
        refine z_iald hx hb hK hP 14 0 rfl rfl (ix x1) g_x1 (by omega) rfl dX5_satelliteOf_95 ?_
        have e_wth : nI (E_satelliteOf x1 x2 ns) = 0 := by exact (congrArg nI (by first | with_reducible rfl | (simp only [E_satelliteOf, F_sel, F_sof, if_neg c_2, if_neg c_4]; done) | (simp +decide only [E_satelliteOf, F_sel, F_sof, k9, if_neg c_2, if_neg c_4]; done) | (simp [E_satelliteOf, F_sel, F_sof, c_2, c_4, k9]; done) | (simp +decide [E_satelliteOf, F_sel, F_sof, c_2, c_4, k9]; done) : E_satelliteOf x1 x2 ns = 0)).trans (by decide)
        have hP : va_P D vwCl (wMo cI cJ cZ a (nI (E_satelliteOf x1 x2 ns)) td nd n ld sl bd pw dt st uc sv tl so ag ns ss rg hw ax fu si au px pg py) H := by rw [e_wth]; exact hP
        exact W.iret (v := hw (ix x1)) hx hb hr (fun t ht hW => ⟨⟨hw (ix x1), (), rfl, (Eq.symm (by rw [show (E_satelliteOf x1 x2 ns) = 0 from (by first | with_reducible rfl | (simp only [E_satelliteOf, F_sel, F_sof, if_neg c_2, if_neg c_4]; done) | (simp +decide only [E_satelliteOf, F_sel, F_sof, k9, if_neg c_2, if_neg c_4]; done) | (simp [E_satelliteOf, F_sel, F_sof, c_2, c_4, k9]; done) | (simp +decide [E_satelliteOf, F_sel, F_sof, c_2, c_4, k9]; done)), F_sel_0]; first | done | (first | with_reducible rfl | (simp only [E_satelliteOf, F_sel, F_sof, if_neg c_2, if_neg c_4]; done) | (simp +decide only [E_satelliteOf, F_sel, F_sof, k9, if_neg c_2, if_neg c_4]; done) | (simp [E_satelliteOf, F_sel, F_sof, c_2, c_4, k9]; done) | (simp +decide [E_satelliteOf, F_sel, F_sof, c_2, c_4, k9]; done)) : F_sel (E_satelliteOf x1 x2 ns) (F_sof ss rg hw ax fu si td (G_served sv x1 n) (ix x1) (ix x2)) 0 = hw (ix x1))), (z_at ht hP)⟩, hS.F ht⟩) hS.2.2 dX5_satelliteOf_96
      · have e9 : x2 = nI 3 := by rw [g_x2, k9]
        refine lv_tableIn (off := 60) (tgt := 97) hx hb dX5_satelliteOf_37 (by rw [e9]; decide) (by rw [e9]; decide) (by rw [e9]; decide) (by decide) ?_
        refine lv_aload_n hx hb dX5_satelliteOf_97 rfl (lv_at hl 0 rfl) ?_
        refine z_get (ci := 5) (C := RX5) (T := TX5) (N := 26) hx hb hts b_X5_satelliteOf_wsX50 hown hK hP 0 rfl rfl 19 (by decide) (hts _ k_X5_satelliteOf_4) rfl (.ref (a 45)) rfl dX5_satelliteOf_98 ?_
        refine lv_iload_n hx hb dX5_satelliteOf_101 rfl (lv_at hl 1 rfl) ?_
        refine z_iald hx hb hK hP 15 0 rfl rfl (ix x1) g_x1 (by omega) rfl dX5_satelliteOf_102 ?_
        have e_wth : nI (E_satelliteOf x1 x2 ns) = 0 := by exact (congrArg nI (by first | with_reducible rfl | (simp only [E_satelliteOf, F_sel, F_sof, if_neg c_2, if_neg c_4]; done) | (simp +decide only [E_satelliteOf, F_sel, F_sof, k9, if_neg c_2, if_neg c_4]; done) | (simp [E_satelliteOf, F_sel, F_sof, c_2, c_4, k9]; done) | (simp +decide [E_satelliteOf, F_sel, F_sof, c_2, c_4, k9]; done) : E_satelliteOf x1 x2 ns = 0)).trans (by decide)
        have hP : va_P D vwCl (wMo cI cJ cZ a (nI (E_satelliteOf x1 x2 ns)) td nd n ld sl bd pw dt st uc sv tl so ag ns ss rg hw ax fu si au px pg py) H := by rw [e_wth]; exact hP
        exact W.iret (v := ax (ix x1)) hx hb hr (fun t ht hW => ⟨⟨ax (ix x1), (), rfl, (Eq.symm (by rw [show (E_satelliteOf x1 x2 ns) = 0 from (by first | with_reducible rfl | (simp only [E_satelliteOf, F_sel, F_sof, if_neg c_2, if_neg c_4]; done) | (simp +decide only [E_satelliteOf, F_sel, F_sof, k9, if_neg c_2, if_neg c_4]; done) | (simp [E_satelliteOf, F_sel, F_sof, c_2, c_4, k9]; done) | (simp +decide [E_satelliteOf, F_sel, F_sof, c_2, c_4, k9]; done)), F_sel_0]; first | done | (first | with_reducible rfl | (simp only [E_satelliteOf, F_sel, F_sof, if_neg c_2, if_neg c_4]; done) | (simp +decide only [E_satelliteOf, F_sel, F_sof, k9, if_neg c_2, if_neg c_4]; done) | (simp [E_satelliteOf, F_sel, F_sof, c_2, c_4, k9]; done) | (simp +decide [E_satelliteOf, F_sel, F_sof, c_2, c_4, k9]; done)) : F_sel (E_satelliteOf x1 x2 ns) (F_sof ss rg hw ax fu si td (G_served sv x1 n) (ix x1) (ix x2)) 0 = ax (ix x1))), (z_at ht hP)⟩, hS.F ht⟩) hS.2.2 dX5_satelliteOf_103
      · have e9 : x2 = nI 4 := by rw [g_x2, k9]
        refine lv_tableIn (off := 67) (tgt := 104) hx hb dX5_satelliteOf_37 (by rw [e9]; decide) (by rw [e9]; decide) (by rw [e9]; decide) (by decide) ?_
        refine lv_aload_n hx hb dX5_satelliteOf_104 rfl (lv_at hl 0 rfl) ?_
        refine z_get (ci := 5) (C := RX5) (T := TX5) (N := 26) hx hb hts b_X5_satelliteOf_wsX50 hown hK hP 0 rfl rfl 20 (by decide) (hts _ k_X5_satelliteOf_5) rfl (.ref (a 46)) rfl dX5_satelliteOf_105 ?_
        refine lv_iload_n hx hb dX5_satelliteOf_108 rfl (lv_at hl 1 rfl) ?_
        refine z_iald hx hb hK hP 16 0 rfl rfl (ix x1) g_x1 (by omega) rfl dX5_satelliteOf_109 ?_
        have e_wth : nI (E_satelliteOf x1 x2 ns) = 0 := by exact (congrArg nI (by first | with_reducible rfl | (simp only [E_satelliteOf, F_sel, F_sof, if_neg c_2, if_neg c_4]; done) | (simp +decide only [E_satelliteOf, F_sel, F_sof, k9, if_neg c_2, if_neg c_4]; done) | (simp [E_satelliteOf, F_sel, F_sof, c_2, c_4, k9]; done) | (simp +decide [E_satelliteOf, F_sel, F_sof, c_2, c_4, k9]; done) : E_satelliteOf x1 x2 ns = 0)).trans (by decide)
        have hP : va_P D vwCl (wMo cI cJ cZ a (nI (E_satelliteOf x1 x2 ns)) td nd n ld sl bd pw dt st uc sv tl so ag ns ss rg hw ax fu si au px pg py) H := by rw [e_wth]; exact hP
        exact W.iret (v := fu (ix x1)) hx hb hr (fun t ht hW => ⟨⟨fu (ix x1), (), rfl, (Eq.symm (by rw [show (E_satelliteOf x1 x2 ns) = 0 from (by first | with_reducible rfl | (simp only [E_satelliteOf, F_sel, F_sof, if_neg c_2, if_neg c_4]; done) | (simp +decide only [E_satelliteOf, F_sel, F_sof, k9, if_neg c_2, if_neg c_4]; done) | (simp [E_satelliteOf, F_sel, F_sof, c_2, c_4, k9]; done) | (simp +decide [E_satelliteOf, F_sel, F_sof, c_2, c_4, k9]; done)), F_sel_0]; first | done | (first | with_reducible rfl | (simp only [E_satelliteOf, F_sel, F_sof, if_neg c_2, if_neg c_4]; done) | (simp +decide only [E_satelliteOf, F_sel, F_sof, k9, if_neg c_2, if_neg c_4]; done) | (simp [E_satelliteOf, F_sel, F_sof, c_2, c_4, k9]; done) | (simp +decide [E_satelliteOf, F_sel, F_sof, c_2, c_4, k9]; done)) : F_sel (E_satelliteOf x1 x2 ns) (F_sof ss rg hw ax fu si td (G_served sv x1 n) (ix x1) (ix x2)) 0 = fu (ix x1))), (z_at ht hP)⟩, hS.F ht⟩) hS.2.2 dX5_satelliteOf_110
      · have e9 : x2 = nI 5 := by rw [g_x2, k9]
        refine lv_tableIn (off := 74) (tgt := 111) hx hb dX5_satelliteOf_37 (by rw [e9]; decide) (by rw [e9]; decide) (by rw [e9]; decide) (by decide) ?_
        refine lv_aload_n hx hb dX5_satelliteOf_111 rfl (lv_at hl 0 rfl) ?_
        refine z_get (ci := 5) (C := RX5) (T := TX5) (N := 26) hx hb hts b_X5_satelliteOf_wsX50 hown hK hP 0 rfl rfl 18 (by decide) (hts _ k_X5_satelliteOf_3) rfl (.ref (a 44)) rfl dX5_satelliteOf_112 ?_
        refine lv_iload_n hx hb dX5_satelliteOf_115 rfl (lv_at hl 1 rfl) ?_
        refine z_iald hx hb hK hP 14 0 rfl rfl (ix x1) g_x1 (by omega) rfl dX5_satelliteOf_116 ?_
        refine lv_iconst (v := 1) hx hb dX5_satelliteOf_117 (by decide) ?_
        refine lv_icmp_ne (tgt := 125) hx hb dX5_satelliteOf_118 (by decide) (fun c_6 => ?_) (fun c_6 => ?_)
        · refine lv_aload_n hx hb dX5_satelliteOf_125 rfl (lv_at hl 0 rfl) ?_
          refine z_get (ci := 5) (C := RX5) (T := TX5) (N := 26) hx hb hts b_X5_satelliteOf_wsX50 hown hK hP 0 rfl rfl 1 (by decide) (hts _ k_X5_satelliteOf_6) rfl (.int td) rfl dX5_satelliteOf_126 ?_
          refine lv_aload_n hx hb dX5_satelliteOf_129 rfl (lv_at hl 0 rfl) ?_
          refine z_get (ci := 5) (C := RX5) (T := TX5) (N := 26) hx hb hts b_X5_satelliteOf_wsX50 hown hK hP 0 rfl rfl 21 (by decide) (hts _ k_X5_satelliteOf_7) rfl (.ref (a 47)) rfl dX5_satelliteOf_130 ?_
          refine lv_iload_n hx hb dX5_satelliteOf_133 rfl (lv_at hl 1 rfl) ?_
          refine z_iald hx hb hK hP 17 0 rfl rfl (ix x1) g_x1 (by omega) rfl dX5_satelliteOf_134 ?_
          refine lv_isub hx hb dX5_satelliteOf_135 ?_
          have e_wth : nI (E_satelliteOf x1 x2 ns) = 0 := by exact (congrArg nI (by first | with_reducible rfl | (simp only [E_satelliteOf, F_sel, F_sof, if_neg c_2, if_neg c_4, if_neg c_6]; done) | (simp +decide only [E_satelliteOf, F_sel, F_sof, k9, if_neg c_2, if_neg c_4, if_neg c_6]; done) | (simp [E_satelliteOf, F_sel, F_sof, c_2, c_4, c_6, k9]; done) | (simp +decide [E_satelliteOf, F_sel, F_sof, c_2, c_4, c_6, k9]; done) : E_satelliteOf x1 x2 ns = 0)).trans (by decide)
          have hP : va_P D vwCl (wMo cI cJ cZ a (nI (E_satelliteOf x1 x2 ns)) td nd n ld sl bd pw dt st uc sv tl so ag ns ss rg hw ax fu si au px pg py) H := by rw [e_wth]; exact hP
          exact W.iret (v := td - (si (ix x1))) hx hb hr (fun t ht hW => ⟨⟨td - (si (ix x1)), (), rfl, (Eq.symm (by rw [show (E_satelliteOf x1 x2 ns) = 0 from (by first | with_reducible rfl | (simp only [E_satelliteOf, F_sel, F_sof, if_neg c_2, if_neg c_4, if_neg c_6]; done) | (simp +decide only [E_satelliteOf, F_sel, F_sof, k9, if_neg c_2, if_neg c_4, if_neg c_6]; done) | (simp [E_satelliteOf, F_sel, F_sof, c_2, c_4, c_6, k9]; done) | (simp +decide [E_satelliteOf, F_sel, F_sof, c_2, c_4, c_6, k9]; done)), F_sel_0]; first | done | (first | with_reducible rfl | (simp only [E_satelliteOf, F_sel, F_sof, if_neg c_2, if_neg c_4, if_neg c_6]; done) | (simp +decide only [E_satelliteOf, F_sel, F_sof, k9, if_neg c_2, if_neg c_4, if_neg c_6]; done) | (simp [E_satelliteOf, F_sel, F_sof, c_2, c_4, c_6, k9]; done) | (simp +decide [E_satelliteOf, F_sel, F_sof, c_2, c_4, c_6, k9]; done)) : F_sel (E_satelliteOf x1 x2 ns) (F_sof ss rg hw ax fu si td (G_served sv x1 n) (ix x1) (ix x2)) 0 = td - (si (ix x1)))), (z_at ht hP)⟩, hS.F ht⟩) hS.2.2 dX5_satelliteOf_136
        · refine lv_iconst (v := (-1)) hx hb dX5_satelliteOf_121 (by decide) ?_
          refine lv_goto (tgt := 136) hx hb dX5_satelliteOf_122 (by decide) ?_
          have e_wth : nI (E_satelliteOf x1 x2 ns) = 0 := by exact (congrArg nI (by first | with_reducible rfl | (simp only [E_satelliteOf, F_sel, F_sof, if_neg c_2, if_neg c_4, if_pos c_6]; done) | (simp +decide only [E_satelliteOf, F_sel, F_sof, k9, if_neg c_2, if_neg c_4, if_pos c_6]; done) | (simp [E_satelliteOf, F_sel, F_sof, c_2, c_4, c_6, k9]; done) | (simp +decide [E_satelliteOf, F_sel, F_sof, c_2, c_4, c_6, k9]; done) : E_satelliteOf x1 x2 ns = 0)).trans (by decide)
          have hP : va_P D vwCl (wMo cI cJ cZ a (nI (E_satelliteOf x1 x2 ns)) td nd n ld sl bd pw dt st uc sv tl so ag ns ss rg hw ax fu si au px pg py) H := by rw [e_wth]; exact hP
          exact W.iret (v := (-1)) hx hb hr (fun t ht hW => ⟨⟨(-1), (), rfl, (Eq.symm (by rw [show (E_satelliteOf x1 x2 ns) = 0 from (by first | with_reducible rfl | (simp only [E_satelliteOf, F_sel, F_sof, if_neg c_2, if_neg c_4, if_pos c_6]; done) | (simp +decide only [E_satelliteOf, F_sel, F_sof, k9, if_neg c_2, if_neg c_4, if_pos c_6]; done) | (simp [E_satelliteOf, F_sel, F_sof, c_2, c_4, c_6, k9]; done) | (simp +decide [E_satelliteOf, F_sel, F_sof, c_2, c_4, c_6, k9]; done)), F_sel_0]; first | done | (first | with_reducible rfl | (simp only [E_satelliteOf, F_sel, F_sof, if_neg c_2, if_neg c_4, if_pos c_6]; done) | (simp +decide only [E_satelliteOf, F_sel, F_sof, k9, if_neg c_2, if_neg c_4, if_pos c_6]; done) | (simp [E_satelliteOf, F_sel, F_sof, c_2, c_4, c_6, k9]; done) | (simp +decide [E_satelliteOf, F_sel, F_sof, c_2, c_4, c_6, k9]; done)) : F_sel (E_satelliteOf x1 x2 ns) (F_sof ss rg hw ax fu si td (G_served sv x1 n) (ix x1) (ix x2)) 0 = (-1))), (z_at ht hP)⟩, hS.F ht⟩) hS.2.2 dX5_satelliteOf_136
      · have e9 : x2 = nI 6 := by rw [g_x2, k9]
        refine lv_tableOut (tgt := 137) hx hb dX5_satelliteOf_37 (by rw [e9]; decide) (by decide) ?_
        refine lv_aload_n hx hb dX5_satelliteOf_137 rfl (lv_at hl 0 rfl) ?_
        refine lv_iload_n hx hb dX5_satelliteOf_138 rfl (lv_at hl 1 rfl) ?_
        refine z_ri (va_runV (As := [.int x1]) (rest := []) ⟨hx, hb, hml, hown, hts⟩ (c_X5_served l D cI cJ cZ a H.size 0 td nd n ld sl bd pw dt st uc sv tl so ag ns ss rg hw ax fu si au px pg py x1 (by first | assumption | omega)) (cwV 1 hts gX5_satelliteOf_X5_served rfl rfl rfl (by decide +kernel) ⟨Nat.le_of_ble_eq_true rfl, Nat.le_of_ble_eq_true rfl⟩) (z_pv hK hP hD (q0 := 0) (ci := 5) rfl rfl zT_b zT_m) rfl rfl hl.1 rfl (lv_room (Nat.le_of_ble_eq_true rfl)) dX5_satelliteOf_139 ⟨Nat.le_of_ble_eq_true rfl, Nat.le_of_ble_eq_true rfl⟩) hP hS hA (fun r_7 _ H locs hr_7 hP hS => ?_)
        subst hr_7
        have e_wth : nI (E_satelliteOf x1 x2 ns) = 0 := by exact (congrArg nI (by first | with_reducible rfl | (simp only [E_satelliteOf, F_sel, F_sof, if_neg c_2, if_neg c_4]; done) | (simp +decide only [E_satelliteOf, F_sel, F_sof, k9, if_neg c_2, if_neg c_4]; done) | (simp [E_satelliteOf, F_sel, F_sof, c_2, c_4, k9]; done) | (simp +decide [E_satelliteOf, F_sel, F_sof, c_2, c_4, k9]; done) : E_satelliteOf x1 x2 ns = 0)).trans (by decide)
        have hP : va_P D vwCl (wMo cI cJ cZ a (nI (E_satelliteOf x1 x2 ns)) td nd n ld sl bd pw dt st uc sv tl so ag ns ss rg hw ax fu si au px pg py) H := by rw [e_wth]; exact hP
        exact W.iret (v := G_served sv x1 n) hx hb hr (fun t ht hW => ⟨⟨G_served sv x1 n, (), rfl, (Eq.symm (by rw [show (E_satelliteOf x1 x2 ns) = 0 from (by first | with_reducible rfl | (simp only [E_satelliteOf, F_sel, F_sof, if_neg c_2, if_neg c_4]; done) | (simp +decide only [E_satelliteOf, F_sel, F_sof, k9, if_neg c_2, if_neg c_4]; done) | (simp [E_satelliteOf, F_sel, F_sof, c_2, c_4, k9]; done) | (simp +decide [E_satelliteOf, F_sel, F_sof, c_2, c_4, k9]; done)), F_sel_0]; first | done | (first | with_reducible rfl | (simp only [E_satelliteOf, F_sel, F_sof, if_neg c_2, if_neg c_4]; done) | (simp +decide only [E_satelliteOf, F_sel, F_sof, k9, if_neg c_2, if_neg c_4]; done) | (simp [E_satelliteOf, F_sel, F_sof, c_2, c_4, k9]; done) | (simp +decide [E_satelliteOf, F_sel, F_sof, c_2, c_4, k9]; done)) : F_sel (E_satelliteOf x1 x2 ns) (F_sof ss rg hw ax fu si td (G_served sv x1 n) (ix x1) (ix x2)) 0 = G_served sv x1 n)), (z_at ht hP)⟩, hS.F ht⟩) hS.2.2 dX5_satelliteOf_142
    · refine lv_iconst (v := 2) hx hb dX5_satelliteOf_23 (by decide) ?_
      refine lv_goto (tgt := 28) hx hb dX5_satelliteOf_24 (by decide) ?_
      refine z_ci (pre := ([] : va_W)) (wc := (wMo cI cJ cZ a th td nd n ld sl bd pw dt st uc sv tl so ag ns ss rg hw ax fu si au px pg py)) (suf := ([] : va_W)) (w1 := fun _ => (wMo cI cJ cZ a 2 td nd n ld sl bd pw dt st uc sv tl so ag ns ss rg hw ax fu si au px pg py)) (va_runV (As := [.int 2]) (rest := []) ⟨hx, hb, hml, hown, hts⟩ (c_X5_refused l D cI cJ cZ a H.size th td nd n ld sl bd pw dt st uc sv tl so ag ns ss rg hw ax fu si au px pg py 2) (cwV 1 hts gX5_satelliteOf_X5_refused rfl rfl rfl (by decide +kernel) ⟨Nat.le_of_ble_eq_true rfl, Nat.le_of_ble_eq_true rfl⟩) (z_pv hK hP hD (q0 := 0) (ci := 5) rfl rfl zT_b zT_m) rfl rfl hl.1 rfl (lv_room (Nat.le_of_ble_eq_true rfl)) dX5_satelliteOf_28 ⟨Nat.le_of_ble_eq_true rfl, Nat.le_of_ble_eq_true rfl⟩) hP hD hS hA (fun _ => rfl) (fun r_8 _ H locs hr_8 hP hD hS => ?_)
      subst hr_8
      refine W.eq (g2 := F0 m 31 ls [.int 1]) rfl ?_
      refine lv_if_eq (tgt := 36) hx hb dX5_satelliteOf_31 (by decide) (fun c9 => absurd c9 (by decide)) (fun _ => ?_)
      refine lv_iconst (v := 0) hx hb dX5_satelliteOf_34 (by decide) ?_
      have e_wth : nI (E_satelliteOf x1 x2 ns) = 2 := by exact (congrArg nI (by first | with_reducible rfl | (simp only [E_satelliteOf, F_sel, F_sof, if_neg c_2, if_pos c_4]; done) | (simp +decide only [E_satelliteOf, F_sel, F_sof, if_neg c_2, if_pos c_4]; done) | (simp [E_satelliteOf, F_sel, F_sof, c_2, c_4]; done) | (simp +decide [E_satelliteOf, F_sel, F_sof, c_2, c_4]; done) : E_satelliteOf x1 x2 ns = 2)).trans (by decide)
      have hP : va_P D vwCl (wMo cI cJ cZ a (nI (E_satelliteOf x1 x2 ns)) td nd n ld sl bd pw dt st uc sv tl so ag ns ss rg hw ax fu si au px pg py) H := by rw [e_wth]; exact hP
      exact W.iret (v := 0) hx hb hr (fun t ht hW => ⟨⟨0, (), rfl, (Eq.symm (by rw [show (E_satelliteOf x1 x2 ns) = 2 from (by first | with_reducible rfl | (simp only [E_satelliteOf, F_sel, F_sof, if_neg c_2, if_pos c_4]; done) | (simp +decide only [E_satelliteOf, F_sel, F_sof, if_neg c_2, if_pos c_4]; done) | (simp [E_satelliteOf, F_sel, F_sof, c_2, c_4]; done) | (simp +decide [E_satelliteOf, F_sel, F_sof, c_2, c_4]; done)), F_sel_2]; first | done | (first | with_reducible rfl | (simp only [E_satelliteOf, F_sel, F_sof, if_neg c_2, if_pos c_4]; done) | (simp +decide only [E_satelliteOf, F_sel, F_sof, if_neg c_2, if_pos c_4]; done) | (simp [E_satelliteOf, F_sel, F_sof, c_2, c_4]; done) | (simp +decide [E_satelliteOf, F_sel, F_sof, c_2, c_4]; done)) : F_sel (E_satelliteOf x1 x2 ns) (F_sof ss rg hw ax fu si td (G_served sv x1 n) (ix x1) (ix x2)) 0 = 0)), (z_at ht hP)⟩, hS.F ht⟩) hS.2.2 dX5_satelliteOf_35
  · refine lv_iconst (v := 1) hx hb dX5_satelliteOf_9 (by decide) ?_
    refine lv_goto (tgt := 28) hx hb dX5_satelliteOf_10 (by decide) ?_
    refine z_ci (pre := ([] : va_W)) (wc := (wMo cI cJ cZ a th td nd n ld sl bd pw dt st uc sv tl so ag ns ss rg hw ax fu si au px pg py)) (suf := ([] : va_W)) (w1 := fun _ => (wMo cI cJ cZ a 1 td nd n ld sl bd pw dt st uc sv tl so ag ns ss rg hw ax fu si au px pg py)) (va_runV (As := [.int 1]) (rest := []) ⟨hx, hb, hml, hown, hts⟩ (c_X5_refused l D cI cJ cZ a H.size th td nd n ld sl bd pw dt st uc sv tl so ag ns ss rg hw ax fu si au px pg py 1) (cwV 1 hts gX5_satelliteOf_X5_refused rfl rfl rfl (by decide +kernel) ⟨Nat.le_of_ble_eq_true rfl, Nat.le_of_ble_eq_true rfl⟩) (z_pv hK hP hD (q0 := 0) (ci := 5) rfl rfl zT_b zT_m) rfl rfl hl.1 rfl (lv_room (Nat.le_of_ble_eq_true rfl)) dX5_satelliteOf_28 ⟨Nat.le_of_ble_eq_true rfl, Nat.le_of_ble_eq_true rfl⟩) hP hD hS hA (fun _ => rfl) (fun r_9 _ H locs hr_9 hP hD hS => ?_)
    subst hr_9
    refine W.eq (g2 := F0 m 31 ls [.int 1]) rfl ?_
    refine lv_if_eq (tgt := 36) hx hb dX5_satelliteOf_31 (by decide) (fun c9 => absurd c9 (by decide)) (fun _ => ?_)
    refine lv_iconst (v := 0) hx hb dX5_satelliteOf_34 (by decide) ?_
    have e_wth : nI (E_satelliteOf x1 x2 ns) = 1 := by exact (congrArg nI (by first | with_reducible rfl | (simp only [E_satelliteOf, F_sel, F_sof, if_pos c_2]; done) | (simp +decide only [E_satelliteOf, F_sel, F_sof, if_pos c_2]; done) | (simp [E_satelliteOf, F_sel, F_sof, c_2]; done) | (simp +decide [E_satelliteOf, F_sel, F_sof, c_2]; done) : E_satelliteOf x1 x2 ns = 1)).trans (by decide)
    have hP : va_P D vwCl (wMo cI cJ cZ a (nI (E_satelliteOf x1 x2 ns)) td nd n ld sl bd pw dt st uc sv tl so ag ns ss rg hw ax fu si au px pg py) H := by rw [e_wth]; exact hP
    exact W.iret (v := 0) hx hb hr (fun t ht hW => ⟨⟨0, (), rfl, (Eq.symm (by rw [show (E_satelliteOf x1 x2 ns) = 1 from (by first | with_reducible rfl | (simp only [E_satelliteOf, F_sel, F_sof, if_pos c_2]; done) | (simp +decide only [E_satelliteOf, F_sel, F_sof, if_pos c_2]; done) | (simp [E_satelliteOf, F_sel, F_sof, c_2]; done) | (simp +decide [E_satelliteOf, F_sel, F_sof, c_2]; done)), F_sel_1]; first | done | (first | with_reducible rfl | (simp only [E_satelliteOf, F_sel, F_sof, if_pos c_2]; done) | (simp +decide only [E_satelliteOf, F_sel, F_sof, if_pos c_2]; done) | (simp [E_satelliteOf, F_sel, F_sof, c_2]; done) | (simp +decide [E_satelliteOf, F_sel, F_sof, c_2]; done)) : F_sel (E_satelliteOf x1 x2 ns) (F_sof ss rg hw ax fu si td (G_served sv x1 n) (ix x1) (ix x2)) 0 = 0)), (z_at ht hP)⟩, hS.F ht⟩) hS.2.2 dX5_satelliteOf_35
theorem k_X5_pieces_1 : (Cond.fieldLink RX5 65 "OrbitregisterModel" "pieces" "[I") ∈ wsX5_pieces := List.mem_of_getElem? (i := 1) rfl
theorem b_X5_pieces_wsX50 : ∀ w ∈ wsX50, w ∈ wsX5_pieces := fun _ h => List.mem_cons_of_mem _ (List.mem_append_right _ h)
set_option maxHeartbeats 4000000 in
set_option maxRecDepth 100000 in
theorem c_X5_pieces (l : Launch) (D : va_G) (cI cJ cZ : ClassId) (a : Nat → Nat) (sz : Nat) (th : Int32) (td : Int32) (nd : Int32) (n : Nat) (ld : A32) (sl : A32) (bd : A32) (pw : A32) (dt : A32) (st : A32) (uc : A32) (sv : A32) (tl : A32) (so : A32) (ag : A32) (ns : Nat) (ss : A32) (rg : A32) (hw : A32) (ax : A32) (fu : A32) (si : A32) (au : A32) (px : A32) (pg : A32) (py : A64) (x1 : Int32) : Met l yX5_pieces wsX5_pieces ({ frames := 1, cells := 0, slots := 0, locals := 22 }) (va_Pc [.ref (a 30), .int x1] (ZP D (zt cI cJ cZ) (wMo cI cJ cZ a th td nd n ld sl bd pw dt st uc sv tl so ag ns ss rg hw ax fu si au px pg py) sz zT)) (va_Qi (fun (r : Int32) (_ : Unit) => r = F_sel (E_rng x1 35) (px (ix x1)) 0) (fun _ t => va_P D vwCl (wMo cI cJ cZ a (nI (E_rng x1 35)) td nd n ld sl bd pw dt st uc sv tl so ag ns ss rg hw ax fu si au px pg py) t.heap) (va_A (wMo cI cJ cZ a th td nd n ld sl bd pw dt st uc sv tl so ag ns ss rg hw ax fu si au px pg py) sz)) 0 0 (va_A (wMo cI cJ cZ a th td nd n ld sl bd pw dt st uc sv tl so ag ns ss rg hw ax fu si au px pg py) sz) := by
  refine Met.ofW (cc := cX5_pieces) (maxL := 2) (ret := (some .int)) (by decide) rfl ?_
  intro p e s m args below meth c s₁ B hml hv
  obtain ⟨rfl, hsz, hP, hK, hD0, hE⟩ := hv
  have hx := B.exec
  have hb := B.bytes
  have hr := B.returns
  have hts := atoms_spec (ws := wsX5_pieces) B.pre
  have hown : s.vm.findClass RX5 = some m.cls := findClass_of_methodNamed B.named
  have hlocks := B.notSynchronized
  subst hsz
  have hD := hD0.self (sz := s.heap.size)
  generalize hAe : va_A (wMo cI cJ cZ a th td nd n ld sl bd pw dt st uc sv tl so ag ns ss rg hw ax fu si au px pg py) s.heap.size = A at hD ⊢
  have hA : ∀ q : Nat, s.heap.size ≤ q → A q := fun q h => by rw [← hAe]; exact Or.inr h
  have hS : va_S A s.heap s.heap [] := va_S.rf
  have hl := lv_entry ([.ref (a 30), .int x1]) (n := 2) (Nat.le_of_ble_eq_true rfl)
  rw [lg_entry_eq]
  generalize (lg_sl ([.ref (a 30), .int x1]) ++ List.replicate (2 - (lg_sl ([.ref (a 30), .int x1])).length) Slot.unset).toArray = ls at hl ⊢
  have hl : lv_has ls 2 [(0, .ref (a 30)), (1, .int x1)] := hl
  have hP : va_P D vwCl (wMo cI cJ cZ a th td nd n ld sl bd pw dt st uc sv tl so ag ns ss rg hw ax fu si au px pg py) s.heap := hP
  refine lv_aload_n hx hb dX5_pieces_0 rfl (lv_at hl 0 rfl) ?_
  refine lv_iload_n hx hb dX5_pieces_1 rfl (lv_at hl 1 rfl) ?_
  refine lv_iconst (v := 0) hx hb dX5_pieces_2 (by decide) ?_
  refine lv_bipush (v := 35) hx hb dX5_pieces_3 (by decide) ?_
  refine z_ri (va_runS (As := [.int x1, .int 0, .int 35]) (rest := [.ref (a 30)]) ⟨hx, hb, hml, hown, hts⟩ (c_X5_in l D cI cJ cZ a s.heap.size x1 0 35) (va_cwS 3 hts gX5_pieces_X5_in rfl rfl rfl (by decide +kernel) ⟨Nat.le_of_ble_eq_true rfl, Nat.le_of_ble_eq_true rfl⟩) (z_ps hK zP_0 zD_0 zT_b zT_m) rfl rfl hl.1 rfl (lv_room (Nat.le_of_ble_eq_true rfl)) dX5_pieces_5 ⟨Nat.le_of_ble_eq_true rfl, Nat.le_of_ble_eq_true rfl⟩) hP hS hA (fun r_1 _ H locs hr_1 hP hS => ?_)
  subst hr_1
  refine lv_if_eq (tgt := 15) hx hb dX5_pieces_8 (by decide) (fun c_2 => ?_) (fun c_2 => ?_)
  · refine lv_iconst (v := 1) hx hb dX5_pieces_15 (by decide) ?_
    refine z_ci (pre := ([] : va_W)) (wc := (wMo cI cJ cZ a th td nd n ld sl bd pw dt st uc sv tl so ag ns ss rg hw ax fu si au px pg py)) (suf := ([] : va_W)) (w1 := fun _ => (wMo cI cJ cZ a 1 td nd n ld sl bd pw dt st uc sv tl so ag ns ss rg hw ax fu si au px pg py)) (va_runV (As := [.int 1]) (rest := []) ⟨hx, hb, hml, hown, hts⟩ (c_X5_refused l D cI cJ cZ a H.size th td nd n ld sl bd pw dt st uc sv tl so ag ns ss rg hw ax fu si au px pg py 1) (cwV 1 hts gX5_pieces_X5_refused rfl rfl rfl (by decide +kernel) ⟨Nat.le_of_ble_eq_true rfl, Nat.le_of_ble_eq_true rfl⟩) (z_pv hK hP hD (q0 := 0) (ci := 5) rfl rfl zT_b zT_m) rfl rfl hl.1 rfl (lv_room (Nat.le_of_ble_eq_true rfl)) dX5_pieces_16 ⟨Nat.le_of_ble_eq_true rfl, Nat.le_of_ble_eq_true rfl⟩) hP hD hS hA (fun _ => rfl) (fun r_3 _ H locs hr_3 hP hD hS => ?_)
    subst hr_3
    refine W.eq (g2 := F0 m 19 ls [.int 1]) rfl ?_
    refine lv_if_eq (tgt := 26) hx hb dX5_pieces_19 (by decide) (fun c9 => absurd c9 (by decide)) (fun _ => ?_)
    refine lv_iconst (v := 0) hx hb dX5_pieces_22 (by decide) ?_
    refine lv_goto (tgt := 32) hx hb dX5_pieces_23 (by decide) ?_
    have e_wth : nI (E_rng x1 35) = 1 := by exact (congrArg nI (by first | with_reducible rfl | (simp only [E_rng, F_sel, if_pos c_2]; done) | (simp +decide only [E_rng, F_sel, if_pos c_2]; done) | (simp [E_rng, F_sel, c_2]; done) | (simp +decide [E_rng, F_sel, c_2]; done) : E_rng x1 35 = 1)).trans (by decide)
    have hP : va_P D vwCl (wMo cI cJ cZ a (nI (E_rng x1 35)) td nd n ld sl bd pw dt st uc sv tl so ag ns ss rg hw ax fu si au px pg py) H := by rw [e_wth]; exact hP
    exact W.iret (v := 0) hx hb hr (fun t ht hW => ⟨⟨0, (), rfl, (Eq.symm (by rw [show (E_rng x1 35) = 1 from (by first | with_reducible rfl | (simp only [E_rng, F_sel, if_pos c_2]; done) | (simp +decide only [E_rng, F_sel, if_pos c_2]; done) | (simp [E_rng, F_sel, c_2]; done) | (simp +decide [E_rng, F_sel, c_2]; done)), F_sel_1]; first | done | (first | with_reducible rfl | (simp only [E_rng, F_sel, if_pos c_2]; done) | (simp +decide only [E_rng, F_sel, if_pos c_2]; done) | (simp [E_rng, F_sel, c_2]; done) | (simp +decide [E_rng, F_sel, c_2]; done)) : F_sel (E_rng x1 35) (px (ix x1)) 0 = 0)), (z_at ht hP)⟩, hS.F ht⟩) hS.2.2 dX5_pieces_32
  · obtain ⟨g_x1, g_x1b⟩ := F_in_nat 36 c_2 (by decide)
    refine lv_iconst (v := 0) hx hb dX5_pieces_11 (by decide) ?_
    refine lv_goto (tgt := 16) hx hb dX5_pieces_12 (by decide) ?_
    refine z_ci (pre := ([] : va_W)) (wc := (wMo cI cJ cZ a th td nd n ld sl bd pw dt st uc sv tl so ag ns ss rg hw ax fu si au px pg py)) (suf := ([] : va_W)) (w1 := fun _ => (wMo cI cJ cZ a 0 td nd n ld sl bd pw dt st uc sv tl so ag ns ss rg hw ax fu si au px pg py)) (va_runV (As := [.int 0]) (rest := []) ⟨hx, hb, hml, hown, hts⟩ (c_X5_refused l D cI cJ cZ a H.size th td nd n ld sl bd pw dt st uc sv tl so ag ns ss rg hw ax fu si au px pg py 0) (cwV 1 hts gX5_pieces_X5_refused rfl rfl rfl (by decide +kernel) ⟨Nat.le_of_ble_eq_true rfl, Nat.le_of_ble_eq_true rfl⟩) (z_pv hK hP hD (q0 := 0) (ci := 5) rfl rfl zT_b zT_m) rfl rfl hl.1 rfl (lv_room (Nat.le_of_ble_eq_true rfl)) dX5_pieces_16 ⟨Nat.le_of_ble_eq_true rfl, Nat.le_of_ble_eq_true rfl⟩) hP hD hS hA (fun _ => rfl) (fun r_4 _ H locs hr_4 hP hD hS => ?_)
    subst hr_4
    refine W.eq (g2 := F0 m 19 ls [.int 0]) rfl ?_
    refine lv_if_eq (tgt := 26) hx hb dX5_pieces_19 (by decide) (fun _ => ?_) (fun c9 => absurd (by decide) c9)
    refine lv_aload_n hx hb dX5_pieces_26 rfl (lv_at hl 0 rfl) ?_
    refine z_get (ci := 5) (C := RX5) (T := TX5) (N := 26) hx hb hts b_X5_pieces_wsX50 hown hK hP 0 rfl rfl 23 (by decide) (hts _ k_X5_pieces_1) rfl (.ref (a 49)) rfl dX5_pieces_27 ?_
    refine lv_iload_n hx hb dX5_pieces_30 rfl (lv_at hl 1 rfl) ?_
    refine z_iald hx hb hK hP 19 0 rfl rfl (ix x1) g_x1 (by omega) rfl dX5_pieces_31 ?_
    have e_wth : nI (E_rng x1 35) = 0 := by exact (congrArg nI (by first | with_reducible rfl | (simp only [E_rng, F_sel, if_neg c_2]; done) | (simp +decide only [E_rng, F_sel, if_neg c_2]; done) | (simp [E_rng, F_sel, c_2]; done) | (simp +decide [E_rng, F_sel, c_2]; done) : E_rng x1 35 = 0)).trans (by decide)
    have hP : va_P D vwCl (wMo cI cJ cZ a (nI (E_rng x1 35)) td nd n ld sl bd pw dt st uc sv tl so ag ns ss rg hw ax fu si au px pg py) H := by rw [e_wth]; exact hP
    exact W.iret (v := px (ix x1)) hx hb hr (fun t ht hW => ⟨⟨px (ix x1), (), rfl, (Eq.symm (by rw [show (E_rng x1 35) = 0 from (by first | with_reducible rfl | (simp only [E_rng, F_sel, if_neg c_2]; done) | (simp +decide only [E_rng, F_sel, if_neg c_2]; done) | (simp [E_rng, F_sel, c_2]; done) | (simp +decide [E_rng, F_sel, c_2]; done)), F_sel_0]; first | done | (first | with_reducible rfl | (simp only [E_rng, F_sel, if_neg c_2]; done) | (simp +decide only [E_rng, F_sel, if_neg c_2]; done) | (simp [E_rng, F_sel, c_2]; done) | (simp +decide [E_rng, F_sel, c_2]; done)) : F_sel (E_rng x1 35) (px (ix x1)) 0 = px (ix x1))), (z_at ht hP)⟩, hS.F ht⟩) hS.2.2 dX5_pieces_32
theorem k_X5_paid_1 : (Cond.fieldLink RX5 71 "OrbitregisterModel" "paid" "[J") ∈ wsX5_paid := List.mem_of_getElem? (i := 1) rfl
theorem b_X5_paid_wsX50 : ∀ w ∈ wsX50, w ∈ wsX5_paid := fun _ h => List.mem_cons_of_mem _ (List.mem_append_right _ h)
set_option maxHeartbeats 4000000 in
set_option maxRecDepth 100000 in
theorem c_X5_paid (l : Launch) (D : va_G) (cI cJ cZ : ClassId) (a : Nat → Nat) (sz : Nat) (th : Int32) (td : Int32) (nd : Int32) (n : Nat) (ld : A32) (sl : A32) (bd : A32) (pw : A32) (dt : A32) (st : A32) (uc : A32) (sv : A32) (tl : A32) (so : A32) (ag : A32) (ns : Nat) (ss : A32) (rg : A32) (hw : A32) (ax : A32) (fu : A32) (si : A32) (au : A32) (px : A32) (pg : A32) (py : A64) (x1 : Int32) : Met l yX5_paid wsX5_paid ({ frames := 1, cells := 0, slots := 0, locals := 22 }) (va_Pc [.ref (a 30), .int x1] (ZP D (zt cI cJ cZ) (wMo cI cJ cZ a th td nd n ld sl bd pw dt st uc sv tl so ag ns ss rg hw ax fu si au px pg py) sz zT)) (va_Ql (fun (r : Int64) (_ : Unit) => r = F_sel (E_rng x1 7) (py (ix x1)) 0) (fun _ t => va_P D vwCl (wMo cI cJ cZ a (nI (E_rng x1 7)) td nd n ld sl bd pw dt st uc sv tl so ag ns ss rg hw ax fu si au px pg py) t.heap) (va_A (wMo cI cJ cZ a th td nd n ld sl bd pw dt st uc sv tl so ag ns ss rg hw ax fu si au px pg py) sz)) 0 0 (va_A (wMo cI cJ cZ a th td nd n ld sl bd pw dt st uc sv tl so ag ns ss rg hw ax fu si au px pg py) sz) := by
  refine Met.ofW (cc := cX5_paid) (maxL := 2) (ret := (some .long)) (by decide) rfl ?_
  intro p e s m args below meth c s₁ B hml hv
  obtain ⟨rfl, hsz, hP, hK, hD0, hE⟩ := hv
  have hx := B.exec
  have hb := B.bytes
  have hr := B.returns
  have hts := atoms_spec (ws := wsX5_paid) B.pre
  have hown : s.vm.findClass RX5 = some m.cls := findClass_of_methodNamed B.named
  have hlocks := B.notSynchronized
  subst hsz
  have hD := hD0.self (sz := s.heap.size)
  generalize hAe : va_A (wMo cI cJ cZ a th td nd n ld sl bd pw dt st uc sv tl so ag ns ss rg hw ax fu si au px pg py) s.heap.size = A at hD ⊢
  have hA : ∀ q : Nat, s.heap.size ≤ q → A q := fun q h => by rw [← hAe]; exact Or.inr h
  have hS : va_S A s.heap s.heap [] := va_S.rf
  have hl := lv_entry ([.ref (a 30), .int x1]) (n := 2) (Nat.le_of_ble_eq_true rfl)
  rw [lg_entry_eq]
  generalize (lg_sl ([.ref (a 30), .int x1]) ++ List.replicate (2 - (lg_sl ([.ref (a 30), .int x1])).length) Slot.unset).toArray = ls at hl ⊢
  have hl : lv_has ls 2 [(0, .ref (a 30)), (1, .int x1)] := hl
  have hP : va_P D vwCl (wMo cI cJ cZ a th td nd n ld sl bd pw dt st uc sv tl so ag ns ss rg hw ax fu si au px pg py) s.heap := hP
  refine lv_aload_n hx hb dX5_paid_0 rfl (lv_at hl 0 rfl) ?_
  refine lv_iload_n hx hb dX5_paid_1 rfl (lv_at hl 1 rfl) ?_
  refine lv_iconst (v := 0) hx hb dX5_paid_2 (by decide) ?_
  refine lv_bipush (v := 7) hx hb dX5_paid_3 (by decide) ?_
  refine z_ri (va_runS (As := [.int x1, .int 0, .int 7]) (rest := [.ref (a 30)]) ⟨hx, hb, hml, hown, hts⟩ (c_X5_in l D cI cJ cZ a s.heap.size x1 0 7) (va_cwS 3 hts gX5_paid_X5_in rfl rfl rfl (by decide +kernel) ⟨Nat.le_of_ble_eq_true rfl, Nat.le_of_ble_eq_true rfl⟩) (z_ps hK zP_0 zD_0 zT_b zT_m) rfl rfl hl.1 rfl (lv_room (Nat.le_of_ble_eq_true rfl)) dX5_paid_5 ⟨Nat.le_of_ble_eq_true rfl, Nat.le_of_ble_eq_true rfl⟩) hP hS hA (fun r_1 _ H locs hr_1 hP hS => ?_)
  subst hr_1
  refine lv_if_eq (tgt := 15) hx hb dX5_paid_8 (by decide) (fun c_2 => ?_) (fun c_2 => ?_)
  · refine lv_iconst (v := 1) hx hb dX5_paid_15 (by decide) ?_
    refine z_ci (pre := ([] : va_W)) (wc := (wMo cI cJ cZ a th td nd n ld sl bd pw dt st uc sv tl so ag ns ss rg hw ax fu si au px pg py)) (suf := ([] : va_W)) (w1 := fun _ => (wMo cI cJ cZ a 1 td nd n ld sl bd pw dt st uc sv tl so ag ns ss rg hw ax fu si au px pg py)) (va_runV (As := [.int 1]) (rest := []) ⟨hx, hb, hml, hown, hts⟩ (c_X5_refused l D cI cJ cZ a H.size th td nd n ld sl bd pw dt st uc sv tl so ag ns ss rg hw ax fu si au px pg py 1) (cwV 1 hts gX5_paid_X5_refused rfl rfl rfl (by decide +kernel) ⟨Nat.le_of_ble_eq_true rfl, Nat.le_of_ble_eq_true rfl⟩) (z_pv hK hP hD (q0 := 0) (ci := 5) rfl rfl zT_b zT_m) rfl rfl hl.1 rfl (lv_room (Nat.le_of_ble_eq_true rfl)) dX5_paid_16 ⟨Nat.le_of_ble_eq_true rfl, Nat.le_of_ble_eq_true rfl⟩) hP hD hS hA (fun _ => rfl) (fun r_3 _ H locs hr_3 hP hD hS => ?_)
    subst hr_3
    refine W.eq (g2 := F0 m 19 ls [.int 1]) rfl ?_
    refine lv_if_eq (tgt := 26) hx hb dX5_paid_19 (by decide) (fun c9 => absurd c9 (by decide)) (fun _ => ?_)
    refine lv_lconst (v := 0) hx hb dX5_paid_22 rfl ?_
    refine lv_goto (tgt := 32) hx hb dX5_paid_23 (by decide) ?_
    have e_wth : nI (E_rng x1 7) = 1 := by exact (congrArg nI (by first | with_reducible rfl | (simp only [E_rng, F_sel, if_pos c_2]; done) | (simp +decide only [E_rng, F_sel, if_pos c_2]; done) | (simp [E_rng, F_sel, c_2]; done) | (simp +decide [E_rng, F_sel, c_2]; done) : E_rng x1 7 = 1)).trans (by decide)
    have hP : va_P D vwCl (wMo cI cJ cZ a (nI (E_rng x1 7)) td nd n ld sl bd pw dt st uc sv tl so ag ns ss rg hw ax fu si au px pg py) H := by rw [e_wth]; exact hP
    exact W.lret (v := 0) hx hb hr (fun t ht hW => ⟨⟨0, (), rfl, (Eq.symm (by rw [show (E_rng x1 7) = 1 from (by first | with_reducible rfl | (simp only [E_rng, F_sel, if_pos c_2]; done) | (simp +decide only [E_rng, F_sel, if_pos c_2]; done) | (simp [E_rng, F_sel, c_2]; done) | (simp +decide [E_rng, F_sel, c_2]; done)), F_sel_1]; first | done | (first | with_reducible rfl | (simp only [E_rng, F_sel, if_pos c_2]; done) | (simp +decide only [E_rng, F_sel, if_pos c_2]; done) | (simp [E_rng, F_sel, c_2]; done) | (simp +decide [E_rng, F_sel, c_2]; done)) : F_sel (E_rng x1 7) (py (ix x1)) 0 = 0)), (z_at ht hP)⟩, hS.F ht⟩) hS.2.2 dX5_paid_32
  · obtain ⟨g_x1, g_x1b⟩ := F_in_nat 8 c_2 (by decide)
    refine lv_iconst (v := 0) hx hb dX5_paid_11 (by decide) ?_
    refine lv_goto (tgt := 16) hx hb dX5_paid_12 (by decide) ?_
    refine z_ci (pre := ([] : va_W)) (wc := (wMo cI cJ cZ a th td nd n ld sl bd pw dt st uc sv tl so ag ns ss rg hw ax fu si au px pg py)) (suf := ([] : va_W)) (w1 := fun _ => (wMo cI cJ cZ a 0 td nd n ld sl bd pw dt st uc sv tl so ag ns ss rg hw ax fu si au px pg py)) (va_runV (As := [.int 0]) (rest := []) ⟨hx, hb, hml, hown, hts⟩ (c_X5_refused l D cI cJ cZ a H.size th td nd n ld sl bd pw dt st uc sv tl so ag ns ss rg hw ax fu si au px pg py 0) (cwV 1 hts gX5_paid_X5_refused rfl rfl rfl (by decide +kernel) ⟨Nat.le_of_ble_eq_true rfl, Nat.le_of_ble_eq_true rfl⟩) (z_pv hK hP hD (q0 := 0) (ci := 5) rfl rfl zT_b zT_m) rfl rfl hl.1 rfl (lv_room (Nat.le_of_ble_eq_true rfl)) dX5_paid_16 ⟨Nat.le_of_ble_eq_true rfl, Nat.le_of_ble_eq_true rfl⟩) hP hD hS hA (fun _ => rfl) (fun r_4 _ H locs hr_4 hP hD hS => ?_)
    subst hr_4
    refine W.eq (g2 := F0 m 19 ls [.int 0]) rfl ?_
    refine lv_if_eq (tgt := 26) hx hb dX5_paid_19 (by decide) (fun _ => ?_) (fun c9 => absurd (by decide) c9)
    refine lv_aload_n hx hb dX5_paid_26 rfl (lv_at hl 0 rfl) ?_
    refine z_get (ci := 5) (C := RX5) (T := TX5) (N := 26) hx hb hts b_X5_paid_wsX50 hown hK hP 0 rfl rfl 25 (by decide) (hts _ k_X5_paid_1) rfl (.ref (a 51)) rfl dX5_paid_27 ?_
    refine lv_iload_n hx hb dX5_paid_30 rfl (lv_at hl 1 rfl) ?_
    refine z_lald hx hb hK hP 21 1 rfl rfl (ix x1) g_x1 (by omega) rfl dX5_paid_31 ?_
    have e_wth : nI (E_rng x1 7) = 0 := by exact (congrArg nI (by first | with_reducible rfl | (simp only [E_rng, F_sel, if_neg c_2]; done) | (simp +decide only [E_rng, F_sel, if_neg c_2]; done) | (simp [E_rng, F_sel, c_2]; done) | (simp +decide [E_rng, F_sel, c_2]; done) : E_rng x1 7 = 0)).trans (by decide)
    have hP : va_P D vwCl (wMo cI cJ cZ a (nI (E_rng x1 7)) td nd n ld sl bd pw dt st uc sv tl so ag ns ss rg hw ax fu si au px pg py) H := by rw [e_wth]; exact hP
    exact W.lret (v := py (ix x1)) hx hb hr (fun t ht hW => ⟨⟨py (ix x1), (), rfl, (Eq.symm (by rw [show (E_rng x1 7) = 0 from (by first | with_reducible rfl | (simp only [E_rng, F_sel, if_neg c_2]; done) | (simp +decide only [E_rng, F_sel, if_neg c_2]; done) | (simp [E_rng, F_sel, c_2]; done) | (simp +decide [E_rng, F_sel, c_2]; done)), F_sel_0]; first | done | (first | with_reducible rfl | (simp only [E_rng, F_sel, if_neg c_2]; done) | (simp +decide only [E_rng, F_sel, if_neg c_2]; done) | (simp [E_rng, F_sel, c_2]; done) | (simp +decide [E_rng, F_sel, c_2]; done)) : F_sel (E_rng x1 7) (py (ix x1)) 0 = py (ix x1))), (z_at ht hP)⟩, hS.F ht⟩) hS.2.2 dX5_paid_32
