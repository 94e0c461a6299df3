/-! the start -/
theorem ZI_b : ZB ZI := fun a U g mk h => ⟨⟨va_Nw.same rfl (u := U) rfl h.1.1, va_Nw.same rfl (u := U) rfl h.1.2⟩, va_Nw.same rfl (u := U) rfl h.2.1, va_Nw.same rfl (u := U) rfl h.2.2⟩
theorem ZI_m {s : State} {H : Heap} (h : ZI s) : ∀ U : State, U.heap = H → s.WarmedH U.vm → ZI U := fun U _ hW => ⟨⟨va_Nw.warmM hW h.1.1, va_Nw.warmM hW h.1.2⟩, va_Nw.warmM hW h.2.1, va_Nw.warmM hW h.2.2⟩
set_option maxRecDepth 20000 in
theorem zw_inst : ∀ w ∈ ([.instantiable RX0 6, .instantiable RX1 13, .instantiable RX2 5, .instantiable RX3 8, .instantiable RX4 7, .instantiable RX5 26] : List Cond), w ∈ lw_tbl := by decide +kernel
set_option maxRecDepth 20000 in
theorem zw_arr : ∀ w ∈ ([.arrayClass .int, .arrayClass .long, .arrayClass .boolean] : List Cond), w ∈ lw_tbl := by decide +kernel
set_option maxRecDepth 20000 in
theorem zw_new : ∀ w ∈ ([.classLink RL 8 RX4, .classLink RL 101 RX5, .initialized RX4, .initialized RX5] : List Cond), w ∈ lw_tbl := by decide +kernel
set_option maxRecDepth 20000 in
theorem zw_call : ∀ w ∈ ([.methodLink RL 100 yX4_init, .methodLink RL 103 yX5_init, .instanceMethod yX4_init, .instanceMethod yX5_init] : List Cond), w ∈ lw_tbl := by decide +kernel
set_option maxRecDepth 20000 in
theorem zw_nest : ∀ w ∈ ([.methodLinkNest RX0 53 yX4_isLapseDue RX4, .methodLinkNest RX1 99 yX4_isLapseDue RX4, .methodLinkNest RX4 9 yX1_init RX4, .methodLinkNest RX4 18 yX3_init RX4, .methodLinkNest RX4 25 yX2_init RX4, .methodLinkNest RX4 32 yX0_init RX4] : List Cond), w ∈ lw_tbl := by decide +kernel
set_option maxRecDepth 20000 in
theorem zw_cast : ∀ w ∈ ([.castable zI zI, .castable zA zA, .castable zS zS] : List Cond), w ∈ lw_tbl := by decide +kernel
set_option maxRecDepth 20000 in
theorem zw_decl : ∀ w ∈ ([.declares (Bundle.initS "java/lang/RuntimeException"), .declares (Bundle.initS "java/lang/Exception"), .declares (Bundle.initS Bundle.tN)] : List Cond), w ∈ lw_tbl := by decide +kernel
set_option maxRecDepth 20000 in
theorem zw_stat : ∀ w ∈ ([.laysStatic Bundle.tN "UNASSIGNED_STACK" Bundle.steD, .laysStatic Bundle.tN "SUPPRESSED_SENTINEL" Bundle.listD, .initialized Bundle.tN] : List Cond), w ∈ lw_tbl := by decide +kernel
set_option maxRecDepth 20000 in
theorem zw_str : ∀ q ∈ zStr, Cond.stringRef RX4 q.1 q.2 ∈ lw_tbl := by decide +kernel
set_option maxRecDepth 20000 in
theorem zn_str : ∀ q ∈ zStr, Cond.exactly (.string RX4 q.1) "java/lang/String" ∈ flatC (Jvm.Cond.and given_1 narrow_1) := by decide +kernel
set_option maxRecDepth 20000 in
theorem zn_not : ∀ w ∈ ([.not (.castable zI zA), .not (.castable zI zS), .not (.castable zA zI), .not (.castable zA zS), .not (.castable zS zI), .not (.castable zS zA), .isRef (.static Bundle.tN "UNASSIGNED_STACK" Bundle.steD), .isRef (.static Bundle.tN "SUPPRESSED_SENTINEL" Bundle.listD)] : List Cond), w ∈ flatC (Jvm.Cond.and given_1 narrow_1) := by decide +kernel
theorem z_ZX {s : State} {args : Array Value} {A : Nat → Prop} (zw : ∀ w ∈ lw_tbl, w.before args s = true) (zn : ∀ w ∈ flatC (Jvm.Cond.and given_1 narrow_1), w.before args s = true) (hA : ∀ q : Nat, q < s.heap.size → ¬ A q) : ZX A s := by
  refine ⟨⟨va_Nw.of rfl (zw _ (zw_nest _ (List.mem_of_getElem? (i := 0) rfl))), va_Nw.of rfl (zw _ (zw_nest _ (List.mem_of_getElem? (i := 1) rfl)))⟩, ⟨fun q hq => ?_, ⟨va_Nw.of rfl (zw _ (zw_cast _ (List.mem_of_getElem? (i := 0) rfl))), va_Nw.of rfl (zw _ (zw_cast _ (List.mem_of_getElem? (i := 1) rfl))), va_Nw.of rfl (zw _ (zw_cast _ (List.mem_of_getElem? (i := 2) rfl)))⟩, ⟨va_Nc.of (zn _ (zn_not _ (List.mem_of_getElem? (i := 0) rfl))), va_Nc.of (zn _ (zn_not _ (List.mem_of_getElem? (i := 1) rfl))), va_Nc.of (zn _ (zn_not _ (List.mem_of_getElem? (i := 2) rfl))), va_Nc.of (zn _ (zn_not _ (List.mem_of_getElem? (i := 3) rfl))), va_Nc.of (zn _ (zn_not _ (List.mem_of_getElem? (i := 4) rfl))), va_Nc.of (zn _ (zn_not _ (List.mem_of_getElem? (i := 5) rfl)))⟩, va_Nw.of rfl (zw _ (zw_decl _ (List.mem_of_getElem? (i := 0) rfl))), va_Nw.of rfl (zw _ (zw_decl _ (List.mem_of_getElem? (i := 1) rfl))), va_Nw.of rfl (zw _ (zw_decl _ (List.mem_of_getElem? (i := 2) rfl)))⟩, vx_Zqof (zw _ (zw_stat _ (List.mem_of_getElem? (i := 0) rfl))) (zw _ (zw_stat _ (List.mem_of_getElem? (i := 2) rfl))) (zn _ (zn_not _ (List.mem_of_getElem? (i := 6) rfl))) hA, vx_Zqof (zw _ (zw_stat _ (List.mem_of_getElem? (i := 1) rfl))) (zw _ (zw_stat _ (List.mem_of_getElem? (i := 2) rfl))) (zn _ (zn_not _ (List.mem_of_getElem? (i := 7) rfl))) hA⟩
  obtain ⟨a, c, cell, k, q1, q2, q3, q4, q5, q6, -⟩ := Cond.exactly_spec (args := args) (first := s) (o := none) (s := s) (idx := []) (t := .string RX4 q.1) (cls := "java/lang/String") (zn _ (zn_str q hq))
  exact ⟨a, vk_R.of (zw _ (zw_str q hq)) q1⟩
theorem z_ZI {s : State} {args : Array Value} (zw : ∀ w ∈ lw_tbl, w.before args s = true) : ZI s := ⟨⟨va_Nw.of rfl (zw _ (zw_nest _ (List.mem_of_getElem? (i := 2) rfl))), va_Nw.of rfl (zw _ (zw_nest _ (List.mem_of_getElem? (i := 3) rfl)))⟩, va_Nw.of rfl (zw _ (zw_nest _ (List.mem_of_getElem? (i := 4) rfl))), va_Nw.of rfl (zw _ (zw_nest _ (List.mem_of_getElem? (i := 5) rfl)))⟩
theorem zw_X00 : ∀ w ∈ wsX00, w ∈ wsL_law := fun w h => (gL_law_X4_init w (b_X4_init_wsX00 w h)).1
theorem zw_X10 : ∀ w ∈ wsX10, w ∈ wsL_law := fun w h => (gL_law_X4_init w (b_X4_init_wsX10 w h)).1
theorem zw_X20 : ∀ w ∈ wsX20, w ∈ wsL_law := fun w h => (gL_law_X4_init w (b_X4_init_wsX20 w h)).1
theorem zw_X30 : ∀ w ∈ wsX30, w ∈ wsL_law := fun w h => (gL_law_X4_init w (b_X4_init_wsX30 w h)).1
theorem zw_X40 : ∀ w ∈ wsX40, w ∈ wsL_law := fun w h => (gL_law_X4_init w (b_X4_init_wsX40 w h)).1
theorem zw_X50 : ∀ w ∈ wsX50, w ∈ wsL_law := fun w h => (gL_law_X5_init w (b_X5_init_wsX50 w h)).1
theorem z_K {s : State} {args : Array Value} (zw : ∀ w ∈ lw_tbl, w.before args s = true) (hts : ∀ w ∈ wsL_law, w.before args s = true) : ∃ (D : va_G) (cI cJ cZ : ClassId), va_K D vwCl (zt cI cJ cZ) s := by
  obtain ⟨c0, i0, k0⟩ := u_known (C := RX0) (T := TX0) (N := 6) (n := 6) hts zw_X00 (zw _ (zw_inst _ (List.mem_of_getElem? (i := 0) rfl)))
  obtain ⟨c1, i1, k1⟩ := u_known (C := RX1) (T := TX1) (N := 13) (n := 13) hts zw_X10 (zw _ (zw_inst _ (List.mem_of_getElem? (i := 1) rfl)))
  obtain ⟨c2, i2, k2⟩ := u_known (C := RX2) (T := TX2) (N := 5) (n := 5) hts zw_X20 (zw _ (zw_inst _ (List.mem_of_getElem? (i := 2) rfl)))
  obtain ⟨c3, i3, k3⟩ := u_known (C := RX3) (T := TX3) (N := 8) (n := 8) hts zw_X30 (zw _ (zw_inst _ (List.mem_of_getElem? (i := 3) rfl)))
  obtain ⟨c4, i4, k4⟩ := u_known (C := RX4) (T := TX4) (N := 7) (n := 7) hts zw_X40 (zw _ (zw_inst _ (List.mem_of_getElem? (i := 4) rfl)))
  obtain ⟨c5, i5, k5⟩ := u_known (C := RX5) (T := TX5) (N := 26) (n := 26) hts zw_X50 (zw _ (zw_inst _ (List.mem_of_getElem? (i := 5) rfl)))
  obtain ⟨cI, aI, rI⟩ := z_arrI (zw _ (zw_arr _ (List.mem_of_getElem? (i := 0) rfl)))
  obtain ⟨cJ, aJ, rJ⟩ := z_arrJ (zw _ (zw_arr _ (List.mem_of_getElem? (i := 1) rfl)))
  obtain ⟨cZ, aZ, rZ⟩ := z_arrZ (zw _ (zw_arr _ (List.mem_of_getElem? (i := 2) rfl)))
  refine ⟨(fun k => if k = 0 then c0 else if k = 1 then c1 else if k = 2 then c2 else if k = 3 then c3 else if k = 4 then c4 else c5, fun k => if k = 0 then i0 else if k = 1 then i1 else if k = 2 then i2 else if k = 3 then i3 else if k = 4 then i4 else i5), cI, cJ, cZ, ?_, ?_⟩
  · intro k q hq
    match k, hq with
    | 0, hq => cases hq; exact k0
    | 1, hq => cases hq; exact k1
    | 2, hq => cases hq; exact k2
    | 3, hq => cases hq; exact k3
    | 4, hq => cases hq; exact k4
    | 5, hq => cases hq; exact k5
    | k + 6, hq => simp [vwCl] at hq
  · intro k q hq
    match k, hq with
    | 0, hq => cases hq; exact ⟨aI, rI⟩
    | 1, hq => cases hq; exact ⟨aJ, rJ⟩
    | 2, hq => cases hq; exact ⟨aZ, rZ⟩
    | k + 3, hq => simp [zt] at hq
theorem q_fill : ∀ m j, j < m → G_fill m j = -1
  | 0, j, h => absurd h (Nat.not_lt_zero j)
  | m + 1, j, h => by
    rw [G_fill]
    by_cases e : j = m
    · rw [e, upd_same]
    · rw [upd_other _ _ e]; exact q_fill m j (by omega)
theorem ZR_0 : ZR 0 0 z0 z0 z0 z0 z0 z0 0 z0 z0 z0 0 z0 z0 z0 z0 0 (G_fill 1600) := by
  have n0 : ∀ i : Nat, ¬ i < 0 := Nat.not_lt_zero
  refine ⟨0, rfl, by decide, Nat.le_refl 0, ⟨by decide, fun _ _ => rfl, fun i h => absurd h (n0 i), fun i h => absurd h (n0 i), fun _ => ⟨0, Nat.le_refl 0, rfl⟩, fun i h => absurd h (n0 i)⟩, ⟨fun i _ h => absurd h (n0 i), fun i _ h => absurd h (n0 i), fun i j hi hj _ => q_fill 1600 (40 * i + j) (by omega)⟩, ⟨by decide, fun _ _ => rfl, fun i h => absurd h (n0 i), fun i h => absurd h (n0 i)⟩, fun i h => absurd h (n0 i), fun i h => absurd h (n0 i), fun i h => absurd h (n0 i)⟩
set_option maxHeartbeats 4000000 in
set_option maxRecDepth 100000 in
/-- THE LAW, from its entry -/
theorem whole_start {p : Program} {e : Env} {s : State} {m : MethodId} {below : List Frame} {meth : Method} {c : Code} (l : Launch) (hflags : l.flags = flags0) {b L : Nat} {xs : Nat → Int32} (hL : L ≤ 2560) (C0 : lw_At p s m meth c b L xs) : W p l e room_1 s m #[Value.ref b] below meth c s.heap [] 0 0 (lw_Z below #[Value.ref b] s) (entryFrame m ([Value.ref b] : List Value).toArray 8) := by
  obtain ⟨hx, hb, hr, hml, hown0, zw, hX, hbl, hlocks, hgv⟩ := C0
  have hown : s.vm.findClass RL = some m.cls := hown0
  have hts : ∀ w ∈ wsL_law, w.before #[Value.ref b] s = true := fun w h => zw w (wsL_law_in w h)
  have zn : ∀ w ∈ flatC (Jvm.Cond.and given_1 narrow_1), w.before #[Value.ref b] s = true := flat_of_before _ hgv
  have hflg : l.stackTraces = false := by unfold Launch.stackTraces; rw [hflags]; decide
  obtain ⟨A, hAe⟩ : ∃ A : Nat → Prop, A = fun q : Nat => s.heap.size ≤ q := ⟨_, rfl⟩
  have hA : ∀ q : Nat, s.heap.size ≤ q → A q := fun q h => by rw [hAe]; exact h
  have hsA : ∀ q : Nat, A q → s.heap.size ≤ q := fun q h => by rw [hAe] at h; exact h
  have hbA : ¬ A b := fun h => absurd (hsA b h) (Nat.not_le.mpr hbl)
  have hE : ZX A s := z_ZX zw zn (fun q h w => absurd (hsA q w) (Nat.not_le.mpr h))
  have hI : ZI s := z_ZI zw
  obtain ⟨D, cI, cJ, cZ, hK⟩ := z_K zw hts
  have hS : va_S A s.heap s.heap [] := va_S.rf
  have hP : va_P D vwCl [] s.heap := zP_0
  have hD : va_D A [] := ⟨fun i j p q h => by simp at h, fun k q h => by simp at h⟩
  have hl := lv_entry ([.ref b]) (n := 8) (Nat.le_of_ble_eq_true rfl)
  rw [lg_entry_eq]
  generalize (lg_sl ([.ref b]) ++ List.replicate (8 - (lg_sl ([.ref b])).length) Slot.unset).toArray = ls at hl ⊢
  have hl : lv_has ls 8 [(0, .ref b)] := hl
  refine va_new (ci := 4) (fs := [.null, .null, .null, .null, .null, .null, .int 0]) (C := RX4) (T := TX4) (N := 7) hx hb hts zw_X40 tyX4 tyX4_ok hown (zw _ (zw_new _ (List.mem_of_getElem? (i := 0) rfl))) (zw _ (zw_inst _ (List.mem_of_getElem? (i := 4) rfl))) (zw _ (zw_new _ (List.mem_of_getElem? (i := 2) rfl))) hK hP hD hS hA rfl (fun j hj => by rcases (show j = 0 ∨ j = 1 ∨ j = 2 ∨ j = 3 ∨ j = 4 ∨ j = 5 ∨ j = 6 by omega) with rfl | rfl | rfl | rfl | rfl | rfl | rfl <;> rfl) (Nat.le_of_ble_eq_true rfl) (Nat.le_of_ble_eq_true rfl) dL_law_0 (fun q0 H hP hD hS => ?_)
  have hP : va_P D vwCl [(q0, .inr (4, [.null, .null, .null, .null, .null, .null, .int 0]))] H := hP
  have hD : va_D A [(q0, .inr (4, [.null, .null, .null, .null, .null, .null, .int 0]))] := hD
  refine lv_dup hx hb dL_law_3 rfl ?_
  have hFc := va_free (wc := [(q0, .inr (4, [.null, .null, .null, .null, .null, .null, .int 0]))]) hD hS hA [0] rfl
  refine va_callv (va_runI (As := []) (rest := [.ref q0]) ⟨hx, hb, hml, hown, hts⟩ (c_X4_init l D cI cJ cZ q0 H.size) (cwI 0 hts gL_law_X4_init rfl rfl rfl (zw _ (zw_new _ (List.mem_of_getElem? (i := 2) rfl))) (zw _ (zw_call _ (List.mem_of_getElem? (i := 0) rfl))) (zw _ (zw_call _ (List.mem_of_getElem? (i := 2) rfl))) rfl (by decide +kernel) ⟨(Nat.le_of_ble_eq_true rfl), (Nat.le_of_ble_eq_true rfl)⟩) (z_pI hK hP hD ZI_b (ZI_m hI)) rfl rfl hl.1 rfl (lv_room (Nat.le_of_ble_eq_true rfl)) dL_law_4 ⟨(Nat.le_of_ble_eq_true rfl), (Nat.le_of_ble_eq_true rfl)⟩) hS (fun q _ h => hFc q h) hFc (fun u1 t H1 locs ht hvm hw hB hz1 hk1 hS => ?_)
  obtain ⟨hP1, hD1⟩ := hB
  rw [ht] at hP1
  have hw1 : u1 0 = q0 := hw
  obtain ⟨hP, hD⟩ := va_join (wr := []) (w1 := (wAll cI cJ cZ u1 z0 z0L 0 z0 z0 z0 z0 z0 z0 z0 z0 z0 z0 z0 0 0 z0 z0 z0 z0 z0 z0 z0 0 z0 z0 z0 z0 0 0 0 0 0 0 0)) hP hD [0] [] rfl rfl (by decide) (by decide) hk1 hFc hP1 hD1
  generalize H1 = H at hP hS ⊢
  have hP : va_P D vwCl (wAll cI cJ cZ u1 z0 z0L 0 z0 z0 z0 z0 z0 z0 z0 z0 z0 z0 z0 0 0 z0 z0 z0 z0 z0 z0 z0 0 z0 z0 z0 z0 0 0 0 0 0 0 0) H := hP
  have hD : va_D A (wAll cI cJ cZ u1 z0 z0L 0 z0 z0 z0 z0 z0 z0 z0 z0 z0 z0 z0 0 0 z0 z0 z0 z0 z0 z0 z0 0 z0 z0 z0 z0 0 0 0 0 0 0 0) := hD
  refine lv_astore_n (lv' := [(1, .ref q0), (0, .ref b)]) hx hb dL_law_7 rfl hl (by decide) rfl (fun ls hl => ?_)
  refine va_new (ci := 5) (fs := [.int 0, .int 0, .int 0, .int 0, .null, .null, .null, .null, .null, .null, .null, .null, .null, .null, .null, .int 0, .null, .null, .null, .null, .null, .null, .null, .null, .null, .null]) (C := RX5) (T := TX5) (N := 26) hx hb hts zw_X50 tyX5 tyX5_ok hown (zw _ (zw_new _ (List.mem_of_getElem? (i := 1) rfl))) (zw _ (zw_inst _ (List.mem_of_getElem? (i := 5) rfl))) (zw _ (zw_new _ (List.mem_of_getElem? (i := 3) rfl))) hK hP hD hS hA rfl (fun j hj => by rcases (show j = 0 ∨ j = 1 ∨ j = 2 ∨ j = 3 ∨ j = 4 ∨ j = 5 ∨ j = 6 ∨ j = 7 ∨ j = 8 ∨ j = 9 ∨ j = 10 ∨ j = 11 ∨ j = 12 ∨ j = 13 ∨ j = 14 ∨ j = 15 ∨ j = 16 ∨ j = 17 ∨ j = 18 ∨ j = 19 ∨ j = 20 ∨ j = 21 ∨ j = 22 ∨ j = 23 ∨ j = 24 ∨ j = 25 by omega) with rfl | rfl | rfl | rfl | rfl | rfl | rfl | rfl | rfl | rfl | rfl | rfl | rfl | rfl | rfl | rfl | rfl | rfl | rfl | rfl | rfl | rfl | rfl | rfl | rfl | rfl <;> rfl) (Nat.le_of_ble_eq_true rfl) (Nat.le_of_ble_eq_true rfl) dL_law_8 (fun q8 H hP hD hS => ?_)
  have hP : va_P D vwCl ((wAll cI cJ cZ u1 z0 z0L 0 z0 z0 z0 z0 z0 z0 z0 z0 z0 z0 z0 0 0 z0 z0 z0 z0 z0 z0 z0 0 z0 z0 z0 z0 0 0 0 0 0 0 0) ++ [(q8, .inr (5, [.int 0, .int 0, .int 0, .int 0, .null, .null, .null, .null, .null, .null, .null, .null, .null, .null, .null, .int 0, .null, .null, .null, .null, .null, .null, .null, .null, .null, .null]))]) H := hP
  have hD : va_D A ((wAll cI cJ cZ u1 z0 z0L 0 z0 z0 z0 z0 z0 z0 z0 z0 z0 z0 z0 0 0 z0 z0 z0 z0 z0 z0 z0 0 z0 z0 z0 z0 0 0 0 0 0 0 0) ++ [(q8, .inr (5, [.int 0, .int 0, .int 0, .int 0, .null, .null, .null, .null, .null, .null, .null, .null, .null, .null, .null, .int 0, .null, .null, .null, .null, .null, .null, .null, .null, .null, .null]))]) := hD
  refine lv_dup hx hb dL_law_11 rfl ?_
  have hPc := hP.sub (ws' := [(q8, .inr (5, [.int 0, .int 0, .int 0, .int 0, .null, .null, .null, .null, .null, .null, .null, .null, .null, .null, .null, .int 0, .null, .null, .null, .null, .null, .null, .null, .null, .null, .null]))]) [29] rfl
  have hDc := hD.sub (ws' := [(q8, .inr (5, [.int 0, .int 0, .int 0, .int 0, .null, .null, .null, .null, .null, .null, .null, .null, .null, .null, .null, .int 0, .null, .null, .null, .null, .null, .null, .null, .null, .null, .null]))]) [29] (by decide) rfl
  have hFc := va_free (wc := [(q8, .inr (5, [.int 0, .int 0, .int 0, .int 0, .null, .null, .null, .null, .null, .null, .null, .null, .null, .null, .null, .int 0, .null, .null, .null, .null, .null, .null, .null, .null, .null, .null]))]) hD hS hA [29] rfl
  refine va_callv (va_runI (As := []) (rest := [.ref q8]) ⟨hx, hb, hml, hown, hts⟩ (c_X5_init l D cI cJ cZ q8 H.size) (cwI 0 hts gL_law_X5_init rfl rfl rfl (zw _ (zw_new _ (List.mem_of_getElem? (i := 3) rfl))) (zw _ (zw_call _ (List.mem_of_getElem? (i := 1) rfl))) (zw _ (zw_call _ (List.mem_of_getElem? (i := 3) rfl))) rfl (by decide +kernel) ⟨(Nat.le_of_ble_eq_true rfl), (Nat.le_of_ble_eq_true rfl)⟩) (z_pI hK hPc hDc zT_b zT_m) rfl rfl hl.1 rfl (lv_room (Nat.le_of_ble_eq_true rfl)) dL_law_12 ⟨(Nat.le_of_ble_eq_true rfl), (Nat.le_of_ble_eq_true rfl)⟩) hS (fun q _ h => hFc q h) hFc (fun u2 t H1 locs ht hvm hw hB hz1 hk1 hS => ?_)
  obtain ⟨hP1, hD1⟩ := hB
  rw [ht] at hP1
  have hw2 : u2 30 = q8 := hw
  obtain ⟨hP, hD⟩ := va_join (wr := (wAll cI cJ cZ u1 z0 z0L 0 z0 z0 z0 z0 z0 z0 z0 z0 z0 z0 z0 0 0 z0 z0 z0 z0 z0 z0 z0 0 z0 z0 z0 z0 0 0 0 0 0 0 0)) (w1 := (wMo cI cJ cZ u2 0 0 0 0 z0 z0 z0 z0 z0 z0 z0 z0 z0 z0 (G_fill 1600) 0 z0 z0 z0 z0 z0 z0 z0 z0 z0 z0L)) hP hD [29] [0, 1, 2, 3, 4, 5, 6, 7, 8, 9, 10, 11, 12, 13, 14, 15, 16, 17, 18, 19, 20, 21, 22, 23, 24, 25, 26, 27, 28] rfl rfl (by decide) (by decide) hk1 hFc hP1 hD1
  generalize H1 = H at hP hS ⊢
  have hP : va_P D vwCl ((wAll cI cJ cZ u1 z0 z0L 0 z0 z0 z0 z0 z0 z0 z0 z0 z0 z0 z0 0 0 z0 z0 z0 z0 z0 z0 z0 0 z0 z0 z0 z0 0 0 0 0 0 0 0) ++ (wMo cI cJ cZ u2 0 0 0 0 z0 z0 z0 z0 z0 z0 z0 z0 z0 z0 (G_fill 1600) 0 z0 z0 z0 z0 z0 z0 z0 z0 z0 z0L)) H := hP
  have hD : va_D A ((wAll cI cJ cZ u1 z0 z0L 0 z0 z0 z0 z0 z0 z0 z0 z0 z0 z0 z0 0 0 z0 z0 z0 z0 z0 z0 z0 0 z0 z0 z0 z0 0 0 0 0 0 0 0) ++ (wMo cI cJ cZ u2 0 0 0 0 z0 z0 z0 z0 z0 z0 z0 z0 z0 z0 (G_fill 1600) 0 z0 z0 z0 z0 z0 z0 z0 z0 z0 z0L)) := hD
  refine lv_astore_n (lv' := [(2, .ref q8), (1, .ref q0), (0, .ref b)]) hx hb dL_law_15 rfl hl (by decide) rfl (fun ls hl => ?_)
  refine lv_iconst (v := 1) hx hb dL_law_16 (by decide) ?_
  refine z_newa (atype := .long) (ty := .long) hx hb (zw _ (zw_arr _ (List.mem_of_getElem? (i := 1) rfl))) rfl (fun _ h => va_nm_long h) hK 1 rfl hP hD hS hA (N' := 1) (a0 := (1, .inr (.inl z0L))) (fun _ => rfl) (by decide) (by decide) (Nat.le_of_ble_eq_true rfl) (Nat.le_of_ble_eq_true rfl) (Nat.le_of_ble_eq_true rfl) dL_law_17 (fun q17 H9 hP hD hS => ?_)
  have hP : va_P D vwCl (((wAll cI cJ cZ u1 z0 z0L 0 z0 z0 z0 z0 z0 z0 z0 z0 z0 z0 z0 0 0 z0 z0 z0 z0 z0 z0 z0 0 z0 z0 z0 z0 0 0 0 0 0 0 0) ++ (wMo cI cJ cZ u2 0 0 0 0 z0 z0 z0 z0 z0 z0 z0 z0 z0 z0 (G_fill 1600) 0 z0 z0 z0 z0 z0 z0 z0 z0 z0 z0L)) ++ [(q17, .inl (cJ, 1, .inr (.inl z0L)))]) H9 := hP
  have hD : va_D A (((wAll cI cJ cZ u1 z0 z0L 0 z0 z0 z0 z0 z0 z0 z0 z0 z0 z0 z0 0 0 z0 z0 z0 z0 z0 z0 z0 0 z0 z0 z0 z0 0 0 0 0 0 0 0) ++ (wMo cI cJ cZ u2 0 0 0 0 z0 z0 z0 z0 z0 z0 z0 z0 z0 z0 (G_fill 1600) 0 z0 z0 z0 z0 z0 z0 z0 z0 z0 z0L)) ++ [(q17, .inl (cJ, 1, .inr (.inl z0L)))]) := hD
  refine lv_astore_n (lv' := [(3, .ref q17), (2, .ref q8), (1, .ref q0), (0, .ref b)]) hx hb dL_law_19 rfl hl (by decide) rfl (fun ls hl => ?_)
  refine lv_iconst (v := 0) hx hb dL_law_20 (by decide) ?_
  refine lv_istore (lv' := [(4, .int 0), (3, .ref q17), (2, .ref q8), (1, .ref q0), (0, .ref b)]) hx hb dL_law_21 hl (by decide) rfl (fun ls hl => ?_)
  have hPf := hP; have hDf := hD; have hlf := hl; have hSf := hS
  subst hw1; subst hw2
  obtain ⟨a, ha⟩ : ∃ a : Nat → Nat, a = (fun k => if k < 29 then u1 k else if k < 52 then u2 k else q17) := ⟨_, rfl⟩
  have hP9 : va_P D vwCl ((((wOr cI cJ cZ a z0 z0L 0) ++ ((wFi cI cJ cZ a z0 z0 z0 z0 z0 z0 z0 z0 z0 z0 z0 0 0) ++ ((wSa cI cJ cZ a z0 z0 z0 z0 z0 z0 z0 0) ++ ((wJo cI cJ cZ a z0 z0 z0 z0 0) ++ ((wEx cI cJ cZ a 0 0 0 0 0 0) ++ (wOu cI cJ cZ a z0L)))))) ++ (wMo cI cJ cZ a 0 0 0 0 z0 z0 z0 z0 z0 z0 z0 z0 z0 z0 (G_fill 1600) 0 z0 z0 z0 z0 z0 z0 z0 z0 z0 z0L))) H9 := by subst ha; exact hPf.sub ([0, 1, 2, 3, 4, 5, 6, 7, 8, 9, 10, 11, 12, 13, 14, 15, 16, 17, 18, 19, 20, 21, 22, 23, 24, 25, 26, 27, 28] ++ ([51] ++ [29, 30, 31, 32, 33, 34, 35, 36, 37, 38, 39, 40, 41, 42, 43, 44, 45, 46, 47, 48, 49, 50])) rfl
  have hD9 : va_D A ((((wOr cI cJ cZ a z0 z0L 0) ++ ((wFi cI cJ cZ a z0 z0 z0 z0 z0 z0 z0 z0 z0 z0 z0 0 0) ++ ((wSa cI cJ cZ a z0 z0 z0 z0 z0 z0 z0 0) ++ ((wJo cI cJ cZ a z0 z0 z0 z0 0) ++ ((wEx cI cJ cZ a 0 0 0 0 0 0) ++ (wOu cI cJ cZ a z0L)))))) ++ (wMo cI cJ cZ a 0 0 0 0 z0 z0 z0 z0 z0 z0 z0 z0 z0 z0 (G_fill 1600) 0 z0 z0 z0 z0 z0 z0 z0 z0 z0 z0L))) := by subst ha; exact hDf.sub ([0, 1, 2, 3, 4, 5, 6, 7, 8, 9, 10, 11, 12, 13, 14, 15, 16, 17, 18, 19, 20, 21, 22, 23, 24, 25, 26, 27, 28] ++ ([51] ++ [29, 30, 31, 32, 33, 34, 35, 36, 37, 38, 39, 40, 41, 42, 43, 44, 45, 46, 47, 48, 49, 50])) (by decide) rfl
  have e0 : a 0 = u1 0 := by subst ha; rfl
  have e30 : a 30 = u2 30 := by subst ha; rfl
  have e60 : a 60 = q17 := by subst ha; rfl
  have hZ : ZLw D cI cJ cZ a A 0 H9 := ⟨z0, z0L, 0, z0, z0, z0, z0, z0, z0, z0, z0, z0, z0, z0, 0, 0, z0, z0, z0, z0, z0, z0, z0, 0, z0, z0, z0, z0, 0, 0, 0, 0, 0, 0, 0, 0, z0, G_fill 1600, z0L, ZR_0, hP9, hD9⟩
  have hl9 : lv_has ls 8 [(0, .ref b), (1, .ref (a 0)), (2, .ref (a 30)), (3, .ref (a 60)), (4, .int (nI (5 * 0)))] := by rw [e0, e30, e60]; exact lv_sub hlf [4, 3, 2, 1, 0] rfl
  refine W.widen (k := 52 + 0) (n := 6462 + 6 * 0) (by decide) (by decide) ?_
  exact law_loop hx hb hr hml hown hts hX hbl hlocks hbA hA hsA hK hE hflg hL 512 0 rfl H9 _ ls hZ hSf hl9
