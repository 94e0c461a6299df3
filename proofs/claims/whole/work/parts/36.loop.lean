/-! THE CLAIM OUT OF ONE WALK OF THE LAW'S BODY. Your part is whole_start (and what it stands on); all else here is the same for every law, but numbers. -/
def R_law : String := "OrbitregisterLaw"
def lw_P (b : Addr) (xs : List Int32) (args : Array Value) (s : State) : Prop := args = #[.ref b] ∧ s.IntsAt b xs ∧ xs.length ≤ 2560 ∧ (Jvm.Cond.and given_1 narrow_1).before args s = true
def lw_Q (_ : Array Value) (s : State) (o : Outcome) (t : State) : Prop := o = .returned (some (.int 1)) ∧ Framed s o t [] 1109 14852
def lw_Z (below : List Frame) (a : Array Value) (s : State) : State → Prop := fun t => ∃ o, t.status = .running ∧ Ended t below o ∧ lw_Q a s o t
/-- the law's own end, with 1 on the stack, nothing written that was there before, its room as the claim has it -/
theorem lw_ret {p : Program} {l : Launch} {e : Env} {s : State} {m : MethodId} {below : List Frame} {meth : Method} {c : Code} {b : Nat} (hx : p.tables.exec = Jvm.exec) (hb : c.code = code) (hr : meth.sig.returnType = ret) (hlocks : meth.locks = false) {pc : Nat} {H : Heap} {ls : Array Slot} (hdg : decode code pc = .ok (.ireturn, 1)) : W p l e room_1 s m #[Value.ref b] below meth c H [] 1109 14852 (lw_Z below #[Value.ref b] s) (F0 m pc ls [.int 1]) := by
  intro T hT X
  obtain ⟨fs, hret, hrun, hended, hW, hframe⟩ := X.leave (v := some (.int 1)) (hlocks := hlocks) (fun h => by rw [hr] at h; cases h)
  have hmeth' : T.vm.method? m = some meth := X.method'
  refine ⟨T.setFrames fs, ?_, .returned (some (.int 1)), hrun, hended, rfl, ⟨_, rfl⟩, hW, hframe⟩
  jvm_step X.here [X.here.top, hx, hb, hdg, hmeth', hr, ret, narrow_b1]
  (try refine ⟨rfl, ?_⟩); (try refine ⟨rfl, ?_⟩)
  first | (intro acts; rw [hret _ acts rfl rfl rfl]) | rw [hret _ _ rfl rfl rfl]
  exact Steps.refl _
/-- what holds at the law's entry: the machine, the code, the tables' words (any of lw_tbl by 'hts w (by decide +kernel)'), the script of L ints xs at the cell b, what the Statement gives of the start (any of its parts by flat_of_before) -/
def lw_At (p : Program) (s : State) (m : MethodId) (meth : Method) (c : Code) (b L : Nat) (xs : Nat → Int32) : Prop :=
  p.tables.exec = Jvm.exec ∧ c.code = code ∧ meth.sig.returnType = ret ∧ c.maxLocals = 8 ∧ s.vm.findClass R_law = some m.cls ∧ (∀ w ∈ lw_tbl, w.before #[Value.ref b] s = true) ∧ va_X b L xs s s.heap ∧ b < s.heap.size ∧ meth.locks = false ∧ (Jvm.Cond.and given_1 narrow_1).before #[Value.ref b] s = true
/-! the law's loop -/
theorem ZLw.mono {D : va_G} {cI cJ cZ : ClassId} {a : Nat → Nat} {A : Nat → Prop} {k : Nat} {H : Heap} (h : ZLw D cI cJ cZ a A k H) : ZLw D cI cJ cZ a A (k + 1) H := by
  obtain ⟨px, py, td, ld, sl, bd, pw, dt, st, uc, sv, tl, so, lm, n, nd, ss, rg, hw, ax, fu, si, au, ns, jk, jd, js, jt, jn, ef, es, el, ev, et, eo, th, pg, ag, ou, hR, hP, hD⟩ := h
  exact ⟨px, py, td, ld, sl, bd, pw, dt, st, uc, sv, tl, so, lm, n, nd, ss, rg, hw, ax, fu, si, au, ns, jk, jd, js, jt, jn, ef, es, el, ev, et, eo, th, pg, ag, ou, hR.mono, hP, hD⟩
theorem q_slen (L : Nat) (hL : L < 2561) : (Int32.ofNat L - 5).toInt = (L : Int) - 5 := by
  rcases Nat.lt_or_ge L 5 with h | h
  · rcases (show L = 0 ∨ L = 1 ∨ L = 2 ∨ L = 3 ∨ L = 4 by omega) with rfl | rfl | rfl | rfl | rfl <;> decide
  · have e : Int32.ofNat L = nI (L - 5) + nI 5 := by
      rw [nI_add]
      exact congrArg nI (by omega)
    rw [e, show (5 : Int32) = nI 5 from rfl, Int32.add_sub_cancel, nI_toInt (by omega)]
    omega
set_option maxHeartbeats 4000000 in
set_option maxRecDepth 100000 in
/-- one round of the law's loop -/
theorem law_step {p : Program} {l : Launch} {e : Env} {s : State} {m : MethodId} {below : List Frame} {meth : Method} {c : Code} {b L : Nat} {xs : Nat → Int32} {D : va_G} {cI cJ cZ : ClassId} {a : Nat → Nat} {A : Nat → Prop} (hx : p.tables.exec = Jvm.exec) (hb : c.code = code) (hr : meth.sig.returnType = ret) (hml : c.maxLocals = 8) (hown : s.vm.findClass RL = some m.cls) (hts : ∀ w ∈ wsL_law, w.before #[.ref b] s = true) (hX : va_X b L xs s s.heap) (hbl : b < s.heap.size) (hlocks : meth.locks = false) (hbA : ¬ A b) (hA : ∀ q : Nat, s.heap.size ≤ q → A q) (hsA : ∀ q : Nat, A q → s.heap.size ≤ q) (hK : va_K D vwCl (zt cI cJ cZ) s) (hE : ZX A s) (hflg : l.stackTraces = false) (hL : L ≤ 2560)
    (k : Nat) (hk : k ≤ 512) (H : Heap) (locs : List Loc) (ls : Array Slot) (hZ : ZLw D cI cJ cZ a A k H) (hS : va_S A s.heap H locs) (hl : lv_has ls 8 [(0, .ref b), (1, .ref (a 0)), (2, .ref (a 30)), (3, .ref (a 60)), (4, .int (nI (5 * k)))])
    (ih : k < 512 → ∀ (H : Heap) (locs : List Loc) (ls : Array Slot), ZLw D cI cJ cZ a A (k + 1) H → va_S A s.heap H locs → lv_has ls 8 [(0, .ref b), (1, .ref (a 0)), (2, .ref (a 30)), (3, .ref (a 60)), (4, .int (nI (5 * (k + 1))))] → W p l e room_1 s m #[Value.ref b] below meth c H locs (52 + (k + 1)) (6462 + 6 * (k + 1)) (lw_Z below #[Value.ref b] s) (F0 m 23 ls [])) :
    W p l e room_1 s m #[Value.ref b] below meth c H locs (52 + k) (6462 + 6 * k) (lw_Z below #[Value.ref b] s) (F0 m 23 ls []) := by
  refine lv_iload hx hb dL_law_23 (lv_at hl 4 rfl) ?_
  refine lv_aload_n hx hb dL_law_25 rfl (lv_at hl 0 rfl) ?_
  refine va_slen hx hb hX hbl hbA hS dL_law_26 ?_
  refine lv_iconst (v := 5) hx hb dL_law_27 (by decide) ?_
  refine lv_isub hx hb dL_law_28 ?_
  refine lv_icmp_gt (tgt := 1947) hx hb dL_law_29 (by decide) (fun h => ?_) (fun h => ?_)
  · refine lv_iconst (v := 1) hx hb dL_law_1947 (by decide) ?_
    refine va_forget (fun q hq => hsA _ (hS.2.2 q hq)) ?_
    refine W.widen (k := 1109) (n := 14852) (by omega) (by omega) ?_
    exact lw_ret hx hb hr hlocks dL_law_1948
  · have hle : 5 * k + 5 ≤ L := by
      rw [z_lt, q_slen L (by omega), nI_toInt (by omega)] at h
      omega
    have hk5 : k < 512 := by omega
    refine lv_aload_n hx hb dL_law_32 rfl (lv_at hl 0 rfl) ?_
    refine lv_iload hx hb dL_law_33 (lv_at hl 4 rfl) ?_
    refine z_sld hx hb hX hbl hbA hS hL (5 * k) rfl (by omega) dL_law_35 ?_
    refine lv_bipush (v := 31) hx hb dL_law_36 (by decide) ?_
    refine lv_iand hx hb dL_law_38 ?_
    obtain ⟨v, hv, ev⟩ := pk_andE (xs (5 * k)) (m := 31) 5 (by decide)
    rw [ev]
    have kk : ∀ (H : Heap) (locs : List Loc) (ls : Array Slot), ZLw D cI cJ cZ a A (k + 1) H → va_S A s.heap H locs → lv_has ls 8 [(0, .ref b), (1, .ref (a 0)), (2, .ref (a 30)), (3, .ref (a 60)), (4, .int (nI (5 * k)))] → W p l e room_1 s m #[Value.ref b] below meth c H locs (52 + k + 1) (6462 + 6 * k + 6) (lw_Z below #[Value.ref b] s) (F0 m 1941 ls []) := fun H locs ls hZ hS hl => by
      have e5 : nI (5 * k) + Int32.ofInt 5 = nI (5 * (k + 1)) := (z_inc5 (5 * k)).trans (congrArg nI (by omega))
      refine lv_iinc (v := nI (5 * (k + 1))) (lv' := [(4, .int (nI (5 * (k + 1)))), (0, .ref b), (1, .ref (a 0)), (2, .ref (a 30)), (3, .ref (a 60))]) hx hb dL_law_1941 hl (k := 4) rfl e5 (by decide) rfl (fun ls hl => ?_)
      refine lv_goto (tgt := 23) hx hb dL_law_1944 (by decide) ?_
      refine W.widen (k := 52 + (k + 1)) (n := 6462 + 6 * (k + 1)) (by omega) (by omega) ?_
      exact ih hk5 H locs ls hZ hS (lv_sub hl [1, 2, 3, 4, 0] rfl)
    have hc1 : 52 + k + 1 ≤ 1109 := by omega
    have hs1 : 6462 + 6 * k + 6 ≤ 14852 := by omega
    rcases Nat.lt_or_ge v 26 with h26 | h26
    · rcases (show v = 0 ∨ v = 1 ∨ v = 2 ∨ v = 3 ∨ v = 4 ∨ v = 5 ∨ v = 6 ∨ v = 7 ∨ v = 8 ∨ v = 9 ∨ v = 10 ∨ v = 11 ∨ v = 12 ∨ v = 13 ∨ v = 14 ∨ v = 15 ∨ v = 16 ∨ v = 17 ∨ v = 18 ∨ v = 19 ∨ v = 20 ∨ v = 21 ∨ v = 22 ∨ v = 23 ∨ v = 24 ∨ v = 25 by omega) with rfl | rfl | rfl | rfl | rfl | rfl | rfl | rfl | rfl | rfl | rfl | rfl | rfl | rfl | rfl | rfl | rfl | rfl | rfl | rfl | rfl | rfl | rfl | rfl | rfl | rfl
      · refine lv_tableIn (tgt := 156) (off := 117) hx hb dL_law_39 (by decide) (by decide) (by decide +kernel) (by decide) ?_
        exact law_file p l e s m below meth c b L xs D cI cJ cZ a A k H locs (52 + k) (6462 + 6 * k) (lw_Z below #[Value.ref b] s) ls hZ hx hb hml hown hts hX hbl hbA hA hK hE hflg hle hL hk5 hS hl hc1 hs1 kk
      · refine lv_tableIn (tgt := 248) (off := 209) hx hb dL_law_39 (by decide) (by decide) (by decide +kernel) (by decide) ?_
        exact law_agree p l e s m below meth c b L xs D cI cJ cZ a A k H locs (52 + k) (6462 + 6 * k) (lw_Z below #[Value.ref b] s) ls hZ hx hb hml hown hts hX hbl hbA hA hK hE hflg hle hL hk5 hS hl hc1 hs1 kk
      · refine lv_tableIn (tgt := 328) (off := 289) hx hb dL_law_39 (by decide) (by decide) (by decide +kernel) (by decide) ?_
        exact law_inform p l e s m below meth c b L xs D cI cJ cZ a A k H locs (52 + k) (6462 + 6 * k) (lw_Z below #[Value.ref b] s) ls hZ hx hb hml hown hts hX hbl hbA hA hK hE hflg hle hL hk5 hS hl hc1 hs1 kk
      · refine lv_tableIn (tgt := 419) (off := 380) hx hb dL_law_39 (by decide) (by decide) (by decide +kernel) (by decide) ?_
        exact law_change p l e s m below meth c b L xs D cI cJ cZ a A k H locs (52 + k) (6462 + 6 * k) (lw_Z below #[Value.ref b] s) ls hZ hx hb hml hown hts hX hbl hbA hA hK hE hflg hle hL hk5 hS hl hc1 hs1 kk
      · refine lv_tableIn (tgt := 506) (off := 467) hx hb dL_law_39 (by decide) (by decide) (by decide +kernel) (by decide) ?_
        exact law_withdraw p l e s m below meth c b L xs D cI cJ cZ a A k H locs (52 + k) (6462 + 6 * k) (lw_Z below #[Value.ref b] s) ls hZ hx hb hml hown hts hX hbl hbA hA hK hE hflg hle hL hk5 hS hl hc1 hs1 kk
      · refine lv_tableIn (tgt := 562) (off := 523) hx hb dL_law_39 (by decide) (by decide) (by decide +kernel) (by decide) ?_
        exact law_use p l e s m below meth c b L xs D cI cJ cZ a A k H locs (52 + k) (6462 + 6 * k) (lw_Z below #[Value.ref b] s) ls hZ hx hb hml hown hts hX hbl hbA hA hK hE hflg hle hL hk5 hS hl hc1 hs1 kk
      · refine lv_tableIn (tgt := 630) (off := 591) hx hb dL_law_39 (by decide) (by decide) (by decide +kernel) (by decide) ?_
        exact law_complain p l e s m below meth c b L xs D cI cJ cZ a A k H locs (52 + k) (6462 + 6 * k) (lw_Z below #[Value.ref b] s) ls hZ hx hb hml hown hts hX hbl hbA hA hK hE hflg hle hL hk5 hS hl hc1 hs1 kk
      · refine lv_tableIn (tgt := 705) (off := 666) hx hb dL_law_39 (by decide) (by decide) (by decide +kernel) (by decide) ?_
        exact law_launch p l e s m below meth c b L xs D cI cJ cZ a A k H locs (52 + k) (6462 + 6 * k) (lw_Z below #[Value.ref b] s) ls hZ hx hb hml hown hts hX hbl hbA hA hK hE hflg hle hL hk5 hS hl hc1 hs1 kk
      · refine lv_tableIn (tgt := 813) (off := 774) hx hb dL_law_39 (by decide) (by decide) (by decide +kernel) (by decide) ?_
        exact law_register p l e s m below meth c b L xs D cI cJ cZ a A k H locs (52 + k) (6462 + 6 * k) (lw_Z below #[Value.ref b] s) ls hZ hx hb hml hown hts hX hbl hbA hA hK hE hflg hle hL hk5 hS hl hc1 hs1 kk
      · refine lv_tableIn (tgt := 881) (off := 842) hx hb dL_law_39 (by decide) (by decide) (by decide +kernel) (by decide) ?_
        exact law_move p l e s m below meth c b L xs D cI cJ cZ a A k H locs (52 + k) (6462 + 6 * k) (lw_Z below #[Value.ref b] s) ls hZ hx hb hml hown hts hX hbl hbA hA hK hE hflg hle hL hk5 hS hl hc1 hs1 kk
      · refine lv_tableIn (tgt := 949) (off := 910) hx hb dL_law_39 (by decide) (by decide) (by decide +kernel) (by decide) ?_
        exact law_bury p l e s m below meth c b L xs D cI cJ cZ a A k H locs (52 + k) (6462 + 6 * k) (lw_Z below #[Value.ref b] s) ls hZ hx hb hml hown hts hX hbl hbA hA hK hE hflg hle hL hk5 hS hl hc1 hs1 kk
      · refine lv_tableIn (tgt := 1005) (off := 966) hx hb dL_law_39 (by decide) (by decide) (by decide +kernel) (by decide) ?_
        exact law_die p l e s m below meth c b L xs D cI cJ cZ a A k H locs (52 + k) (6462 + 6 * k) (lw_Z below #[Value.ref b] s) ls hZ hx hb hml hown hts hX hbl hbA hA hK hE hflg hle hL hk5 hS hl hc1 hs1 kk
      · refine lv_tableIn (tgt := 1061) (off := 1022) hx hb dL_law_39 (by decide) (by decide) (by decide +kernel) (by decide) ?_
        exact law_near p l e s m below meth c b L xs D cI cJ cZ a A k H locs (52 + k) (6462 + 6 * k) (lw_Z below #[Value.ref b] s) ls hZ hx hb hml hown hts hX hbl hbA hA hK hE hflg hle hL hk5 hS hl hc1 hs1 kk
      · refine lv_tableIn (tgt := 1129) (off := 1090) hx hb dL_law_39 (by decide) (by decide) (by decide +kernel) (by decide) ?_
        exact law_claim p l e s m below meth c b L xs D cI cJ cZ a A k H locs (52 + k) (6462 + 6 * k) (lw_Z below #[Value.ref b] s) ls hZ hx hb hml hown hts hX hbl hbA hA hK hE hflg hle hL hk5 hS hl hc1 hs1 kk
      · refine lv_tableIn (tgt := 1253) (off := 1214) hx hb dL_law_39 (by decide) (by decide) (by decide +kernel) (by decide) ?_
        exact law_pass p l e s m below meth c b L xs D cI cJ cZ a A k H locs (52 + k) (6462 + 6 * k) (lw_Z below #[Value.ref b] s) ls hZ hx hb hml hown hts hX hbl hbA hA hK hE hflg hle hL hk5 hS hl hc1 hs1 kk
      · refine lv_tableIn (tgt := 1309) (off := 1270) hx hb dL_law_39 (by decide) (by decide) (by decide +kernel) (by decide) ?_
        exact law_day p l e s m below meth c b L xs D cI cJ cZ a A k H locs (52 + k) (6462 + 6 * k) (lw_Z below #[Value.ref b] s) ls hZ hx hb hml hown hts hX hbl hbA hA hK hE hflg hle hL hk5 hS hl hc1 hs1 kk
      · refine lv_tableIn (tgt := 1322) (off := 1283) hx hb dL_law_39 (by decide) (by decide) (by decide +kernel) (by decide) ?_
        exact law_filingOf p l e s m below meth c b L xs D cI cJ cZ a A k H locs (52 + k) (6462 + 6 * k) (lw_Z below #[Value.ref b] s) ls hZ hx hb hml hown hts hX hbl hbA hA hK hE hflg hle hL hk5 hS hl hc1 hs1 kk
      · refine lv_tableIn (tgt := 1390) (off := 1351) hx hb dL_law_39 (by decide) (by decide) (by decide +kernel) (by decide) ?_
        exact law_stateAnew p l e s m below meth c b L xs D cI cJ cZ a A k H locs (52 + k) (6462 + 6 * k) (lw_Z below #[Value.ref b] s) ls hZ hx hb hml hown hts hX hbl hbA hA hK hE hflg hle hL hk5 hS hl hc1 hs1 kk
      · refine lv_tableIn (tgt := 1446) (off := 1407) hx hb dL_law_39 (by decide) (by decide) (by decide +kernel) (by decide) ?_
        exact law_harm p l e s m below meth c b L xs D cI cJ cZ a A k H locs (52 + k) (6462 + 6 * k) (lw_Z below #[Value.ref b] s) ls hZ hx hb hml hown hts hX hbl hbA hA hK hE hflg hle hL hk5 hS hl hc1 hs1 kk
      · refine lv_tableIn (tgt := 1514) (off := 1475) hx hb dL_law_39 (by decide) (by decide) (by decide +kernel) (by decide) ?_
        exact law_allowed p l e s m below meth c b L xs D cI cJ cZ a A k H locs (52 + k) (6462 + 6 * k) (lw_Z below #[Value.ref b] s) ls hZ hx hb hml hown hts hX hbl hbA hA hK hE hflg hle hL hk5 hS hl hc1 hs1 kk
      · refine lv_tableIn (tgt := 1582) (off := 1543) hx hb dL_law_39 (by decide) (by decide) (by decide +kernel) (by decide) ?_
        exact law_needs p l e s m below meth c b L xs D cI cJ cZ a A k H locs (52 + k) (6462 + 6 * k) (lw_Z below #[Value.ref b] s) ls hZ hx hb hml hown hts hX hbl hbA hA hK hE hflg hle hL hk5 hS hl hc1 hs1 kk
      · refine lv_tableIn (tgt := 1638) (off := 1599) hx hb dL_law_39 (by decide) (by decide) (by decide +kernel) (by decide) ?_
        exact law_bears p l e s m below meth c b L xs D cI cJ cZ a A k H locs (52 + k) (6462 + 6 * k) (lw_Z below #[Value.ref b] s) ls hZ hx hb hml hown hts hX hbl hbA hA hK hE hflg hle hL hk5 hS hl hc1 hs1 kk
      · refine lv_tableIn (tgt := 1694) (off := 1655) hx hb dL_law_39 (by decide) (by decide) (by decide +kernel) (by decide) ?_
        exact law_first p l e s m below meth c b L xs D cI cJ cZ a A k H locs (52 + k) (6462 + 6 * k) (lw_Z below #[Value.ref b] s) ls hZ hx hb hml hown hts hX hbl hbA hA hK hE hflg hle hL hk5 hS hl hc1 hs1 kk
      · refine lv_tableIn (tgt := 1762) (off := 1723) hx hb dL_law_39 (by decide) (by decide) (by decide +kernel) (by decide) ?_
        exact law_satelliteOf p l e s m below meth c b L xs D cI cJ cZ a A k H locs (52 + k) (6462 + 6 * k) (lw_Z below #[Value.ref b] s) ls hZ hx hb hml hown hts hX hbl hbA hA hK hE hflg hle hL hk5 hS hl hc1 hs1 kk
      · refine lv_tableIn (tgt := 1830) (off := 1791) hx hb dL_law_39 (by decide) (by decide) (by decide +kernel) (by decide) ?_
        exact law_pieces p l e s m below meth c b L xs D cI cJ cZ a A k H locs (52 + k) (6462 + 6 * k) (lw_Z below #[Value.ref b] s) ls hZ hx hb hml hown hts hX hbl hbA hA hK hE hflg hle hL hk5 hS hl hc1 hs1 kk
      · refine lv_tableIn (tgt := 1886) (off := 1847) hx hb dL_law_39 (by decide) (by decide) (by decide +kernel) (by decide) ?_
        exact law_paid p l e s m below meth c b L xs D cI cJ cZ a A k H locs (52 + k) (6462 + 6 * k) (lw_Z below #[Value.ref b] s) ls hZ hx hb hml hown hts hX hbl hbA hA hK hE hflg hle hL hk5 hS hl hc1 hs1 kk
    · refine lv_tableOut (tgt := 1941) hx hb dL_law_39 (.inr (by rw [nI_toInt (by omega)]; omega)) (by decide) ?_
      refine W.widen (k := 52 + k + 1) (n := 6462 + 6 * k + 6) (by omega) (by omega) ?_
      exact kk H locs ls (ZLw.mono hZ) hS hl
/-- the law's loop, from any round -/
theorem law_loop {p : Program} {l : Launch} {e : Env} {s : State} {m : MethodId} {below : List Frame} {meth : Method} {c : Code} {b L : Nat} {xs : Nat → Int32} {D : va_G} {cI cJ cZ : ClassId} {a : Nat → Nat} {A : Nat → Prop} (hx : p.tables.exec = Jvm.exec) (hb : c.code = code) (hr : meth.sig.returnType = ret) (hml : c.maxLocals = 8) (hown : s.vm.findClass RL = some m.cls) (hts : ∀ w ∈ wsL_law, w.before #[.ref b] s = true) (hX : va_X b L xs s s.heap) (hbl : b < s.heap.size) (hlocks : meth.locks = false) (hbA : ¬ A b) (hA : ∀ q : Nat, s.heap.size ≤ q → A q) (hsA : ∀ q : Nat, A q → s.heap.size ≤ q) (hK : va_K D vwCl (zt cI cJ cZ) s) (hE : ZX A s) (hflg : l.stackTraces = false) (hL : L ≤ 2560) :
    ∀ (r k : Nat), k + r = 512 → ∀ (H : Heap) (locs : List Loc) (ls : Array Slot), ZLw D cI cJ cZ a A k H → va_S A s.heap H locs → lv_has ls 8 [(0, .ref b), (1, .ref (a 0)), (2, .ref (a 30)), (3, .ref (a 60)), (4, .int (nI (5 * k)))] → W p l e room_1 s m #[Value.ref b] below meth c H locs (52 + k) (6462 + 6 * k) (lw_Z below #[Value.ref b] s) (F0 m 23 ls [])
  | 0, k, hk, H, locs, ls, hZ, hS, hl => law_step hx hb hr hml hown hts hX hbl hlocks hbA hA hsA hK hE hflg hL k (by omega) H locs ls hZ hS hl (fun q => absurd q (by omega))
  | r + 1, k, hk, H, locs, ls, hZ, hS, hl => law_step hx hb hr hml hown hts hX hbl hlocks hbA hA hsA hK hE hflg hL k (by omega) H locs ls hZ hS hl (fun _ H locs ls hZ hS hl => law_loop hx hb hr hml hown hts hX hbl hlocks hbA hA hsA hK hE hflg hL r (k + 1) (by omega) H locs ls hZ hS hl)
