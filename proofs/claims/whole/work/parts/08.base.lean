/-! My own layer over the kit: preconditions with a world and a premise of the machine; calls with the frame rule for a world that lies in the middle; array rows with indices that are natural numbers. -/
abbrev A32 : Type := Nat → Int32
abbrev A64 : Type := Nat → Int64
abbrev zTy : Type := List (ClassId × FieldType)
def ZP (D : va_G) (tys : zTy) (W : va_W) (sz : Nat) (E : State → Prop) (U : State) : Prop := U.heap.size = sz ∧ va_P D vwCl W U.heap ∧ va_K D vwCl tys U ∧ va_D (fun _ => True) W ∧ E U
def ZB (E : State → Prop) : Prop := ∀ (a : Array Value) (U : State) (g : JFrame) (mk : MethodId), E U → E (U.calling g mk a)
def zT : State → Prop := fun _ => True
theorem zT_b : ZB zT := fun _ _ _ _ _ => trivial
theorem zT_m {s : State} {H : Heap} : ∀ U : State, U.heap = H → s.WarmedH U.vm → zT U := fun _ _ _ => trivial
theorem zP_blind {D : va_G} {tys : zTy} {W : va_W} {sz : Nat} {E : State → Prop} {av : List Value} (hE : ZB E) : FrameBlind (va_Pc av (ZP D tys W sz E)) := fun a U g mk q => ⟨q.1, q.2.1, q.2.2.1, va_K.moved (u := U) (U := U.calling g mk a) (Vm.Alike.refl U.vm) q.2.2.2.1, q.2.2.2.2.1, hE a U g mk q.2.2.2.2.2⟩
theorem zD_congr {A : Nat → Prop} {w1 w2 : va_W} (h : w1.map (·.1) = w2.map (·.1)) (hD : va_D A w1) : va_D A w2 := by
  have key : ∀ (k : Nat) (q : Nat × va_E), w2[k]? = some q → ∃ q0, w1[k]? = some q0 ∧ q0.1 = q.1 := by
    intro k q hk
    have h1 : (w1.map (·.1))[k]? = some q.1 := by rw [h, List.getElem?_map, hk]; rfl
    rw [List.getElem?_map] at h1
    cases hq : w1[k]? with
    | none => rw [hq] at h1; cases h1
    | some q0 => rw [hq] at h1; exact ⟨q0, rfl, Option.some.inj h1⟩
  refine ⟨fun i j x y hi hj hxy => ?_, fun k q hk => ?_⟩
  · obtain ⟨x0, a1, a2⟩ := key i x hi
    obtain ⟨y0, a3, a4⟩ := key j y hj
    exact hD.1 i j x0 y0 a1 a3 (a2.trans (hxy.trans a4.symm))
  · obtain ⟨q0, a1, a2⟩ := key k q hk
    rw [← a2]
    exact hD.2 k q0 a1
theorem zD_mid {A : Nat → Prop} {pre wc suf : va_W} (hD : va_D A (pre ++ (wc ++ suf))) : va_D A wc := by
  have key : ∀ (k : Nat) (q : Nat × va_E), wc[k]? = some q → (pre ++ (wc ++ suf))[pre.length + k]? = some q := by
    intro k q hk
    have hl := (List.getElem?_eq_some_iff.mp hk).1
    rw [List.getElem?_append_right (by omega), Nat.add_sub_cancel_left, List.getElem?_append_left hl]
    exact hk
  refine ⟨fun i j x y hi hj hxy => ?_, fun k q hk => hD.2 _ q (key k q hk)⟩
  have := hD.1 _ _ x y (key i x hi) (key j y hj) hxy
  omega
theorem zP_mid {D : va_G} {cl : List vw_C} {pre wc suf : va_W} {H : Heap} (hP : va_P D cl (pre ++ (wc ++ suf)) H) : va_P D cl wc H := by
  intro k q hk
  have hl := (List.getElem?_eq_some_iff.mp hk).1
  refine hP (pre.length + k) q ?_
  rw [List.getElem?_append_right (by omega), Nat.add_sub_cancel_left, List.getElem?_append_left hl]
  exact hk
theorem z_free {A0 : Nat → Prop} {pre wc suf : va_W} {H0 H : Heap} {locs : List Loc} (hD : va_D A0 (pre ++ (wc ++ suf))) (hS : va_S A0 H0 H locs) (hA : ∀ q, H0.size ≤ q → A0 q) : ∀ q, va_A wc H.size q → A0 q := by
  intro q h
  rcases h with ⟨k, e, h⟩ | h
  · exact (zD_mid hD).2 k (q, e) h
  · exact hA q (Nat.le_trans hS.1 h)
theorem z_put_mid {A0 : Nat → Prop} {D : va_G} {cl : List vw_C} {pre wc suf w1 : va_W} {H H1 : Heap} (hP : va_P D cl (pre ++ (wc ++ suf)) H) (hD : va_D A0 (pre ++ (wc ++ suf))) (hadr : w1.map (·.1) = wc.map (·.1)) (hk : ∀ q : Nat, q < H.size → ¬ va_A wc H.size q → H1[q]? = H[q]?) (hP1 : va_P D cl w1 H1) : va_P D cl (pre ++ (w1 ++ suf)) H1 ∧ va_D A0 (pre ++ (w1 ++ suf)) := by
  have hlen : w1.length = wc.length := by have := congrArg List.length hadr; simpa using this
  refine ⟨?_, zD_congr (w1 := pre ++ (wc ++ suf)) (by simp only [List.map_append, hadr]) hD⟩
  have out : ∀ (k : Nat) (q : Nat × va_E), (k < pre.length ∨ pre.length + wc.length ≤ k) → (pre ++ (wc ++ suf))[k]? = some q → va_at D cl q H1 := by
    intro k q hkk hq
    refine (hP k q hq).kept (hk q.1 (hP k q hq).lt ?_)
    rintro (⟨j, e, hj⟩ | hge)
    · have hl := (List.getElem?_eq_some_iff.mp hj).1
      have h2 : (pre ++ (wc ++ suf))[pre.length + j]? = some (q.1, e) := by
        rw [List.getElem?_append_right (by omega), Nat.add_sub_cancel_left, List.getElem?_append_left hl]
        exact hj
      have := hD.1 _ _ q (q.1, e) hq h2 rfl
      omega
    · have := (hP k q hq).lt
      omega
  intro k q hq
  by_cases h1 : k < pre.length
  · refine out k q (Or.inl h1) ?_
    rw [List.getElem?_append_left h1] at hq ⊢
    exact hq
  · rw [List.getElem?_append_right (by omega)] at hq
    by_cases h2 : k - pre.length < w1.length
    · rw [List.getElem?_append_left h2] at hq
      exact hP1 _ q hq
    · rw [List.getElem?_append_right (by omega), hlen] at hq
      refine out k q (Or.inr (by omega)) ?_
      rw [List.getElem?_append_right (by omega), List.getElem?_append_right (by omega)]
      exact hq
/-- a call that changes nothing that was there -/
theorem zP_keep {D : va_G} {cl : List vw_C} {ws : va_W} {H H1 : Heap} (hP : va_P D cl ws H) (hk : ∀ q : Nat, q < H.size → ¬ va_A [] H.size q → H1[q]? = H[q]?) : va_P D cl ws H1 :=
  hP.kept fun k q hq => hk q.1 (hP k q hq).lt (by
    rintro (⟨j, e, hj⟩ | hge)
    · simp at hj
    · have := (hP k q hq).lt
      omega)
theorem z_free0 {A0 : Nat → Prop} {H0 H : Heap} {locs : List Loc} (hS : va_S A0 H0 H locs) (hA : ∀ q, H0.size ≤ q → A0 q) : ∀ q, va_A [] H.size q → A0 q := by
  rintro q (⟨j, e, hj⟩ | hge)
  · simp at hj
  · exact hA q (Nat.le_trans hS.1 hge)
theorem z_pv {D : va_G} {tys : zTy} {wc : va_W} {H : Heap} {E : State → Prop} {s : State} {b : Addr} {As : List Value} {q0 ci : Nat} {fs : List Value} {q : vw_C} (hK : va_K D vwCl tys s) (hP : va_P D vwCl wc H) {A : Nat → Prop} (hD : va_D A wc) (he : wc[q0]? = some (b, .inr (ci, fs))) (hc : vwCl[ci]? = some q) (hB : ZB E) (hE : ∀ U : State, U.heap = H → s.WarmedH U.vm → E U) : PreV s H q.1 b (va_Pc (.ref b :: As) (ZP D tys wc H.size E)) As :=
  ⟨zP_blind hB, va_recv hK hP hc he, fun U hU hW => ⟨rfl, by rw [hU], by rw [hU]; exact hP, va_K.moved hW.alike hK, hD.weaken (fun _ _ _ _ => trivial), hE U hU hW⟩⟩
theorem z_ps {D : va_G} {tys : zTy} {wc : va_W} {H : Heap} {E : State → Prop} {s : State} {As : List Value} (hK : va_K D vwCl tys s) (hP : va_P D vwCl wc H) {A : Nat → Prop} (hD : va_D A wc) (hB : ZB E) (hE : ∀ U : State, U.heap = H → s.WarmedH U.vm → E U) : PreS s H (va_Pc As (ZP D tys wc H.size E)) As :=
  ⟨zP_blind hB, fun U hU hW => ⟨rfl, by rw [hU], by rw [hU]; exact hP, va_K.moved hW.alike hK, hD.weaken (fun _ _ _ _ => trivial), hE U hU hW⟩⟩
theorem z_pI {D : va_G} {tys : zTy} {wc : va_W} {H : Heap} {E : State → Prop} {s : State} {As : List Value} {b : Nat} (hK : va_K D vwCl tys s) (hP : va_P D vwCl wc H) {A : Nat → Prop} (hD : va_D A wc) (hB : ZB E) (hE : ∀ U : State, U.heap = H → s.WarmedH U.vm → E U) : PreS s H (va_Pc (.ref b :: As) (ZP D tys wc H.size E)) (.ref b :: As) :=
  ⟨zP_blind hB, fun U hU hW => ⟨rfl, by rw [hU], by rw [hU]; exact hP, va_K.moved hW.alike hK, hD.weaken (fun _ _ _ _ => trivial), hE U hU hW⟩⟩
section ZC
variable {p : Program} {l : Launch} {e : Env} {R : Room} {s : State} {m : MethodId} {args : Array Value} {below : List Frame} {meth : Method} {c : Code} {H : Heap} {locs : List Loc} {cells slots : Nat} {Q : State → Prop}
variable {pc : Nat} {ls : Array Slot} {rest st0 : List Value} {a : Array Value} {A0 : Nat → Prop} {H0 : Heap} {mc ms : Nat} {D : va_G}
/-- a call, its answer an int, its world in the middle -/
theorem z_ci {S : Type} {post : Int32 → S → Prop} {pre wc suf : va_W} {w1 : S → va_W} (hr : va_Run p l e R s m args below meth c H locs cells slots mc ms (F0 m pc ls st0) rest (va_Qi post (fun u t => va_P D vwCl (w1 u) t.heap) (va_A wc H.size) a) (va_A wc H.size))
    (hP : va_P D vwCl (pre ++ (wc ++ suf)) H) (hD : va_D A0 (pre ++ (wc ++ suf))) (hS : va_S A0 H0 H locs) (hA : ∀ q, H0.size ≤ q → A0 q) (hadr : ∀ u, (w1 u).map (·.1) = wc.map (·.1))
    (kk : ∀ (r : Int32) (u : S) (H1 : Heap) (locs1 : List Loc), post r u → va_P D vwCl (pre ++ (w1 u ++ suf)) H1 → va_D A0 (pre ++ (w1 u ++ suf)) → va_S A0 H0 H1 locs1 → W p l e R s m args below meth c H1 locs1 (cells + mc) (slots + ms) Q (F0 m (pc + 3) ls (.int r :: rest))) : W p l e R s m args below meth c H locs cells slots Q (F0 m pc ls st0) := by
  have hF := z_free hD hS hA
  refine va_calli hr hS (fun q _ h => hF q h) hF (fun r u t H1 locs1 ht hvm hp hB hz hk hS1 => ?_)
  rw [ht] at hB
  obtain ⟨h1, h2⟩ := z_put_mid hP hD (hadr u) hk hB
  exact kk r u H1 locs1 hp h1 h2 hS1
theorem z_cl {S : Type} {post : Int64 → S → Prop} {pre wc suf : va_W} {w1 : S → va_W} (hr : va_Run p l e R s m args below meth c H locs cells slots mc ms (F0 m pc ls st0) rest (va_Ql post (fun u t => va_P D vwCl (w1 u) t.heap) (va_A wc H.size) a) (va_A wc H.size))
    (hP : va_P D vwCl (pre ++ (wc ++ suf)) H) (hD : va_D A0 (pre ++ (wc ++ suf))) (hS : va_S A0 H0 H locs) (hA : ∀ q, H0.size ≤ q → A0 q) (hadr : ∀ u, (w1 u).map (·.1) = wc.map (·.1))
    (kk : ∀ (r : Int64) (u : S) (H1 : Heap) (locs1 : List Loc), post r u → va_P D vwCl (pre ++ (w1 u ++ suf)) H1 → va_D A0 (pre ++ (w1 u ++ suf)) → va_S A0 H0 H1 locs1 → W p l e R s m args below meth c H1 locs1 (cells + mc) (slots + ms) Q (F0 m (pc + 3) ls (.long r :: rest))) : W p l e R s m args below meth c H locs cells slots Q (F0 m pc ls st0) := by
  have hF := z_free hD hS hA
  refine va_calll hr hS (fun q _ h => hF q h) hF (fun r u t H1 locs1 ht hvm hp hB hz hk hS1 => ?_)
  rw [ht] at hB
  obtain ⟨h1, h2⟩ := z_put_mid hP hD (hadr u) hk hB
  exact kk r u H1 locs1 hp h1 h2 hS1
theorem z_cv {S : Type} {post : S → Prop} {pre wc suf : va_W} {w1 : S → va_W} (hr : va_Run p l e R s m args below meth c H locs cells slots mc ms (F0 m pc ls st0) rest (va_Qv post (fun u t => va_P D vwCl (w1 u) t.heap) (va_A wc H.size) a) (va_A wc H.size))
    (hP : va_P D vwCl (pre ++ (wc ++ suf)) H) (hD : va_D A0 (pre ++ (wc ++ suf))) (hS : va_S A0 H0 H locs) (hA : ∀ q, H0.size ≤ q → A0 q) (hadr : ∀ u, (w1 u).map (·.1) = wc.map (·.1))
    (kk : ∀ (u : S) (H1 : Heap) (locs1 : List Loc), post u → va_P D vwCl (pre ++ (w1 u ++ suf)) H1 → va_D A0 (pre ++ (w1 u ++ suf)) → va_S A0 H0 H1 locs1 → W p l e R s m args below meth c H1 locs1 (cells + mc) (slots + ms) Q (F0 m (pc + 3) ls rest)) : W p l e R s m args below meth c H locs cells slots Q (F0 m pc ls st0) := by
  have hF := z_free hD hS hA
  refine va_callv hr hS (fun q _ h => hF q h) hF (fun u t H1 locs1 ht hvm hp hB hz hk hS1 => ?_)
  rw [ht] at hB
  obtain ⟨h1, h2⟩ := z_put_mid hP hD (hadr u) hk hB
  exact kk u H1 locs1 hp h1 h2 hS1
/-- a call that only reads -/
theorem z_ri {S : Type} {post : Int32 → S → Prop} {B : S → State → Prop} {ws : va_W} (hr : va_Run p l e R s m args below meth c H locs cells slots mc ms (F0 m pc ls st0) rest (va_Qi post B (va_A [] H.size) a) (va_A [] H.size))
    (hP : va_P D vwCl ws H) (hS : va_S A0 H0 H locs) (hA : ∀ q, H0.size ≤ q → A0 q)
    (kk : ∀ (r : Int32) (u : S) (H1 : Heap) (locs1 : List Loc), post r u → va_P D vwCl ws H1 → va_S A0 H0 H1 locs1 → W p l e R s m args below meth c H1 locs1 (cells + mc) (slots + ms) Q (F0 m (pc + 3) ls (.int r :: rest))) : W p l e R s m args below meth c H locs cells slots Q (F0 m pc ls st0) := by
  have hF := z_free0 hS hA
  exact va_calli hr hS (fun q _ h => hF q h) hF (fun r u t H1 locs1 ht hvm hp hB hz hk hS1 => kk r u H1 locs1 hp (zP_keep hP hk) hS1)
theorem z_rl {S : Type} {post : Int64 → S → Prop} {B : S → State → Prop} {ws : va_W} (hr : va_Run p l e R s m args below meth c H locs cells slots mc ms (F0 m pc ls st0) rest (va_Ql post B (va_A [] H.size) a) (va_A [] H.size))
    (hP : va_P D vwCl ws H) (hS : va_S A0 H0 H locs) (hA : ∀ q, H0.size ≤ q → A0 q)
    (kk : ∀ (r : Int64) (u : S) (H1 : Heap) (locs1 : List Loc), post r u → va_P D vwCl ws H1 → va_S A0 H0 H1 locs1 → W p l e R s m args below meth c H1 locs1 (cells + mc) (slots + ms) Q (F0 m (pc + 3) ls (.long r :: rest))) : W p l e R s m args below meth c H locs cells slots Q (F0 m pc ls st0) := by
  have hF := z_free0 hS hA
  exact va_calll hr hS (fun q _ h => hF q h) hF (fun r u t H1 locs1 ht hvm hp hB hz hk hS1 => kk r u H1 locs1 hp (zP_keep hP hk) hS1)
end ZC
section ZA
variable {p : Program} {l : Launch} {e : Env} {R : Room} {s : State} {m : MethodId} {args : Array Value} {below : List Frame} {meth : Method} {c : Code} {H : Heap} {locs : List Loc} {cells slots : Nat} {Q : State → Prop}
variable {cc : ByteArray} {pc : Nat} {ls : Array Slot} {rest : List Value} {D : va_G} {A : Nat → Prop} {a : Nat} {tys : zTy} {ws : va_W} {H0 : Heap}
theorem z_iald (hexec : p.tables.exec = Jvm.exec) (hb : c.code = cc) (hK : va_K D vwCl tys s) (hP : va_P D vwCl ws H) (q0 t0 : Nat) {cA : ClassId} {n : Nat} {f : A32} (ha : ws[q0]? = some (a, .inl (cA, n, .inl f))) (ht : tys[t0]? = some (cA, .int)) {i : Int32} (j : Nat) (hi : i = nI j) (hj : j < n) (hn : Nat.ble n 2147483647 = true) (hdg : decode cc pc = .ok (.iaload, 1))
    (kk : W p l e R s m args below meth c H locs cells slots Q (F0 m (pc + 1) ls (.int (f j) :: rest))) : W p l e R s m args below meth c H locs cells slots Q (F0 m pc ls (.int i :: .ref a :: rest)) := by
  have h2 : n < 2 ^ 31 := Nat.lt_succ_of_le (Nat.le_of_ble_eq_true hn)
  subst hi
  refine va_iald hexec hb hK hP q0 t0 ha ht (vp_in_nI hj h2) hdg ?_
  rw [nI_clamp (Nat.lt_trans hj h2)]
  exact kk
theorem z_zald (hexec : p.tables.exec = Jvm.exec) (hb : c.code = cc) (hK : va_K D vwCl tys s) (hP : va_P D vwCl ws H) (q0 t0 : Nat) {cA : ClassId} {n : Nat} {f : A32} (ha : ws[q0]? = some (a, .inl (cA, n, .inl f))) (ht : tys[t0]? = some (cA, .boolean)) {i : Int32} (j : Nat) (hi : i = nI j) (hj : j < n) (hn : Nat.ble n 2147483647 = true) (hdg : decode cc pc = .ok (.baload, 1))
    (kk : W p l e R s m args below meth c H locs cells slots Q (F0 m (pc + 1) ls (.int (f j) :: rest))) : W p l e R s m args below meth c H locs cells slots Q (F0 m pc ls (.int i :: .ref a :: rest)) := by
  have h2 : n < 2 ^ 31 := Nat.lt_succ_of_le (Nat.le_of_ble_eq_true hn)
  subst hi
  refine va_zald hexec hb hK hP q0 t0 ha ht (vp_in_nI hj h2) hdg ?_
  rw [nI_clamp (Nat.lt_trans hj h2)]
  exact kk
theorem z_lald (hexec : p.tables.exec = Jvm.exec) (hb : c.code = cc) (hK : va_K D vwCl tys s) (hP : va_P D vwCl ws H) (q0 t0 : Nat) {cA : ClassId} {n : Nat} {f : A64} (ha : ws[q0]? = some (a, .inl (cA, n, .inr (.inl f)))) (ht : tys[t0]? = some (cA, .long)) {i : Int32} (j : Nat) (hi : i = nI j) (hj : j < n) (hn : Nat.ble n 2147483647 = true) (hdg : decode cc pc = .ok (.laload, 1))
    (kk : W p l e R s m args below meth c H locs cells slots Q (F0 m (pc + 1) ls (.long (f j) :: rest))) : W p l e R s m args below meth c H locs cells slots Q (F0 m pc ls (.int i :: .ref a :: rest)) := by
  have h2 : n < 2 ^ 31 := Nat.lt_succ_of_le (Nat.le_of_ble_eq_true hn)
  subst hi
  refine va_lald hexec hb hK hP q0 t0 ha ht (vp_in_nI hj h2) hdg ?_
  rw [nI_clamp (Nat.lt_trans hj h2)]
  exact kk
theorem z_iast (hexec : p.tables.exec = Jvm.exec) (hb : c.code = cc) (hK : va_K D vwCl tys s) (hP : va_P D vwCl ws H) (hD : va_D A ws) (hS : va_S A H0 H locs) (q0 t0 : Nat) {cA : ClassId} {n : Nat} {f : A32} (ha : ws[q0]? = some (a, .inl (cA, n, .inl f))) (ht : tys[t0]? = some (cA, .int)) {i x : Int32} (j : Nat) (hi : i = nI j) (hj : j < n) (hn : Nat.ble n 2147483647 = true) (hdg : decode cc pc = .ok (.iastore, 1)) (W' : va_W) (hW : ws.set q0 (a, .inl (cA, n, .inl (upd f j x))) = W')
    (kk : ∀ (H1 : Heap) (locs1 : List Loc), va_P D vwCl W' H1 → va_D A W' → va_S A H0 H1 locs1 → W p l e R s m args below meth c H1 locs1 cells slots Q (F0 m (pc + 1) ls rest)) : W p l e R s m args below meth c H locs cells slots Q (F0 m pc ls (.int x :: .int i :: .ref a :: rest)) := by
  have h2 : n < 2 ^ 31 := Nat.lt_succ_of_le (Nat.le_of_ble_eq_true hn)
  subst hi
  subst hW
  refine va_iast hexec hb hK hP hD hS q0 t0 ha ht (vp_in_nI hj h2) hdg ?_
  rw [nI_clamp (Nat.lt_trans hj h2)]
  exact kk
theorem z_zast (hexec : p.tables.exec = Jvm.exec) (hb : c.code = cc) (hK : va_K D vwCl tys s) (hP : va_P D vwCl ws H) (hD : va_D A ws) (hS : va_S A H0 H locs) (q0 t0 : Nat) {cA : ClassId} {n : Nat} {f : A32} (ha : ws[q0]? = some (a, .inl (cA, n, .inl f))) (ht : tys[t0]? = some (cA, .boolean)) {i x : Int32} (j : Nat) (hi : i = nI j) (hj : j < n) (hn : Nat.ble n 2147483647 = true) (hx : vp_nar .boolean x = x) (hdg : decode cc pc = .ok (.bastore, 1)) (W' : va_W) (hW : ws.set q0 (a, .inl (cA, n, .inl (upd f j x))) = W')
    (kk : ∀ (H1 : Heap) (locs1 : List Loc), va_P D vwCl W' H1 → va_D A W' → va_S A H0 H1 locs1 → W p l e R s m args below meth c H1 locs1 cells slots Q (F0 m (pc + 1) ls rest)) : W p l e R s m args below meth c H locs cells slots Q (F0 m pc ls (.int x :: .int i :: .ref a :: rest)) := by
  have h2 : n < 2 ^ 31 := Nat.lt_succ_of_le (Nat.le_of_ble_eq_true hn)
  subst hi
  subst hW
  refine va_zast hexec hb hK hP hD hS q0 t0 ha ht (vp_in_nI hj h2) hdg ?_
  rw [nI_clamp (Nat.lt_trans hj h2), hx]
  exact kk
theorem z_last (hexec : p.tables.exec = Jvm.exec) (hb : c.code = cc) (hK : va_K D vwCl tys s) (hP : va_P D vwCl ws H) (hD : va_D A ws) (hS : va_S A H0 H locs) (q0 t0 : Nat) {cA : ClassId} {n : Nat} {f : A64} (ha : ws[q0]? = some (a, .inl (cA, n, .inr (.inl f)))) (ht : tys[t0]? = some (cA, .long)) {i : Int32} {x : Int64} (j : Nat) (hi : i = nI j) (hj : j < n) (hn : Nat.ble n 2147483647 = true) (hdg : decode cc pc = .ok (.lastore, 1)) (W' : va_W) (hW : ws.set q0 (a, .inl (cA, n, .inr (.inl (vp_updL f j x)))) = W')
    (kk : ∀ (H1 : Heap) (locs1 : List Loc), va_P D vwCl W' H1 → va_D A W' → va_S A H0 H1 locs1 → W p l e R s m args below meth c H1 locs1 cells slots Q (F0 m (pc + 1) ls rest)) : W p l e R s m args below meth c H locs cells slots Q (F0 m pc ls (.long x :: .int i :: .ref a :: rest)) := by
  have h2 : n < 2 ^ 31 := Nat.lt_succ_of_le (Nat.le_of_ble_eq_true hn)
  subst hi
  subst hW
  refine va_last hexec hb hK hP hD hS q0 t0 ha ht (vp_in_nI hj h2) hdg ?_
  rw [nI_clamp (Nat.lt_trans hj h2)]
  exact kk
theorem z_put (hexec : p.tables.exec = Jvm.exec) (hb : c.code = cc) {own ref C : String} {T : u_T} {N ci index : Nat} {Ts : List Cond} (hts : ∀ w ∈ Ts, w.before args s = true) (hin : ∀ w ∈ u_ws C T N, w ∈ Ts) (ty0 : Nat → FieldType) (hty : ∀ k, k < N → parseFieldDescriptor (T k).2.2.1 = some (ty0 k)) (hnm : ∀ a, a < N → ∀ b, b < N → a ≠ b → (T a).2.1 ≠ (T b).2.1) (hown : s.vm.findClass own = some m.cls) (hK : va_K D vwCl tys s) (hP : va_P D vwCl ws H) (hD : va_D A ws) (hS0 : va_S A H0 H locs) (q0 : Nat) {fs : List Value} (he : ws[q0]? = some (a, .inr (ci, fs))) (hc : vwCl[ci]? = some (C, T, N)) (k : Nat) (hk : k < N) (hlink : (Cond.fieldLink own index ref (T k).2.1 (T k).2.2.1).before args s = true) (href : (T k).1 = ref) (hfin : (T k).2.2.2 = false) {x : Int32} (hd : parseFieldDescriptor (T k).2.2.1 = some .int) (hl : k < fs.length) (hdg : decode cc pc = .ok (.putfield index, 3)) (W' : va_W) (hW : ws.set q0 (a, .inr (ci, fs.set k (.int x))) = W')
    (kk : ∀ (H1 : Heap) (locs1 : List Loc), va_P D vwCl W' H1 → va_D A W' → va_S A H0 H1 locs1 → W p l e R s m args below meth c H1 locs1 cells slots Q (F0 m (pc + 3) ls rest)) : W p l e R s m args below meth c H locs cells slots Q (F0 m pc ls (.int x :: .ref a :: rest)) := by
  subst hW
  subst href
  exact va_put hexec hb hts hin ty0 hty hnm hown hK hP hD hS0 q0 he hc k hk hlink (fun _ h9 => h9) hfin hd rfl rfl hl hdg kk
theorem z_get (hexec : p.tables.exec = Jvm.exec) (hb : c.code = cc) {own ref C : String} {T : u_T} {N ci index : Nat} {Ts : List Cond} (hts : ∀ w ∈ Ts, w.before args s = true) (hin : ∀ w ∈ u_ws C T N, w ∈ Ts) (hown : s.vm.findClass own = some m.cls) (hK : va_K D vwCl tys s) (hP : va_P D vwCl ws H) (q0 : Nat) {fs : List Value} (he : ws[q0]? = some (a, .inr (ci, fs))) (hc : vwCl[ci]? = some (C, T, N)) (k : Nat) (hk : k < N) (hlink : (Cond.fieldLink own index ref (T k).2.1 (T k).2.2.1).before args s = true) (href : (T k).1 = ref) (v : Value) (hv : fs[k]? = some v) (hdg : decode cc pc = .ok (.getfield index, 3))
    (kk : W p l e R s m args below meth c H locs cells slots Q (F0 m (pc + 3) ls (v :: rest))) : W p l e R s m args below meth c H locs cells slots Q (F0 m pc ls (.ref a :: rest)) := by
  subst href
  exact va_get hexec hb hts hin hown hK hP q0 he hc k hk hlink (fun _ h9 => h9) hv hdg kk
end ZA
/-! numbers -/
theorem z_inc1 (i : Nat) : nI i + Int32.ofInt 1 = nI (i + 1) := by rw [show (Int32.ofInt 1) = 1 from by decide]; exact nI_1 i
theorem z_inc5 (i : Nat) : nI i + Int32.ofInt 5 = nI (i + 5) := by rw [show (Int32.ofInt 5) = nI 5 from by decide]; exact nI_add i 5
theorem z_iadd {x y : Int32} {a b : Nat} (hx : x = nI a) (hy : y = nI b) : x + y = nI (a + b) := by rw [hx, hy]; exact nI_add a b
theorem z_imul {x y : Int32} {a b : Nat} (hx : x = nI a) (hy : y = nI b) : x * y = nI (a * b) := by rw [hx, hy]; exact pk_mul a b
theorem z_leN {x y : Int32} {a b : Nat} (h : x ≤ y) (hx : x = nI a) (hy : y = nI b) (ha : a < 2147483648) (hb : b < 2147483648) : a ≤ b := by subst hx; subst hy; exact (nI_leI ha hb).mp h
theorem z_nleN {x y : Int32} {a b : Nat} (h : ¬ x ≤ y) (hx : x = nI a) (hy : y = nI b) (ha : a < 2147483648) (hb : b < 2147483648) : b < a := by subst hx; subst hy; exact Nat.not_le.mp (fun q => h ((nI_leI ha hb).mpr q))
theorem z_ltN {x y : Int32} {a b : Nat} (h : x < y) (hx : x = nI a) (hy : y = nI b) (ha : a < 2147483648) (hb : b < 2147483648) : a < b := by subst hx; subst hy; exact (nI_ltI ha hb).mp h
theorem z_nltN {x y : Int32} {a b : Nat} (h : ¬ x < y) (hx : x = nI a) (hy : y = nI b) (ha : a < 2147483648) (hb : b < 2147483648) : b ≤ a := by subst hx; subst hy; exact Nat.not_lt.mp (fun q => h ((nI_ltI ha hb).mpr q))
theorem z_eqN {x y : Int32} {a b : Nat} (h : x = y) (hx : x = nI a) (hy : y = nI b) (ha : a < 2147483648) (hb : b < 2147483648) : a = b := by subst hx; subst hy; exact (nI_eq ha hb).mp h
theorem z_neN {x y : Int32} {a b : Nat} (h : ¬ x = y) (hx : x = nI a) (hy : y = nI b) (ha : a < 2147483648) (hb : b < 2147483648) : ¬ a = b := by subst hx; subst hy; exact fun q => h ((nI_eq ha hb).mpr q)
theorem zP_0 {D : va_G} {cl : List vw_C} {H : Heap} : va_P D cl [] H := fun k q h => by simp at h
theorem zD_0 : va_D (fun _ => True) [] := ⟨fun i j p q h => by simp at h, fun k q h => by simp at h⟩
section ZL
variable {p : Program} {l : Launch} {e : Env} {R : Room} {s : State} {m : MethodId} {args : Array Value} {below : List Frame} {meth : Method} {c : Code} {cells slots : Nat} {Q : State → Prop}
theorem z_loop {D : va_G} {A : Nat → Prop} {H0 : Heap} {pc nL : Nat} {H : Heap} {locs : List Loc} {ls : Array Slot} (N : Nat) (Wf : Nat → va_W) (lvf : Nat → List (Nat × Value)) (Inv : Nat → Prop) (i0 : Nat) (h0 : i0 ≤ N) (hinv : Inv i0) (hP : va_P D vwCl (Wf i0) H) (hS : va_S A H0 H locs) (hl : lv_has ls nL (lvf i0))
    (step : ∀ (i : Nat), i ≤ N → Inv i → ∀ (H : Heap) (locs : List Loc) (ls : Array Slot), va_P D vwCl (Wf i) H → va_S A H0 H locs → lv_has ls nL (lvf i) →
      (∀ (H' : Heap) (locs' : List Loc) (ls' : Array Slot), i < N → Inv (i + 1) → va_P D vwCl (Wf (i + 1)) H' → va_S A H0 H' locs' → lv_has ls' nL (lvf (i + 1)) → W p l e R s m args below meth c H' locs' cells slots Q (F0 m pc ls' [])) →
      W p l e R s m args below meth c H locs cells slots Q (F0 m pc ls [])) : W p l e R s m args below meth c H locs cells slots Q (F0 m pc ls []) := by
  have key : ∀ (k i : Nat), i ≤ N → N < i + k → Inv i → ∀ (H : Heap) (locs : List Loc) (ls : Array Slot), va_P D vwCl (Wf i) H → va_S A H0 H locs → lv_has ls nL (lvf i) → W p l e R s m args below meth c H locs cells slots Q (F0 m pc ls []) := by
    intro k
    induction k with
    | zero => intro i h1 h2; exact absurd h2 (by omega)
    | succ k ih =>
      intro i hi hk hv H locs ls hP hS hl
      exact step i hi hv H locs ls hP hS hl (fun H' locs' ls' h1 h2 h3 h4 h5 => ih (i + 1) (by omega) (by omega) h2 H' locs' ls' h3 h4 h5)
  exact key (N + 1) i0 h0 (by omega) hinv H locs ls hP hS hl
end ZL
theorem z_at {D : va_G} {cl : List vw_C} {ws : va_W} {H : Heap} {t : State} (ht : t.heap = H) (hP : va_P D cl ws H) : va_P D cl ws t.heap := by rw [ht]; exact hP
