set_option maxHeartbeats 8000000 in
set_option maxRecDepth 100000 in
theorem law_claim (p : Program) (l : Launch) (e : Env) (s : State) (m : MethodId) (below : List Frame) (meth : Method) (c : Code) (b L : Nat) (xs : Nat → Int32) (D : va_G) (cI cJ cZ : ClassId) (a : Nat → Nat) (A : Nat → Prop) (kR : Nat) (H : Heap) (locs : List Loc) (cells slots : Nat) (Q : State → Prop) (ls : Array Slot) (hZ : ZLw D cI cJ cZ a A kR H) : ZGo p l e s m below meth c b L xs D cI cJ cZ a A kR H locs cells slots Q ls 1129 := by
  intro hx hb hml hown hts hX hbl hbA hA hK hE hflg hkL hL hk hS hl hcr hsr kk
  obtain ⟨px, py, td, ld, sl, bd, pw, dt, st, uc, sv, tl, so, lm, n, nd, ss, rg, hw, ax, fu, si, au, ns, jk, jd, js, jt, jn, ef, es, el, ev, et, eo, th, pg, ag, ou, hR, hP, hD⟩ := hZ
  obtain ⟨t, ht, ht5, hjk, hF9, hL9, hS9, hJ9⟩ := id hR
  have hn : n ≤ 40 := hF9.1
  have hs : ns ≤ 16 := hS9.1
  have hj : jn < 512 := Nat.lt_of_le_of_lt hjk hk
  have hax := R_hax hS9
  have hmy := R_hmy hS9
  have hkk := hJ9.1
  refine lv_aload_n hx hb dL_law_1129 rfl (lv_at hl 1 rfl) ?_
  refine lv_aload_n hx hb dL_law_1130 rfl (lv_at hl 0 rfl) ?_
  refine lv_iload hx hb dL_law_1131 (lv_at hl 4 rfl) ?_
  refine lv_iconst (v := 1) hx hb dL_law_1133 (by decide) ?_
  refine lv_iadd hx hb dL_law_1134 ?_
  refine z_sld hx hb hX hbl hbA hS hL ((5 * kR) + 1) (z_iadd rfl (by decide)) (by omega) dL_law_1135 ?_
  refine lv_aload_n hx hb dL_law_1136 rfl (lv_at hl 0 rfl) ?_
  refine lv_iload hx hb dL_law_1137 (lv_at hl 4 rfl) ?_
  refine lv_iconst (v := 2) hx hb dL_law_1139 (by decide) ?_
  refine lv_iadd hx hb dL_law_1140 ?_
  refine z_sld hx hb hX hbl hbA hS hL ((5 * kR) + 2) (z_iadd rfl (by decide)) (by omega) dL_law_1141 ?_
  refine lv_aload_n hx hb dL_law_1142 rfl (lv_at hl 0 rfl) ?_
  refine lv_iload hx hb dL_law_1143 (lv_at hl 4 rfl) ?_
  refine lv_iconst (v := 3) hx hb dL_law_1145 (by decide) ?_
  refine lv_iadd hx hb dL_law_1146 ?_
  refine z_sld hx hb hX hbl hbA hS hL ((5 * kR) + 3) (z_iadd rfl (by decide)) (by omega) dL_law_1147 ?_
  refine lv_if_eq (tgt := 1155) hx hb dL_law_1148 (by decide) (fun c_1 => ?_) (fun c_1 => ?_)
  · refine lv_iconst (v := 0) hx hb dL_law_1155 (by decide) ?_
    refine lv_aload_n hx hb dL_law_1156 rfl (lv_at hl 0 rfl) ?_
    refine lv_iload hx hb dL_law_1157 (lv_at hl 4 rfl) ?_
    refine lv_iconst (v := 4) hx hb dL_law_1159 (by decide) ?_
    refine lv_iadd hx hb dL_law_1160 ?_
    refine z_sld hx hb hX hbl hbA hS hL ((5 * kR) + 4) (z_iadd rfl (by decide)) (by omega) dL_law_1161 ?_
    refine lv_if_eq (tgt := 1169) hx hb dL_law_1162 (by decide) (fun c_2 => ?_) (fun c_2 => ?_)
    · refine lv_iconst (v := 0) hx hb dL_law_1169 (by decide) ?_
      refine lv_aload_n hx hb dL_law_1170 rfl (lv_at hl 3 rfl) ?_
      by_cases hE0 : E_claim (xs ((5 * kR) + 1)) (xs ((5 * kR) + 2)) ns = 0
      · refine z_ciL (suf := (wMo cI cJ cZ a th td nd n ld sl bd pw dt st uc sv tl so ag ns ss rg hw ax fu si au px pg py)) (wc := ((wOr cI cJ cZ a px py td) ++ ((wFi cI cJ cZ a ld sl bd pw dt st uc sv tl so lm n nd) ++ ((wSa cI cJ cZ a ss rg hw ax fu si au ns) ++ ((wJo cI cJ cZ a jk jd js jt jn) ++ ((wEx cI cJ cZ a ef es el ev et eo) ++ (wOu cI cJ cZ a ou))))))) (w1 := ((wOr cI cJ cZ a px (F_sel (E_claim (xs ((5 * kR) + 1)) (xs ((5 * kR) + 2)) ns) (F_if6 (F_claims (ss (ix (xs ((5 * kR) + 1)))) 0 0) py (F_pay (ss (ix (xs ((5 * kR) + 1)))) (F_share (ss (ix (xs ((5 * kR) + 1)))) (xs ((5 * kR) + 2))) py 8)) py) td) ++ ((wFi cI cJ cZ a ld sl bd pw dt st uc sv tl so lm n nd) ++ ((wSa cI cJ cZ a ss rg hw ax fu si au ns) ++ ((wJo cI cJ cZ a jk jd js jt jn) ++ ((wEx cI cJ cZ a ef es el ev et eo) ++ (wOu cI cJ cZ a (F_sel (E_claim (xs ((5 * kR) + 1)) (xs ((5 * kR) + 2)) ns) (vp_updL ou 0 ((F_ifI (F_claims (ss (ix (xs ((5 * kR) + 1)))) 0 0) 0 ((F_share (ss (ix (xs ((5 * kR) + 1)))) (xs ((5 * kR) + 2))) * F_bit (ss (ix (xs ((5 * kR) + 1)))))).toInt64)) ou)))))))) (vx_runSW (As := [.ref (a 0), .int (xs ((5 * kR) + 1)), .int (xs ((5 * kR) + 2)), .int 0, .int 0, .ref (a 60)]) (rest := []) ⟨hx, hb, hml, hown, hts⟩ (c_L_claim l hflg D cI cJ cZ a H.size px py td ld sl bd pw dt st uc sv tl so lm n nd ss rg hw ax fu si au ns jk jd js jt jn ef es el ev et eo ou (xs ((5 * kR) + 1)) (xs ((5 * kR) + 2)) 0 0 hs) (vx_cwSW 6 hts gL_law_L_claim rfl rfl rfl (by decide +kernel) ⟨Nat.le_of_ble_eq_true rfl, Nat.le_of_ble_eq_true rfl⟩) (z_ps hK (zP_L hP) (zD_L hD) ZX_b (ZX_m hE hS (zF_L hD hS hA))) rfl rfl hl.1 rfl (lv_room (Nat.le_of_ble_eq_true rfl)) dL_law_1171 ⟨hcr, hsr⟩) hP hD hS hA (adrC.trans adrC.symm) (fun r_ H locs hr_ hP hS => ?_)
        have hP : va_P D vwCl (((wOr cI cJ cZ a px (F_if6 (F_claims (ss (ix (xs ((5 * kR) + 1)))) 0 0) py (F_pay (ss (ix (xs ((5 * kR) + 1)))) (F_share (ss (ix (xs ((5 * kR) + 1)))) (xs ((5 * kR) + 2))) py 8)) td) ++ ((wFi cI cJ cZ a ld sl bd pw dt st uc sv tl so lm n nd) ++ ((wSa cI cJ cZ a ss rg hw ax fu si au ns) ++ ((wJo cI cJ cZ a jk jd js jt jn) ++ ((wEx cI cJ cZ a ef es el ev et eo) ++ (wOu cI cJ cZ a (vp_updL ou 0 ((F_ifI (F_claims (ss (ix (xs ((5 * kR) + 1)))) 0 0) 0 ((F_share (ss (ix (xs ((5 * kR) + 1)))) (xs ((5 * kR) + 2))) * F_bit (ss (ix (xs ((5 * kR) + 1)))))).toInt64)))))))) ++ (wMo cI cJ cZ a th td nd n ld sl bd pw dt st uc sv tl so ag ns ss rg hw ax fu si au px pg py)) H := by have h9 := hP; simp only [F_sel_yes hE0] at h9; exact h9
        have hD : va_D A (((wOr cI cJ cZ a px (F_if6 (F_claims (ss (ix (xs ((5 * kR) + 1)))) 0 0) py (F_pay (ss (ix (xs ((5 * kR) + 1)))) (F_share (ss (ix (xs ((5 * kR) + 1)))) (xs ((5 * kR) + 2))) py 8)) td) ++ ((wFi cI cJ cZ a ld sl bd pw dt st uc sv tl so lm n nd) ++ ((wSa cI cJ cZ a ss rg hw ax fu si au ns) ++ ((wJo cI cJ cZ a jk jd js jt jn) ++ ((wEx cI cJ cZ a ef es el ev et eo) ++ (wOu cI cJ cZ a (vp_updL ou 0 ((F_ifI (F_claims (ss (ix (xs ((5 * kR) + 1)))) 0 0) 0 ((F_share (ss (ix (xs ((5 * kR) + 1)))) (xs ((5 * kR) + 2))) * F_bit (ss (ix (xs ((5 * kR) + 1)))))).toInt64)))))))) ++ (wMo cI cJ cZ a th td nd n ld sl bd pw dt st uc sv tl so ag ns ss rg hw ax fu si au px pg py)) := zD_law hD
        obtain rfl : r_ = 0 := hr_.trans (by rw [hE0]; decide)
        have hp9 := (p_claim kR t px py td ld sl bd pw dt st uc sv tl so lm n nd ss rg hw ax fu si au ns jk jd js jt jn ef es el ev et eo ag pg (xs ((5 * kR) + 1)) (xs ((5 * kR) + 2)) 0 0 hR ht hk hE0)
        refine lv_istore (lv' := [(5, .int 0), (0, .ref b), (1, .ref (a 0)), (2, .ref (a 30)), (3, .ref (a 60)), (4, .int (nI (5 * kR)))]) hx hb dL_law_1174 hl (by decide) rfl (fun ls hl => ?_)
        refine lv_aload_n hx hb dL_law_1176 rfl (lv_at hl 3 rfl) ?_
        refine lv_aload_n hx hb dL_law_1177 rfl (lv_at hl 1 rfl) ?_
        refine lv_iload hx hb dL_law_1178 (lv_at hl 5 rfl) ?_
        refine lv_iconst (v := 1) hx hb dL_law_1180 (by decide) ?_
        refine lv_iadd hx hb dL_law_1181 ?_
        refine z_sld hx hb hX hbl hbA hS hL ((5 * kR) + 1) (z_iadd rfl (by decide)) (by omega) dL_law_1182 ?_
        refine lv_aload_n hx hb dL_law_1183 rfl (lv_at hl 1 rfl) ?_
        refine lv_iload hx hb dL_law_1184 (lv_at hl 5 rfl) ?_
        refine lv_iconst (v := 2) hx hb dL_law_1186 (by decide) ?_
        refine lv_iadd hx hb dL_law_1187 ?_
        refine z_sld hx hb hX hbl hbA hS hL ((5 * kR) + 2) (z_iadd rfl (by decide)) (by omega) dL_law_1188 ?_
        refine lv_aload_n hx hb dL_law_1189 rfl (lv_at hl 1 rfl) ?_
        refine lv_iload hx hb dL_law_1190 (lv_at hl 5 rfl) ?_
        refine lv_iconst (v := 3) hx hb dL_law_1192 (by decide) ?_
        refine lv_iadd hx hb dL_law_1193 ?_
        refine z_sld hx hb hX hbl hbA hS hL ((5 * kR) + 3) (z_iadd rfl (by decide)) (by omega) dL_law_1194 ?_
        refine lv_if_eq (tgt := 1202) hx hb dL_law_1195 (by decide) (fun _ => ?_) (fun c9 => absurd c_1 c9)
        refine lv_iconst (v := 0) hx hb dL_law_1202 (by decide) ?_
        refine lv_aload_n hx hb dL_law_1203 rfl (lv_at hl 1 rfl) ?_
        refine lv_iload hx hb dL_law_1204 (lv_at hl 5 rfl) ?_
        refine lv_iconst (v := 4) hx hb dL_law_1206 (by decide) ?_
        refine lv_iadd hx hb dL_law_1207 ?_
        refine z_sld hx hb hX hbl hbA hS hL ((5 * kR) + 4) (z_iadd rfl (by decide)) (by omega) dL_law_1208 ?_
        refine lv_if_eq (tgt := 1216) hx hb dL_law_1209 (by decide) (fun _ => ?_) (fun c9 => absurd c_2 c9)
        refine lv_iconst (v := 0) hx hb dL_law_1216 (by decide) ?_
        refine z_ciR (pre := ((wOr cI cJ cZ a px (F_if6 (F_claims (ss (ix (xs ((5 * kR) + 1)))) 0 0) py (F_pay (ss (ix (xs ((5 * kR) + 1)))) (F_share (ss (ix (xs ((5 * kR) + 1)))) (xs ((5 * kR) + 2))) py 8)) td) ++ ((wFi cI cJ cZ a ld sl bd pw dt st uc sv tl so lm n nd) ++ ((wSa cI cJ cZ a ss rg hw ax fu si au ns) ++ ((wJo cI cJ cZ a jk jd js jt jn) ++ ((wEx cI cJ cZ a ef es el ev et eo) ++ (wOu cI cJ cZ a (vp_updL ou 0 ((F_ifI (F_claims (ss (ix (xs ((5 * kR) + 1)))) 0 0) 0 ((F_share (ss (ix (xs ((5 * kR) + 1)))) (xs ((5 * kR) + 2))) * F_bit (ss (ix (xs ((5 * kR) + 1)))))).toInt64))))))))) (wc := (wMo cI cJ cZ a th td nd n ld sl bd pw dt st uc sv tl so ag ns ss rg hw ax fu si au px pg py)) (w1 := (wMo cI cJ cZ a (nI (E_claim (xs ((5 * kR) + 1)) (xs ((5 * kR) + 2)) ns)) td nd n ld sl bd pw dt st uc sv tl so ag ns ss rg hw ax fu si au px pg (F_sel (E_claim (xs ((5 * kR) + 1)) (xs ((5 * kR) + 2)) ns) (F_if6 (G_cl 0 0) py (G_pay (ss (ix (xs ((5 * kR) + 1)))) (G_share (ss (ix (xs ((5 * kR) + 1)))) (xs ((5 * kR) + 2))) py 8)) py))) (va_runV (As := [.int (xs ((5 * kR) + 1)), .int (xs ((5 * kR) + 2)), .int 0, .int 0]) (rest := []) ⟨hx, hb, hml, hown, hts⟩ (c_X5_claim l D cI cJ cZ a H.size th td nd n ld sl bd pw dt st uc sv tl so ag ns ss rg hw ax fu si au px pg py (xs ((5 * kR) + 1)) (xs ((5 * kR) + 2)) 0 0 hs hmy) (cwV 4 hts gL_law_X5_claim rfl rfl rfl (by decide +kernel) ⟨Nat.le_of_ble_eq_true rfl, Nat.le_of_ble_eq_true rfl⟩) (z_pv hK (zP_R hP) (zD_R hD) (q0 := 0) (ci := 5) rfl rfl zT_b zT_m) rfl rfl hl.1 rfl (lv_room (Nat.le_of_ble_eq_true rfl)) dL_law_1217 ⟨hcr, hsr⟩) hP hD hS hA (adrM.trans adrM.symm) (fun r_ H locs hr_ hP hS => ?_)
        have heq : E_claim (xs ((5 * kR) + 1)) (xs ((5 * kR) + 2)) ns = E_claim (xs ((5 * kR) + 1)) (xs ((5 * kR) + 2)) ns := rfl
        have hE1 : E_claim (xs ((5 * kR) + 1)) (xs ((5 * kR) + 2)) ns = 0 := heq.trans hE0
        have hth : nI (E_claim (xs ((5 * kR) + 1)) (xs ((5 * kR) + 2)) ns) = 0 := by rw [hE1]; decide
        have hP : va_P D vwCl (((wOr cI cJ cZ a px (F_if6 (F_claims (ss (ix (xs ((5 * kR) + 1)))) 0 0) py (F_pay (ss (ix (xs ((5 * kR) + 1)))) (F_share (ss (ix (xs ((5 * kR) + 1)))) (xs ((5 * kR) + 2))) py 8)) td) ++ ((wFi cI cJ cZ a ld sl bd pw dt st uc sv tl so lm n nd) ++ ((wSa cI cJ cZ a ss rg hw ax fu si au ns) ++ ((wJo cI cJ cZ a jk jd js jt jn) ++ ((wEx cI cJ cZ a ef es el ev et eo) ++ (wOu cI cJ cZ a (vp_updL ou 0 ((F_ifI (F_claims (ss (ix (xs ((5 * kR) + 1)))) 0 0) 0 ((F_share (ss (ix (xs ((5 * kR) + 1)))) (xs ((5 * kR) + 2))) * F_bit (ss (ix (xs ((5 * kR) + 1)))))).toInt64)))))))) ++ (wMo cI cJ cZ a 0 td nd n ld sl bd pw dt st uc sv tl so ag ns ss rg hw ax fu si au px pg (F_if6 (G_cl 0 0) py (G_pay (ss (ix (xs ((5 * kR) + 1)))) (G_share (ss (ix (xs ((5 * kR) + 1)))) (xs ((5 * kR) + 2))) py 8)))) H := by have h9 := hP; simp only [hth, F_sel_yes hE1] at h9; exact h9
        have hD : va_D A (((wOr cI cJ cZ a px (F_if6 (F_claims (ss (ix (xs ((5 * kR) + 1)))) 0 0) py (F_pay (ss (ix (xs ((5 * kR) + 1)))) (F_share (ss (ix (xs ((5 * kR) + 1)))) (xs ((5 * kR) + 2))) py 8)) td) ++ ((wFi cI cJ cZ a ld sl bd pw dt st uc sv tl so lm n nd) ++ ((wSa cI cJ cZ a ss rg hw ax fu si au ns) ++ ((wJo cI cJ cZ a jk jd js jt jn) ++ ((wEx cI cJ cZ a ef es el ev et eo) ++ (wOu cI cJ cZ a (vp_updL ou 0 ((F_ifI (F_claims (ss (ix (xs ((5 * kR) + 1)))) 0 0) 0 ((F_share (ss (ix (xs ((5 * kR) + 1)))) (xs ((5 * kR) + 2))) * F_bit (ss (ix (xs ((5 * kR) + 1)))))).toInt64)))))))) ++ (wMo cI cJ cZ a 0 td nd n ld sl bd pw dt st uc sv tl so ag ns ss rg hw ax fu si au px pg (F_if6 (G_cl 0 0) py (G_pay (ss (ix (xs ((5 * kR) + 1)))) (G_share (ss (ix (xs ((5 * kR) + 1)))) (xs ((5 * kR) + 2))) py 8)))) := zD_law hD
        obtain rfl : r_ = F_ifI (G_cl 0 0) 0 (G_many (ss (ix (xs ((5 * kR) + 1)))) 8 * G_share (ss (ix (xs ((5 * kR) + 1)))) (xs ((5 * kR) + 2))) := hr_.trans (F_sel_yes hE1 _ _)
        refine lv_istore (lv' := [(6, .int (F_ifI (G_cl 0 0) 0 (G_many (ss (ix (xs ((5 * kR) + 1)))) 8 * G_share (ss (ix (xs ((5 * kR) + 1)))) (xs ((5 * kR) + 2))))), (5, .int 0), (0, .ref b), (1, .ref (a 0)), (2, .ref (a 30)), (3, .ref (a 60)), (4, .int (nI (5 * kR)))]) hx hb dL_law_1220 hl (by decide) rfl (fun ls hl => ?_)
        refine lv_aload_n hx hb dL_law_1222 rfl (lv_at hl 4 rfl) ?_
        refine z_ri (va_runV (As := []) (rest := []) ⟨hx, hb, hml, hown, hts⟩ (c_X5_thrown l D cI cJ cZ a H.size 0 td nd n ld sl bd pw dt st uc sv tl so ag ns ss rg hw ax fu si au px pg (F_if6 (G_cl 0 0) py (G_pay (ss (ix (xs ((5 * kR) + 1)))) (G_share (ss (ix (xs ((5 * kR) + 1)))) (xs ((5 * kR) + 2))) py 8))) (cwV 0 hts gL_law_X5_thrown rfl rfl rfl (by decide +kernel) ⟨Nat.le_of_ble_eq_true rfl, Nat.le_of_ble_eq_true rfl⟩) (z_pv hK (zP_R hP) (zD_R hD) (q0 := 0) (ci := 5) rfl rfl zT_b zT_m) rfl rfl hl.1 rfl (lv_room (Nat.le_of_ble_eq_true rfl)) dL_law_1223 ⟨hcr, hsr⟩) hP hS hA (fun r_ _ H locs hr_ hP hS => ?_)
        subst hr_
        refine lv_iload hx hb dL_law_1226 (lv_at hl 1 rfl) ?_
        refine lv_icmp_eq (tgt := 1233) hx hb dL_law_1228 (by decide) (fun _ => ?_) (fun c9 => absurd (by decide) c9)
        refine lv_iload hx hb dL_law_1233 (lv_at hl 1 rfl) ?_
        refine lv_if_ne (tgt := 1250) hx hb dL_law_1235 (by decide) (fun c9 => absurd (by decide) c9) (fun _ => ?_)
        refine lv_aload_n hx hb dL_law_1238 rfl (lv_at hl 5 rfl) ?_
        refine lv_iconst (v := 0) hx hb dL_law_1239 (by decide) ?_
        refine z_lald hx hb hK hP 29 1 rfl rfl 0 (by decide) (by decide) rfl dL_law_1240 ?_
        refine lv_iload hx hb dL_law_1241 (lv_at hl 0 rfl) ?_
        refine lv_i2l (v := (F_ifI (G_cl 0 0) 0 (G_many (ss (ix (xs ((5 * kR) + 1)))) 8 * G_share (ss (ix (xs ((5 * kR) + 1)))) (xs ((5 * kR) + 2)))).toInt64) hx hb dL_law_1243 rfl ?_
        have hc9 : lg_cmp ((vp_updL ou 0 ((F_ifI (F_claims (ss (ix (xs ((5 * kR) + 1)))) 0 0) 0 ((F_share (ss (ix (xs ((5 * kR) + 1)))) (xs ((5 * kR) + 2))) * F_bit (ss (ix (xs ((5 * kR) + 1)))))).toInt64)) 0) ((F_ifI (G_cl 0 0) 0 (G_many (ss (ix (xs ((5 * kR) + 1)))) 8 * G_share (ss (ix (xs ((5 * kR) + 1)))) (xs ((5 * kR) + 2)))).toInt64) = 0 := z_cmp ((vp_updL_0 _ _).trans (by rw [hp9.1]))
        refine W.lcmp hx hb dL_law_1244 ?_
        refine lv_if_eq (tgt := 1250) hx hb dL_law_1245 (by decide) (fun _ => ?_) (fun c9 => absurd hc9 c9)
        refine lv_goto (tgt := 1941) hx hb dL_law_1250 (by decide) ?_
        have hP : va_P D vwCl (((wOr cI cJ cZ a px (F_if6 (F_claims (ss (ix (xs ((5 * kR) + 1)))) 0 0) py (F_pay (ss (ix (xs ((5 * kR) + 1)))) (F_share (ss (ix (xs ((5 * kR) + 1)))) (xs ((5 * kR) + 2))) py 8)) td) ++ ((wFi cI cJ cZ a ld sl bd pw dt st uc sv tl so lm n nd) ++ ((wSa cI cJ cZ a ss rg hw ax fu si au ns) ++ ((wJo cI cJ cZ a jk jd js jt jn) ++ ((wEx cI cJ cZ a ef es el ev et eo) ++ (wOu cI cJ cZ a (vp_updL ou 0 ((F_ifI (F_claims (ss (ix (xs ((5 * kR) + 1)))) 0 0) 0 ((F_share (ss (ix (xs ((5 * kR) + 1)))) (xs ((5 * kR) + 2))) * F_bit (ss (ix (xs ((5 * kR) + 1)))))).toInt64)))))))) ++ (wMo cI cJ cZ a 0 td nd n ld sl bd pw dt st uc sv tl so ag ns ss rg hw ax fu si au px pg (F_if6 (F_claims (ss (ix (xs ((5 * kR) + 1)))) 0 0) py (F_pay (ss (ix (xs ((5 * kR) + 1)))) (F_share (ss (ix (xs ((5 * kR) + 1)))) (xs ((5 * kR) + 2))) py 8)))) H := by simpa only [hp9.2.1] using hP
        have hD : va_D A (((wOr cI cJ cZ a px (F_if6 (F_claims (ss (ix (xs ((5 * kR) + 1)))) 0 0) py (F_pay (ss (ix (xs ((5 * kR) + 1)))) (F_share (ss (ix (xs ((5 * kR) + 1)))) (xs ((5 * kR) + 2))) py 8)) td) ++ ((wFi cI cJ cZ a ld sl bd pw dt st uc sv tl so lm n nd) ++ ((wSa cI cJ cZ a ss rg hw ax fu si au ns) ++ ((wJo cI cJ cZ a jk jd js jt jn) ++ ((wEx cI cJ cZ a ef es el ev et eo) ++ (wOu cI cJ cZ a (vp_updL ou 0 ((F_ifI (F_claims (ss (ix (xs ((5 * kR) + 1)))) 0 0) 0 ((F_share (ss (ix (xs ((5 * kR) + 1)))) (xs ((5 * kR) + 2))) * F_bit (ss (ix (xs ((5 * kR) + 1)))))).toInt64)))))))) ++ (wMo cI cJ cZ a 0 td nd n ld sl bd pw dt st uc sv tl so ag ns ss rg hw ax fu si au px pg (F_if6 (F_claims (ss (ix (xs ((5 * kR) + 1)))) 0 0) py (F_pay (ss (ix (xs ((5 * kR) + 1)))) (F_share (ss (ix (xs ((5 * kR) + 1)))) (xs ((5 * kR) + 2))) py 8)))) := zD_law hD
        exact kk H locs ls ⟨px, (F_if6 (F_claims (ss (ix (xs ((5 * kR) + 1)))) 0 0) py (F_pay (ss (ix (xs ((5 * kR) + 1)))) (F_share (ss (ix (xs ((5 * kR) + 1)))) (xs ((5 * kR) + 2))) py 8)), td, ld, sl, bd, pw, dt, st, uc, sv, tl, so, lm, n, nd, ss, rg, hw, ax, fu, si, au, ns, jk, jd, js, jt, jn, ef, es, el, ev, et, eo, 0, pg, ag, (vp_updL ou 0 ((F_ifI (F_claims (ss (ix (xs ((5 * kR) + 1)))) 0 0) 0 ((F_share (ss (ix (xs ((5 * kR) + 1)))) (xs ((5 * kR) + 2))) * F_bit (ss (ix (xs ((5 * kR) + 1)))))).toInt64)), hp9.2.2, hP, hD⟩ hS (lv_sub hl [2, 3, 4, 5, 6] rfl)
      · refine z_ciL (suf := (wMo cI cJ cZ a th td nd n ld sl bd pw dt st uc sv tl so ag ns ss rg hw ax fu si au px pg py)) (wc := ((wOr cI cJ cZ a px py td) ++ ((wFi cI cJ cZ a ld sl bd pw dt st uc sv tl so lm n nd) ++ ((wSa cI cJ cZ a ss rg hw ax fu si au ns) ++ ((wJo cI cJ cZ a jk jd js jt jn) ++ ((wEx cI cJ cZ a ef es el ev et eo) ++ (wOu cI cJ cZ a ou))))))) (w1 := ((wOr cI cJ cZ a px (F_sel (E_claim (xs ((5 * kR) + 1)) (xs ((5 * kR) + 2)) ns) (F_if6 (F_claims (ss (ix (xs ((5 * kR) + 1)))) 0 0) py (F_pay (ss (ix (xs ((5 * kR) + 1)))) (F_share (ss (ix (xs ((5 * kR) + 1)))) (xs ((5 * kR) + 2))) py 8)) py) td) ++ ((wFi cI cJ cZ a ld sl bd pw dt st uc sv tl so lm n nd) ++ ((wSa cI cJ cZ a ss rg hw ax fu si au ns) ++ ((wJo cI cJ cZ a jk jd js jt jn) ++ ((wEx cI cJ cZ a ef es el ev et eo) ++ (wOu cI cJ cZ a (F_sel (E_claim (xs ((5 * kR) + 1)) (xs ((5 * kR) + 2)) ns) (vp_updL ou 0 ((F_ifI (F_claims (ss (ix (xs ((5 * kR) + 1)))) 0 0) 0 ((F_share (ss (ix (xs ((5 * kR) + 1)))) (xs ((5 * kR) + 2))) * F_bit (ss (ix (xs ((5 * kR) + 1)))))).toInt64)) ou)))))))) (vx_runSW (As := [.ref (a 0), .int (xs ((5 * kR) + 1)), .int (xs ((5 * kR) + 2)), .int 0, .int 0, .ref (a 60)]) (rest := []) ⟨hx, hb, hml, hown, hts⟩ (c_L_claim l hflg D cI cJ cZ a H.size px py td ld sl bd pw dt st uc sv tl so lm n nd ss rg hw ax fu si au ns jk jd js jt jn ef es el ev et eo ou (xs ((5 * kR) + 1)) (xs ((5 * kR) + 2)) 0 0 hs) (vx_cwSW 6 hts gL_law_L_claim rfl rfl rfl (by decide +kernel) ⟨Nat.le_of_ble_eq_true rfl, Nat.le_of_ble_eq_true rfl⟩) (z_ps hK (zP_L hP) (zD_L hD) ZX_b (ZX_m hE hS (zF_L hD hS hA))) rfl rfl hl.1 rfl (lv_room (Nat.le_of_ble_eq_true rfl)) dL_law_1171 ⟨hcr, hsr⟩) hP hD hS hA (adrC.trans adrC.symm) (fun r_ H locs hr_ hP hS => ?_)
        have hP : va_P D vwCl (((wOr cI cJ cZ a px py td) ++ ((wFi cI cJ cZ a ld sl bd pw dt st uc sv tl so lm n nd) ++ ((wSa cI cJ cZ a ss rg hw ax fu si au ns) ++ ((wJo cI cJ cZ a jk jd js jt jn) ++ ((wEx cI cJ cZ a ef es el ev et eo) ++ (wOu cI cJ cZ a ou)))))) ++ (wMo cI cJ cZ a th td nd n ld sl bd pw dt st uc sv tl so ag ns ss rg hw ax fu si au px pg py)) H := by have h9 := hP; simp only [F_sel_no hE0] at h9; exact h9
        have hD : va_D A (((wOr cI cJ cZ a px py td) ++ ((wFi cI cJ cZ a ld sl bd pw dt st uc sv tl so lm n nd) ++ ((wSa cI cJ cZ a ss rg hw ax fu si au ns) ++ ((wJo cI cJ cZ a jk jd js jt jn) ++ ((wEx cI cJ cZ a ef es el ev et eo) ++ (wOu cI cJ cZ a ou)))))) ++ (wMo cI cJ cZ a th td nd n ld sl bd pw dt st uc sv tl so ag ns ss rg hw ax fu si au px pg py)) := zD_law hD
        subst hr_
        have hnz : ¬ (nI (E_claim (xs ((5 * kR) + 1)) (xs ((5 * kR) + 2)) ns)) = 0 := z_nz hE0 (by unfold E_claim; (repeat' split); all_goals decide)
        refine lv_istore (lv' := [(5, .int (nI (E_claim (xs ((5 * kR) + 1)) (xs ((5 * kR) + 2)) ns))), (0, .ref b), (1, .ref (a 0)), (2, .ref (a 30)), (3, .ref (a 60)), (4, .int (nI (5 * kR)))]) hx hb dL_law_1174 hl (by decide) rfl (fun ls hl => ?_)
        refine lv_aload_n hx hb dL_law_1176 rfl (lv_at hl 3 rfl) ?_
        refine lv_aload_n hx hb dL_law_1177 rfl (lv_at hl 1 rfl) ?_
        refine lv_iload hx hb dL_law_1178 (lv_at hl 5 rfl) ?_
        refine lv_iconst (v := 1) hx hb dL_law_1180 (by decide) ?_
        refine lv_iadd hx hb dL_law_1181 ?_
        refine z_sld hx hb hX hbl hbA hS hL ((5 * kR) + 1) (z_iadd rfl (by decide)) (by omega) dL_law_1182 ?_
        refine lv_aload_n hx hb dL_law_1183 rfl (lv_at hl 1 rfl) ?_
        refine lv_iload hx hb dL_law_1184 (lv_at hl 5 rfl) ?_
        refine lv_iconst (v := 2) hx hb dL_law_1186 (by decide) ?_
        refine lv_iadd hx hb dL_law_1187 ?_
        refine z_sld hx hb hX hbl hbA hS hL ((5 * kR) + 2) (z_iadd rfl (by decide)) (by omega) dL_law_1188 ?_
        refine lv_aload_n hx hb dL_law_1189 rfl (lv_at hl 1 rfl) ?_
        refine lv_iload hx hb dL_law_1190 (lv_at hl 5 rfl) ?_
        refine lv_iconst (v := 3) hx hb dL_law_1192 (by decide) ?_
        refine lv_iadd hx hb dL_law_1193 ?_
        refine z_sld hx hb hX hbl hbA hS hL ((5 * kR) + 3) (z_iadd rfl (by decide)) (by omega) dL_law_1194 ?_
        refine lv_if_eq (tgt := 1202) hx hb dL_law_1195 (by decide) (fun _ => ?_) (fun c9 => absurd c_1 c9)
        refine lv_iconst (v := 0) hx hb dL_law_1202 (by decide) ?_
        refine lv_aload_n hx hb dL_law_1203 rfl (lv_at hl 1 rfl) ?_
        refine lv_iload hx hb dL_law_1204 (lv_at hl 5 rfl) ?_
        refine lv_iconst (v := 4) hx hb dL_law_1206 (by decide) ?_
        refine lv_iadd hx hb dL_law_1207 ?_
        refine z_sld hx hb hX hbl hbA hS hL ((5 * kR) + 4) (z_iadd rfl (by decide)) (by omega) dL_law_1208 ?_
        refine lv_if_eq (tgt := 1216) hx hb dL_law_1209 (by decide) (fun _ => ?_) (fun c9 => absurd c_2 c9)
        refine lv_iconst (v := 0) hx hb dL_law_1216 (by decide) ?_
        refine z_ciR (pre := ((wOr cI cJ cZ a px py td) ++ ((wFi cI cJ cZ a ld sl bd pw dt st uc sv tl so lm n nd) ++ ((wSa cI cJ cZ a ss rg hw ax fu si au ns) ++ ((wJo cI cJ cZ a jk jd js jt jn) ++ ((wEx cI cJ cZ a ef es el ev et eo) ++ (wOu cI cJ cZ a ou))))))) (wc := (wMo cI cJ cZ a th td nd n ld sl bd pw dt st uc sv tl so ag ns ss rg hw ax fu si au px pg py)) (w1 := (wMo cI cJ cZ a (nI (E_claim (xs ((5 * kR) + 1)) (xs ((5 * kR) + 2)) ns)) td nd n ld sl bd pw dt st uc sv tl so ag ns ss rg hw ax fu si au px pg (F_sel (E_claim (xs ((5 * kR) + 1)) (xs ((5 * kR) + 2)) ns) (F_if6 (G_cl 0 0) py (G_pay (ss (ix (xs ((5 * kR) + 1)))) (G_share (ss (ix (xs ((5 * kR) + 1)))) (xs ((5 * kR) + 2))) py 8)) py))) (va_runV (As := [.int (xs ((5 * kR) + 1)), .int (xs ((5 * kR) + 2)), .int 0, .int 0]) (rest := []) ⟨hx, hb, hml, hown, hts⟩ (c_X5_claim l D cI cJ cZ a H.size th td nd n ld sl bd pw dt st uc sv tl so ag ns ss rg hw ax fu si au px pg py (xs ((5 * kR) + 1)) (xs ((5 * kR) + 2)) 0 0 hs hmy) (cwV 4 hts gL_law_X5_claim rfl rfl rfl (by decide +kernel) ⟨Nat.le_of_ble_eq_true rfl, Nat.le_of_ble_eq_true rfl⟩) (z_pv hK (zP_R hP) (zD_R hD) (q0 := 0) (ci := 5) rfl rfl zT_b zT_m) rfl rfl hl.1 rfl (lv_room (Nat.le_of_ble_eq_true rfl)) dL_law_1217 ⟨hcr, hsr⟩) hP hD hS hA (adrM.trans adrM.symm) (fun r_ H locs hr_ hP hS => ?_)
        have heq : E_claim (xs ((5 * kR) + 1)) (xs ((5 * kR) + 2)) ns = E_claim (xs ((5 * kR) + 1)) (xs ((5 * kR) + 2)) ns := rfl
        have hE1 : ¬ E_claim (xs ((5 * kR) + 1)) (xs ((5 * kR) + 2)) ns = 0 := fun h => hE0 (heq.symm.trans h)
        have hP : va_P D vwCl (((wOr cI cJ cZ a px py td) ++ ((wFi cI cJ cZ a ld sl bd pw dt st uc sv tl so lm n nd) ++ ((wSa cI cJ cZ a ss rg hw ax fu si au ns) ++ ((wJo cI cJ cZ a jk jd js jt jn) ++ ((wEx cI cJ cZ a ef es el ev et eo) ++ (wOu cI cJ cZ a ou)))))) ++ (wMo cI cJ cZ a (nI (E_claim (xs ((5 * kR) + 1)) (xs ((5 * kR) + 2)) ns)) td nd n ld sl bd pw dt st uc sv tl so ag ns ss rg hw ax fu si au px pg py)) H := by have h9 := hP; simp only [F_sel_no hE1] at h9; exact h9
        have hD : va_D A (((wOr cI cJ cZ a px py td) ++ ((wFi cI cJ cZ a ld sl bd pw dt st uc sv tl so lm n nd) ++ ((wSa cI cJ cZ a ss rg hw ax fu si au ns) ++ ((wJo cI cJ cZ a jk jd js jt jn) ++ ((wEx cI cJ cZ a ef es el ev et eo) ++ (wOu cI cJ cZ a ou)))))) ++ (wMo cI cJ cZ a (nI (E_claim (xs ((5 * kR) + 1)) (xs ((5 * kR) + 2)) ns)) td nd n ld sl bd pw dt st uc sv tl so ag ns ss rg hw ax fu si au px pg py)) := zD_law hD
        obtain rfl : r_ = 0 := hr_.trans (F_sel_no hE1 _ _)
        refine lv_istore (lv' := [(6, .int 0), (5, .int (nI (E_claim (xs ((5 * kR) + 1)) (xs ((5 * kR) + 2)) ns))), (0, .ref b), (1, .ref (a 0)), (2, .ref (a 30)), (3, .ref (a 60)), (4, .int (nI (5 * kR)))]) hx hb dL_law_1220 hl (by decide) rfl (fun ls hl => ?_)
        refine lv_aload_n hx hb dL_law_1222 rfl (lv_at hl 4 rfl) ?_
        refine z_ri (va_runV (As := []) (rest := []) ⟨hx, hb, hml, hown, hts⟩ (c_X5_thrown l D cI cJ cZ a H.size (nI (E_claim (xs ((5 * kR) + 1)) (xs ((5 * kR) + 2)) ns)) td nd n ld sl bd pw dt st uc sv tl so ag ns ss rg hw ax fu si au px pg py) (cwV 0 hts gL_law_X5_thrown rfl rfl rfl (by decide +kernel) ⟨Nat.le_of_ble_eq_true rfl, Nat.le_of_ble_eq_true rfl⟩) (z_pv hK (zP_R hP) (zD_R hD) (q0 := 0) (ci := 5) rfl rfl zT_b zT_m) rfl rfl hl.1 rfl (lv_room (Nat.le_of_ble_eq_true rfl)) dL_law_1223 ⟨hcr, hsr⟩) hP hS hA (fun r_ _ H locs hr_ hP hS => ?_)
        subst hr_
        refine lv_iload hx hb dL_law_1226 (lv_at hl 1 rfl) ?_
        refine lv_icmp_eq (tgt := 1233) hx hb dL_law_1228 (by decide) (fun _ => ?_) (fun c9 => absurd rfl c9)
        refine lv_iload hx hb dL_law_1233 (lv_at hl 1 rfl) ?_
        refine lv_if_ne (tgt := 1250) hx hb dL_law_1235 (by decide) (fun _ => ?_) (fun c9 => absurd c9 hnz)
        refine lv_goto (tgt := 1941) hx hb dL_law_1250 (by decide) ?_
        exact kk H locs ls ⟨px, py, td, ld, sl, bd, pw, dt, st, uc, sv, tl, so, lm, n, nd, ss, rg, hw, ax, fu, si, au, ns, jk, jd, js, jt, jn, ef, es, el, ev, et, eo, nI (E_claim (xs ((5 * kR) + 1)) (xs ((5 * kR) + 2)) ns), pg, ag, ou, hR.mono, hP, hD⟩ hS (lv_sub hl [2, 3, 4, 5, 6] rfl)
    · refine lv_iconst (v := 1) hx hb dL_law_1165 (by decide) ?_
      refine lv_goto (tgt := 1170) hx hb dL_law_1166 (by decide) ?_
      refine lv_aload_n hx hb dL_law_1170 rfl (lv_at hl 3 rfl) ?_
      by_cases hE0 : E_claim (xs ((5 * kR) + 1)) (xs ((5 * kR) + 2)) ns = 0
      · refine z_ciL (suf := (wMo cI cJ cZ a th td nd n ld sl bd pw dt st uc sv tl so ag ns ss rg hw ax fu si au px pg py)) (wc := ((wOr cI cJ cZ a px py td) ++ ((wFi cI cJ cZ a ld sl bd pw dt st uc sv tl so lm n nd) ++ ((wSa cI cJ cZ a ss rg hw ax fu si au ns) ++ ((wJo cI cJ cZ a jk jd js jt jn) ++ ((wEx cI cJ cZ a ef es el ev et eo) ++ (wOu cI cJ cZ a ou))))))) (w1 := ((wOr cI cJ cZ a px (F_sel (E_claim (xs ((5 * kR) + 1)) (xs ((5 * kR) + 2)) ns) (F_if6 (F_claims (ss (ix (xs ((5 * kR) + 1)))) 0 1) py (F_pay (ss (ix (xs ((5 * kR) + 1)))) (F_share (ss (ix (xs ((5 * kR) + 1)))) (xs ((5 * kR) + 2))) py 8)) py) td) ++ ((wFi cI cJ cZ a ld sl bd pw dt st uc sv tl so lm n nd) ++ ((wSa cI cJ cZ a ss rg hw ax fu si au ns) ++ ((wJo cI cJ cZ a jk jd js jt jn) ++ ((wEx cI cJ cZ a ef es el ev et eo) ++ (wOu cI cJ cZ a (F_sel (E_claim (xs ((5 * kR) + 1)) (xs ((5 * kR) + 2)) ns) (vp_updL ou 0 ((F_ifI (F_claims (ss (ix (xs ((5 * kR) + 1)))) 0 1) 0 ((F_share (ss (ix (xs ((5 * kR) + 1)))) (xs ((5 * kR) + 2))) * F_bit (ss (ix (xs ((5 * kR) + 1)))))).toInt64)) ou)))))))) (vx_runSW (As := [.ref (a 0), .int (xs ((5 * kR) + 1)), .int (xs ((5 * kR) + 2)), .int 0, .int 1, .ref (a 60)]) (rest := []) ⟨hx, hb, hml, hown, hts⟩ (c_L_claim l hflg D cI cJ cZ a H.size px py td ld sl bd pw dt st uc sv tl so lm n nd ss rg hw ax fu si au ns jk jd js jt jn ef es el ev et eo ou (xs ((5 * kR) + 1)) (xs ((5 * kR) + 2)) 0 1 hs) (vx_cwSW 6 hts gL_law_L_claim rfl rfl rfl (by decide +kernel) ⟨Nat.le_of_ble_eq_true rfl, Nat.le_of_ble_eq_true rfl⟩) (z_ps hK (zP_L hP) (zD_L hD) ZX_b (ZX_m hE hS (zF_L hD hS hA))) rfl rfl hl.1 rfl (lv_room (Nat.le_of_ble_eq_true rfl)) dL_law_1171 ⟨hcr, hsr⟩) hP hD hS hA (adrC.trans adrC.symm) (fun r_ H locs hr_ hP hS => ?_)
        have hP : va_P D vwCl (((wOr cI cJ cZ a px (F_if6 (F_claims (ss (ix (xs ((5 * kR) + 1)))) 0 1) py (F_pay (ss (ix (xs ((5 * kR) + 1)))) (F_share (ss (ix (xs ((5 * kR) + 1)))) (xs ((5 * kR) + 2))) py 8)) td) ++ ((wFi cI cJ cZ a ld sl bd pw dt st uc sv tl so lm n nd) ++ ((wSa cI cJ cZ a ss rg hw ax fu si au ns) ++ ((wJo cI cJ cZ a jk jd js jt jn) ++ ((wEx cI cJ cZ a ef es el ev et eo) ++ (wOu cI cJ cZ a (vp_updL ou 0 ((F_ifI (F_claims (ss (ix (xs ((5 * kR) + 1)))) 0 1) 0 ((F_share (ss (ix (xs ((5 * kR) + 1)))) (xs ((5 * kR) + 2))) * F_bit (ss (ix (xs ((5 * kR) + 1)))))).toInt64)))))))) ++ (wMo cI cJ cZ a th td nd n ld sl bd pw dt st uc sv tl so ag ns ss rg hw ax fu si au px pg py)) H := by have h9 := hP; simp only [F_sel_yes hE0] at h9; exact h9
        have hD : va_D A (((wOr cI cJ cZ a px (F_if6 (F_claims (ss (ix (xs ((5 * kR) + 1)))) 0 1) py (F_pay (ss (ix (xs ((5 * kR) + 1)))) (F_share (ss (ix (xs ((5 * kR) + 1)))) (xs ((5 * kR) + 2))) py 8)) td) ++ ((wFi cI cJ cZ a ld sl bd pw dt st uc sv tl so lm n nd) ++ ((wSa cI cJ cZ a ss rg hw ax fu si au ns) ++ ((wJo cI cJ cZ a jk jd js jt jn) ++ ((wEx cI cJ cZ a ef es el ev et eo) ++ (wOu cI cJ cZ a (vp_updL ou 0 ((F_ifI (F_claims (ss (ix (xs ((5 * kR) + 1)))) 0 1) 0 ((F_share (ss (ix (xs ((5 * kR) + 1)))) (xs ((5 * kR) + 2))) * F_bit (ss (ix (xs ((5 * kR) + 1)))))).toInt64)))))))) ++ (wMo cI cJ cZ a th td nd n ld sl bd pw dt st uc sv tl so ag ns ss rg hw ax fu si au px pg py)) := zD_law hD
        obtain rfl : r_ = 0 := hr_.trans (by rw [hE0]; decide)
        have hp9 := (p_claim kR t px py td ld sl bd pw dt st uc sv tl so lm n nd ss rg hw ax fu si au ns jk jd js jt jn ef es el ev et eo ag pg (xs ((5 * kR) + 1)) (xs ((5 * kR) + 2)) 0 1 hR ht hk hE0)
        refine lv_istore (lv' := [(5, .int 0), (0, .ref b), (1, .ref (a 0)), (2, .ref (a 30)), (3, .ref (a 60)), (4, .int (nI (5 * kR)))]) hx hb dL_law_1174 hl (by decide) rfl (fun ls hl => ?_)
        refine lv_aload_n hx hb dL_law_1176 rfl (lv_at hl 3 rfl) ?_
        refine lv_aload_n hx hb dL_law_1177 rfl (lv_at hl 1 rfl) ?_
        refine lv_iload hx hb dL_law_1178 (lv_at hl 5 rfl) ?_
        refine lv_iconst (v := 1) hx hb dL_law_1180 (by decide) ?_
        refine lv_iadd hx hb dL_law_1181 ?_
        refine z_sld hx hb hX hbl hbA hS hL ((5 * kR) + 1) (z_iadd rfl (by decide)) (by omega) dL_law_1182 ?_
        refine lv_aload_n hx hb dL_law_1183 rfl (lv_at hl 1 rfl) ?_
        refine lv_iload hx hb dL_law_1184 (lv_at hl 5 rfl) ?_
        refine lv_iconst (v := 2) hx hb dL_law_1186 (by decide) ?_
        refine lv_iadd hx hb dL_law_1187 ?_
        refine z_sld hx hb hX hbl hbA hS hL ((5 * kR) + 2) (z_iadd rfl (by decide)) (by omega) dL_law_1188 ?_
        refine lv_aload_n hx hb dL_law_1189 rfl (lv_at hl 1 rfl) ?_
        refine lv_iload hx hb dL_law_1190 (lv_at hl 5 rfl) ?_
        refine lv_iconst (v := 3) hx hb dL_law_1192 (by decide) ?_
        refine lv_iadd hx hb dL_law_1193 ?_
        refine z_sld hx hb hX hbl hbA hS hL ((5 * kR) + 3) (z_iadd rfl (by decide)) (by omega) dL_law_1194 ?_
        refine lv_if_eq (tgt := 1202) hx hb dL_law_1195 (by decide) (fun _ => ?_) (fun c9 => absurd c_1 c9)
        refine lv_iconst (v := 0) hx hb dL_law_1202 (by decide) ?_
        refine lv_aload_n hx hb dL_law_1203 rfl (lv_at hl 1 rfl) ?_
        refine lv_iload hx hb dL_law_1204 (lv_at hl 5 rfl) ?_
        refine lv_iconst (v := 4) hx hb dL_law_1206 (by decide) ?_
        refine lv_iadd hx hb dL_law_1207 ?_
        refine z_sld hx hb hX hbl hbA hS hL ((5 * kR) + 4) (z_iadd rfl (by decide)) (by omega) dL_law_1208 ?_
        refine lv_if_eq (tgt := 1216) hx hb dL_law_1209 (by decide) (fun c9 => absurd c9 c_2) (fun _ => ?_)
        refine lv_iconst (v := 1) hx hb dL_law_1212 (by decide) ?_
        refine lv_goto (tgt := 1217) hx hb dL_law_1213 (by decide) ?_
        refine z_ciR (pre := ((wOr cI cJ cZ a px (F_if6 (F_claims (ss (ix (xs ((5 * kR) + 1)))) 0 1) py (F_pay (ss (ix (xs ((5 * kR) + 1)))) (F_share (ss (ix (xs ((5 * kR) + 1)))) (xs ((5 * kR) + 2))) py 8)) td) ++ ((wFi cI cJ cZ a ld sl bd pw dt st uc sv tl so lm n nd) ++ ((wSa cI cJ cZ a ss rg hw ax fu si au ns) ++ ((wJo cI cJ cZ a jk jd js jt jn) ++ ((wEx cI cJ cZ a ef es el ev et eo) ++ (wOu cI cJ cZ a (vp_updL ou 0 ((F_ifI (F_claims (ss (ix (xs ((5 * kR) + 1)))) 0 1) 0 ((F_share (ss (ix (xs ((5 * kR) + 1)))) (xs ((5 * kR) + 2))) * F_bit (ss (ix (xs ((5 * kR) + 1)))))).toInt64))))))))) (wc := (wMo cI cJ cZ a th td nd n ld sl bd pw dt st uc sv tl so ag ns ss rg hw ax fu si au px pg py)) (w1 := (wMo cI cJ cZ a (nI (E_claim (xs ((5 * kR) + 1)) (xs ((5 * kR) + 2)) ns)) td nd n ld sl bd pw dt st uc sv tl so ag ns ss rg hw ax fu si au px pg (F_sel (E_claim (xs ((5 * kR) + 1)) (xs ((5 * kR) + 2)) ns) (F_if6 (G_cl 0 1) py (G_pay (ss (ix (xs ((5 * kR) + 1)))) (G_share (ss (ix (xs ((5 * kR) + 1)))) (xs ((5 * kR) + 2))) py 8)) py))) (va_runV (As := [.int (xs ((5 * kR) + 1)), .int (xs ((5 * kR) + 2)), .int 0, .int 1]) (rest := []) ⟨hx, hb, hml, hown, hts⟩ (c_X5_claim l D cI cJ cZ a H.size th td nd n ld sl bd pw dt st uc sv tl so ag ns ss rg hw ax fu si au px pg py (xs ((5 * kR) + 1)) (xs ((5 * kR) + 2)) 0 1 hs hmy) (cwV 4 hts gL_law_X5_claim rfl rfl rfl (by decide +kernel) ⟨Nat.le_of_ble_eq_true rfl, Nat.le_of_ble_eq_true rfl⟩) (z_pv hK (zP_R hP) (zD_R hD) (q0 := 0) (ci := 5) rfl rfl zT_b zT_m) rfl rfl hl.1 rfl (lv_room (Nat.le_of_ble_eq_true rfl)) dL_law_1217 ⟨hcr, hsr⟩) hP hD hS hA (adrM.trans adrM.symm) (fun r_ H locs hr_ hP hS => ?_)
        have heq : E_claim (xs ((5 * kR) + 1)) (xs ((5 * kR) + 2)) ns = E_claim (xs ((5 * kR) + 1)) (xs ((5 * kR) + 2)) ns := rfl
        have hE1 : E_claim (xs ((5 * kR) + 1)) (xs ((5 * kR) + 2)) ns = 0 := heq.trans hE0
        have hth : nI (E_claim (xs ((5 * kR) + 1)) (xs ((5 * kR) + 2)) ns) = 0 := by rw [hE1]; decide
        have hP : va_P D vwCl (((wOr cI cJ cZ a px (F_if6 (F_claims (ss (ix (xs ((5 * kR) + 1)))) 0 1) py (F_pay (ss (ix (xs ((5 * kR) + 1)))) (F_share (ss (ix (xs ((5 * kR) + 1)))) (xs ((5 * kR) + 2))) py 8)) td) ++ ((wFi cI cJ cZ a ld sl bd pw dt st uc sv tl so lm n nd) ++ ((wSa cI cJ cZ a ss rg hw ax fu si au ns) ++ ((wJo cI cJ cZ a jk jd js jt jn) ++ ((wEx cI cJ cZ a ef es el ev et eo) ++ (wOu cI cJ cZ a (vp_updL ou 0 ((F_ifI (F_claims (ss (ix (xs ((5 * kR) + 1)))) 0 1) 0 ((F_share (ss (ix (xs ((5 * kR) + 1)))) (xs ((5 * kR) + 2))) * F_bit (ss (ix (xs ((5 * kR) + 1)))))).toInt64)))))))) ++ (wMo cI cJ cZ a 0 td nd n ld sl bd pw dt st uc sv tl so ag ns ss rg hw ax fu si au px pg (F_if6 (G_cl 0 1) py (G_pay (ss (ix (xs ((5 * kR) + 1)))) (G_share (ss (ix (xs ((5 * kR) + 1)))) (xs ((5 * kR) + 2))) py 8)))) H := by have h9 := hP; simp only [hth, F_sel_yes hE1] at h9; exact h9
        have hD : va_D A (((wOr cI cJ cZ a px (F_if6 (F_claims (ss (ix (xs ((5 * kR) + 1)))) 0 1) py (F_pay (ss (ix (xs ((5 * kR) + 1)))) (F_share (ss (ix (xs ((5 * kR) + 1)))) (xs ((5 * kR) + 2))) py 8)) td) ++ ((wFi cI cJ cZ a ld sl bd pw dt st uc sv tl so lm n nd) ++ ((wSa cI cJ cZ a ss rg hw ax fu si au ns) ++ ((wJo cI cJ cZ a jk jd js jt jn) ++ ((wEx cI cJ cZ a ef es el ev et eo) ++ (wOu cI cJ cZ a (vp_updL ou 0 ((F_ifI (F_claims (ss (ix (xs ((5 * kR) + 1)))) 0 1) 0 ((F_share (ss (ix (xs ((5 * kR) + 1)))) (xs ((5 * kR) + 2))) * F_bit (ss (ix (xs ((5 * kR) + 1)))))).toInt64)))))))) ++ (wMo cI cJ cZ a 0 td nd n ld sl bd pw dt st uc sv tl so ag ns ss rg hw ax fu si au px pg (F_if6 (G_cl 0 1) py (G_pay (ss (ix (xs ((5 * kR) + 1)))) (G_share (ss (ix (xs ((5 * kR) + 1)))) (xs ((5 * kR) + 2))) py 8)))) := zD_law hD
        obtain rfl : r_ = F_ifI (G_cl 0 1) 0 (G_many (ss (ix (xs ((5 * kR) + 1)))) 8 * G_share (ss (ix (xs ((5 * kR) + 1)))) (xs ((5 * kR) + 2))) := hr_.trans (F_sel_yes hE1 _ _)
        refine lv_istore (lv' := [(6, .int (F_ifI (G_cl 0 1) 0 (G_many (ss (ix (xs ((5 * kR) + 1)))) 8 * G_share (ss (ix (xs ((5 * kR) + 1)))) (xs ((5 * kR) + 2))))), (5, .int 0), (0, .ref b), (1, .ref (a 0)), (2, .ref (a 30)), (3, .ref (a 60)), (4, .int (nI (5 * kR)))]) hx hb dL_law_1220 hl (by decide) rfl (fun ls hl => ?_)
        refine lv_aload_n hx hb dL_law_1222 rfl (lv_at hl 4 rfl) ?_
        refine z_ri (va_runV (As := []) (rest := []) ⟨hx, hb, hml, hown, hts⟩ (c_X5_thrown l D cI cJ cZ a H.size 0 td nd n ld sl bd pw dt st uc sv tl so ag ns ss rg hw ax fu si au px pg (F_if6 (G_cl 0 1) py (G_pay (ss (ix (xs ((5 * kR) + 1)))) (G_share (ss (ix (xs ((5 * kR) + 1)))) (xs ((5 * kR) + 2))) py 8))) (cwV 0 hts gL_law_X5_thrown rfl rfl rfl (by decide +kernel) ⟨Nat.le_of_ble_eq_true rfl, Nat.le_of_ble_eq_true rfl⟩) (z_pv hK (zP_R hP) (zD_R hD) (q0 := 0) (ci := 5) rfl rfl zT_b zT_m) rfl rfl hl.1 rfl (lv_room (Nat.le_of_ble_eq_true rfl)) dL_law_1223 ⟨hcr, hsr⟩) hP hS hA (fun r_ _ H locs hr_ hP hS => ?_)
        subst hr_
        refine lv_iload hx hb dL_law_1226 (lv_at hl 1 rfl) ?_
        refine lv_icmp_eq (tgt := 1233) hx hb dL_law_1228 (by decide) (fun _ => ?_) (fun c9 => absurd (by decide) c9)
        refine lv_iload hx hb dL_law_1233 (lv_at hl 1 rfl) ?_
        refine lv_if_ne (tgt := 1250) hx hb dL_law_1235 (by decide) (fun c9 => absurd (by decide) c9) (fun _ => ?_)
        refine lv_aload_n hx hb dL_law_1238 rfl (lv_at hl 5 rfl) ?_
        refine lv_iconst (v := 0) hx hb dL_law_1239 (by decide) ?_
        refine z_lald hx hb hK hP 29 1 rfl rfl 0 (by decide) (by decide) rfl dL_law_1240 ?_
        refine lv_iload hx hb dL_law_1241 (lv_at hl 0 rfl) ?_
        refine lv_i2l (v := (F_ifI (G_cl 0 1) 0 (G_many (ss (ix (xs ((5 * kR) + 1)))) 8 * G_share (ss (ix (xs ((5 * kR) + 1)))) (xs ((5 * kR) + 2)))).toInt64) hx hb dL_law_1243 rfl ?_
        have hc9 : lg_cmp ((vp_updL ou 0 ((F_ifI (F_claims (ss (ix (xs ((5 * kR) + 1)))) 0 1) 0 ((F_share (ss (ix (xs ((5 * kR) + 1)))) (xs ((5 * kR) + 2))) * F_bit (ss (ix (xs ((5 * kR) + 1)))))).toInt64)) 0) ((F_ifI (G_cl 0 1) 0 (G_many (ss (ix (xs ((5 * kR) + 1)))) 8 * G_share (ss (ix (xs ((5 * kR) + 1)))) (xs ((5 * kR) + 2)))).toInt64) = 0 := z_cmp ((vp_updL_0 _ _).trans (by rw [hp9.1]))
        refine W.lcmp hx hb dL_law_1244 ?_
        refine lv_if_eq (tgt := 1250) hx hb dL_law_1245 (by decide) (fun _ => ?_) (fun c9 => absurd hc9 c9)
        refine lv_goto (tgt := 1941) hx hb dL_law_1250 (by decide) ?_
        have hP : va_P D vwCl (((wOr cI cJ cZ a px (F_if6 (F_claims (ss (ix (xs ((5 * kR) + 1)))) 0 1) py (F_pay (ss (ix (xs ((5 * kR) + 1)))) (F_share (ss (ix (xs ((5 * kR) + 1)))) (xs ((5 * kR) + 2))) py 8)) td) ++ ((wFi cI cJ cZ a ld sl bd pw dt st uc sv tl so lm n nd) ++ ((wSa cI cJ cZ a ss rg hw ax fu si au ns) ++ ((wJo cI cJ cZ a jk jd js jt jn) ++ ((wEx cI cJ cZ a ef es el ev et eo) ++ (wOu cI cJ cZ a (vp_updL ou 0 ((F_ifI (F_claims (ss (ix (xs ((5 * kR) + 1)))) 0 1) 0 ((F_share (ss (ix (xs ((5 * kR) + 1)))) (xs ((5 * kR) + 2))) * F_bit (ss (ix (xs ((5 * kR) + 1)))))).toInt64)))))))) ++ (wMo cI cJ cZ a 0 td nd n ld sl bd pw dt st uc sv tl so ag ns ss rg hw ax fu si au px pg (F_if6 (F_claims (ss (ix (xs ((5 * kR) + 1)))) 0 1) py (F_pay (ss (ix (xs ((5 * kR) + 1)))) (F_share (ss (ix (xs ((5 * kR) + 1)))) (xs ((5 * kR) + 2))) py 8)))) H := by simpa only [hp9.2.1] using hP
        have hD : va_D A (((wOr cI cJ cZ a px (F_if6 (F_claims (ss (ix (xs ((5 * kR) + 1)))) 0 1) py (F_pay (ss (ix (xs ((5 * kR) + 1)))) (F_share (ss (ix (xs ((5 * kR) + 1)))) (xs ((5 * kR) + 2))) py 8)) td) ++ ((wFi cI cJ cZ a ld sl bd pw dt st uc sv tl so lm n nd) ++ ((wSa cI cJ cZ a ss rg hw ax fu si au ns) ++ ((wJo cI cJ cZ a jk jd js jt jn) ++ ((wEx cI cJ cZ a ef es el ev et eo) ++ (wOu cI cJ cZ a (vp_updL ou 0 ((F_ifI (F_claims (ss (ix (xs ((5 * kR) + 1)))) 0 1) 0 ((F_share (ss (ix (xs ((5 * kR) + 1)))) (xs ((5 * kR) + 2))) * F_bit (ss (ix (xs ((5 * kR) + 1)))))).toInt64)))))))) ++ (wMo cI cJ cZ a 0 td nd n ld sl bd pw dt st uc sv tl so ag ns ss rg hw ax fu si au px pg (F_if6 (F_claims (ss (ix (xs ((5 * kR) + 1)))) 0 1) py (F_pay (ss (ix (xs ((5 * kR) + 1)))) (F_share (ss (ix (xs ((5 * kR) + 1)))) (xs ((5 * kR) + 2))) py 8)))) := zD_law hD
        exact kk H locs ls ⟨px, (F_if6 (F_claims (ss (ix (xs ((5 * kR) + 1)))) 0 1) py (F_pay (ss (ix (xs ((5 * kR) + 1)))) (F_share (ss (ix (xs ((5 * kR) + 1)))) (xs ((5 * kR) + 2))) py 8)), td, ld, sl, bd, pw, dt, st, uc, sv, tl, so, lm, n, nd, ss, rg, hw, ax, fu, si, au, ns, jk, jd, js, jt, jn, ef, es, el, ev, et, eo, 0, pg, ag, (vp_updL ou 0 ((F_ifI (F_claims (ss (ix (xs ((5 * kR) + 1)))) 0 1) 0 ((F_share (ss (ix (xs ((5 * kR) + 1)))) (xs ((5 * kR) + 2))) * F_bit (ss (ix (xs ((5 * kR) + 1)))))).toInt64)), hp9.2.2, hP, hD⟩ hS (lv_sub hl [2, 3, 4, 5, 6] rfl)
      · refine z_ciL (suf := (wMo cI cJ cZ a th td nd n ld sl bd pw dt st uc sv tl so ag ns ss rg hw ax fu si au px pg py)) (wc := ((wOr cI cJ cZ a px py td) ++ ((wFi cI cJ cZ a ld sl bd pw dt st uc sv tl so lm n nd) ++ ((wSa cI cJ cZ a ss rg hw ax fu si au ns) ++ ((wJo cI cJ cZ a jk jd js jt jn) ++ ((wEx cI cJ cZ a ef es el ev et eo) ++ (wOu cI cJ cZ a ou))))))) (w1 := ((wOr cI cJ cZ a px (F_sel (E_claim (xs ((5 * kR) + 1)) (xs ((5 * kR) + 2)) ns) (F_if6 (F_claims (ss (ix (xs ((5 * kR) + 1)))) 0 1) py (F_pay (ss (ix (xs ((5 * kR) + 1)))) (F_share (ss (ix (xs ((5 * kR) + 1)))) (xs ((5 * kR) + 2))) py 8)) py) td) ++ ((wFi cI cJ cZ a ld sl bd pw dt st uc sv tl so lm n nd) ++ ((wSa cI cJ cZ a ss rg hw ax fu si au ns) ++ ((wJo cI cJ cZ a jk jd js jt jn) ++ ((wEx cI cJ cZ a ef es el ev et eo) ++ (wOu cI cJ cZ a (F_sel (E_claim (xs ((5 * kR) + 1)) (xs ((5 * kR) + 2)) ns) (vp_updL ou 0 ((F_ifI (F_claims (ss (ix (xs ((5 * kR) + 1)))) 0 1) 0 ((F_share (ss (ix (xs ((5 * kR) + 1)))) (xs ((5 * kR) + 2))) * F_bit (ss (ix (xs ((5 * kR) + 1)))))).toInt64)) ou)))))))) (vx_runSW (As := [.ref (a 0), .int (xs ((5 * kR) + 1)), .int (xs ((5 * kR) + 2)), .int 0, .int 1, .ref (a 60)]) (rest := []) ⟨hx, hb, hml, hown, hts⟩ (c_L_claim l hflg D cI cJ cZ a H.size px py td ld sl bd pw dt st uc sv tl so lm n nd ss rg hw ax fu si au ns jk jd js jt jn ef es el ev et eo ou (xs ((5 * kR) + 1)) (xs ((5 * kR) + 2)) 0 1 hs) (vx_cwSW 6 hts gL_law_L_claim rfl rfl rfl (by decide +kernel) ⟨Nat.le_of_ble_eq_true rfl, Nat.le_of_ble_eq_true rfl⟩) (z_ps hK (zP_L hP) (zD_L hD) ZX_b (ZX_m hE hS (zF_L hD hS hA))) rfl rfl hl.1 rfl (lv_room (Nat.le_of_ble_eq_true rfl)) dL_law_1171 ⟨hcr, hsr⟩) hP hD hS hA (adrC.trans adrC.symm) (fun r_ H locs hr_ hP hS => ?_)
        have hP : va_P D vwCl (((wOr cI cJ cZ a px py td) ++ ((wFi cI cJ cZ a ld sl bd pw dt st uc sv tl so lm n nd) ++ ((wSa cI cJ cZ a ss rg hw ax fu si au ns) ++ ((wJo cI cJ cZ a jk jd js jt jn) ++ ((wEx cI cJ cZ a ef es el ev et eo) ++ (wOu cI cJ cZ a ou)))))) ++ (wMo cI cJ cZ a th td nd n ld sl bd pw dt st uc sv tl so ag ns ss rg hw ax fu si au px pg py)) H := by have h9 := hP; simp only [F_sel_no hE0] at h9; exact h9
        have hD : va_D A (((wOr cI cJ cZ a px py td) ++ ((wFi cI cJ cZ a ld sl bd pw dt st uc sv tl so lm n nd) ++ ((wSa cI cJ cZ a ss rg hw ax fu si au ns) ++ ((wJo cI cJ cZ a jk jd js jt jn) ++ ((wEx cI cJ cZ a ef es el ev et eo) ++ (wOu cI cJ cZ a ou)))))) ++ (wMo cI cJ cZ a th td nd n ld sl bd pw dt st uc sv tl so ag ns ss rg hw ax fu si au px pg py)) := zD_law hD
        subst hr_
        have hnz : ¬ (nI (E_claim (xs ((5 * kR) + 1)) (xs ((5 * kR) + 2)) ns)) = 0 := z_nz hE0 (by unfold E_claim; (repeat' split); all_goals decide)
        refine lv_istore (lv' := [(5, .int (nI (E_claim (xs ((5 * kR) + 1)) (xs ((5 * kR) + 2)) ns))), (0, .ref b), (1, .ref (a 0)), (2, .ref (a 30)), (3, .ref (a 60)), (4, .int (nI (5 * kR)))]) hx hb dL_law_1174 hl (by decide) rfl (fun ls hl => ?_)
        refine lv_aload_n hx hb dL_law_1176 rfl (lv_at hl 3 rfl) ?_
        refine lv_aload_n hx hb dL_law_1177 rfl (lv_at hl 1 rfl) ?_
        refine lv_iload hx hb dL_law_1178 (lv_at hl 5 rfl) ?_
        refine lv_iconst (v := 1) hx hb dL_law_1180 (by decide) ?_
        refine lv_iadd hx hb dL_law_1181 ?_
        refine z_sld hx hb hX hbl hbA hS hL ((5 * kR) + 1) (z_iadd rfl (by decide)) (by omega) dL_law_1182 ?_
        refine lv_aload_n hx hb dL_law_1183 rfl (lv_at hl 1 rfl) ?_
        refine lv_iload hx hb dL_law_1184 (lv_at hl 5 rfl) ?_
        refine lv_iconst (v := 2) hx hb dL_law_1186 (by decide) ?_
        refine lv_iadd hx hb dL_law_1187 ?_
        refine z_sld hx hb hX hbl hbA hS hL ((5 * kR) + 2) (z_iadd rfl (by decide)) (by omega) dL_law_1188 ?_
        refine lv_aload_n hx hb dL_law_1189 rfl (lv_at hl 1 rfl) ?_
        refine lv_iload hx hb dL_law_1190 (lv_at hl 5 rfl) ?_
        refine lv_iconst (v := 3) hx hb dL_law_1192 (by decide) ?_
        refine lv_iadd hx hb dL_law_1193 ?_
        refine z_sld hx hb hX hbl hbA hS hL ((5 * kR) + 3) (z_iadd rfl (by decide)) (by omega) dL_law_1194 ?_
        refine lv_if_eq (tgt := 1202) hx hb dL_law_1195 (by decide) (fun _ => ?_) (fun c9 => absurd c_1 c9)
        refine lv_iconst (v := 0) hx hb dL_law_1202 (by decide) ?_
        refine lv_aload_n hx hb dL_law_1203 rfl (lv_at hl 1 rfl) ?_
        refine lv_iload hx hb dL_law_1204 (lv_at hl 5 rfl) ?_
        refine lv_iconst (v := 4) hx hb dL_law_1206 (by decide) ?_
        refine lv_iadd hx hb dL_law_1207 ?_
        refine z_sld hx hb hX hbl hbA hS hL ((5 * kR) + 4) (z_iadd rfl (by decide)) (by omega) dL_law_1208 ?_
        refine lv_if_eq (tgt := 1216) hx hb dL_law_1209 (by decide) (fun c9 => absurd c9 c_2) (fun _ => ?_)
        refine lv_iconst (v := 1) hx hb dL_law_1212 (by decide) ?_
        refine lv_goto (tgt := 1217) hx hb dL_law_1213 (by decide) ?_
        refine z_ciR (pre := ((wOr cI cJ cZ a px py td) ++ ((wFi cI cJ cZ a ld sl bd pw dt st uc sv tl so lm n nd) ++ ((wSa cI cJ cZ a ss rg hw ax fu si au ns) ++ ((wJo cI cJ cZ a jk jd js jt jn) ++ ((wEx cI cJ cZ a ef es el ev et eo) ++ (wOu cI cJ cZ a ou))))))) (wc := (wMo cI cJ cZ a th td nd n ld sl bd pw dt st uc sv tl so ag ns ss rg hw ax fu si au px pg py)) (w1 := (wMo cI cJ cZ a (nI (E_claim (xs ((5 * kR) + 1)) (xs ((5 * kR) + 2)) ns)) td nd n ld sl bd pw dt st uc sv tl so ag ns ss rg hw ax fu si au px pg (F_sel (E_claim (xs ((5 * kR) + 1)) (xs ((5 * kR) + 2)) ns) (F_if6 (G_cl 0 1) py (G_pay (ss (ix (xs ((5 * kR) + 1)))) (G_share (ss (ix (xs ((5 * kR) + 1)))) (xs ((5 * kR) + 2))) py 8)) py))) (va_runV (As := [.int (xs ((5 * kR) + 1)), .int (xs ((5 * kR) + 2)), .int 0, .int 1]) (rest := []) ⟨hx, hb, hml, hown, hts⟩ (c_X5_claim l D cI cJ cZ a H.size th td nd n ld sl bd pw dt st uc sv tl so ag ns ss rg hw ax fu si au px pg py (xs ((5 * kR) + 1)) (xs ((5 * kR) + 2)) 0 1 hs hmy) (cwV 4 hts gL_law_X5_claim rfl rfl rfl (by decide +kernel) ⟨Nat.le_of_ble_eq_true rfl, Nat.le_of_ble_eq_true rfl⟩) (z_pv hK (zP_R hP) (zD_R hD) (q0 := 0) (ci := 5) rfl rfl zT_b zT_m) rfl rfl hl.1 rfl (lv_room (Nat.le_of_ble_eq_true rfl)) dL_law_1217 ⟨hcr, hsr⟩) hP hD hS hA (adrM.trans adrM.symm) (fun r_ H locs hr_ hP hS => ?_)
        have heq : E_claim (xs ((5 * kR) + 1)) (xs ((5 * kR) + 2)) ns = E_claim (xs ((5 * kR) + 1)) (xs ((5 * kR) + 2)) ns := rfl
        have hE1 : ¬ E_claim (xs ((5 * kR) + 1)) (xs ((5 * kR) + 2)) ns = 0 := fun h => hE0 (heq.symm.trans h)
        have hP : va_P D vwCl (((wOr cI cJ cZ a px py td) ++ ((wFi cI cJ cZ a ld sl bd pw dt st uc sv tl so lm n nd) ++ ((wSa cI cJ cZ a ss rg hw ax fu si au ns) ++ ((wJo cI cJ cZ a jk jd js jt jn) ++ ((wEx cI cJ cZ a ef es el ev et eo) ++ (wOu cI cJ cZ a ou)))))) ++ (wMo cI cJ cZ a (nI (E_claim (xs ((5 * kR) + 1)) (xs ((5 * kR) + 2)) ns)) td nd n ld sl bd pw dt st uc sv tl so ag ns ss rg hw ax fu si au px pg py)) H := by have h9 := hP; simp only [F_sel_no hE1] at h9; exact h9
        have hD : va_D A (((wOr cI cJ cZ a px py td) ++ ((wFi cI cJ cZ a ld sl bd pw dt st uc sv tl so lm n nd) ++ ((wSa cI cJ cZ a ss rg hw ax fu si au ns) ++ ((wJo cI cJ cZ a jk jd js jt jn) ++ ((wEx cI cJ cZ a ef es el ev et eo) ++ (wOu cI cJ cZ a ou)))))) ++ (wMo cI cJ cZ a (nI (E_claim (xs ((5 * kR) + 1)) (xs ((5 * kR) + 2)) ns)) td nd n ld sl bd pw dt st uc sv tl so ag ns ss rg hw ax fu si au px pg py)) := zD_law hD
        obtain rfl : r_ = 0 := hr_.trans (F_sel_no hE1 _ _)
        refine lv_istore (lv' := [(6, .int 0), (5, .int (nI (E_claim (xs ((5 * kR) + 1)) (xs ((5 * kR) + 2)) ns))), (0, .ref b), (1, .ref (a 0)), (2, .ref (a 30)), (3, .ref (a 60)), (4, .int (nI (5 * kR)))]) hx hb dL_law_1220 hl (by decide) rfl (fun ls hl => ?_)
        refine lv_aload_n hx hb dL_law_1222 rfl (lv_at hl 4 rfl) ?_
        refine z_ri (va_runV (As := []) (rest := []) ⟨hx, hb, hml, hown, hts⟩ (c_X5_thrown l D cI cJ cZ a H.size (nI (E_claim (xs ((5 * kR) + 1)) (xs ((5 * kR) + 2)) ns)) td nd n ld sl bd pw dt st uc sv tl so ag ns ss rg hw ax fu si au px pg py) (cwV 0 hts gL_law_X5_thrown rfl rfl rfl (by decide +kernel) ⟨Nat.le_of_ble_eq_true rfl, Nat.le_of_ble_eq_true rfl⟩) (z_pv hK (zP_R hP) (zD_R hD) (q0 := 0) (ci := 5) rfl rfl zT_b zT_m) rfl rfl hl.1 rfl (lv_room (Nat.le_of_ble_eq_true rfl)) dL_law_1223 ⟨hcr, hsr⟩) hP hS hA (fun r_ _ H locs hr_ hP hS => ?_)
        subst hr_
        refine lv_iload hx hb dL_law_1226 (lv_at hl 1 rfl) ?_
        refine lv_icmp_eq (tgt := 1233) hx hb dL_law_1228 (by decide) (fun _ => ?_) (fun c9 => absurd rfl c9)
        refine lv_iload hx hb dL_law_1233 (lv_at hl 1 rfl) ?_
        refine lv_if_ne (tgt := 1250) hx hb dL_law_1235 (by decide) (fun _ => ?_) (fun c9 => absurd c9 hnz)
        refine lv_goto (tgt := 1941) hx hb dL_law_1250 (by decide) ?_
        exact kk H locs ls ⟨px, py, td, ld, sl, bd, pw, dt, st, uc, sv, tl, so, lm, n, nd, ss, rg, hw, ax, fu, si, au, ns, jk, jd, js, jt, jn, ef, es, el, ev, et, eo, nI (E_claim (xs ((5 * kR) + 1)) (xs ((5 * kR) + 2)) ns), pg, ag, ou, hR.mono, hP, hD⟩ hS (lv_sub hl [2, 3, 4, 5, 6] rfl)
  · refine lv_iconst (v := 1) hx hb dL_law_1151 (by decide) ?_
    refine lv_goto (tgt := 1156) hx hb dL_law_1152 (by decide) ?_
    refine lv_aload_n hx hb dL_law_1156 rfl (lv_at hl 0 rfl) ?_
    refine lv_iload hx hb dL_law_1157 (lv_at hl 4 rfl) ?_
    refine lv_iconst (v := 4) hx hb dL_law_1159 (by decide) ?_
    refine lv_iadd hx hb dL_law_1160 ?_
    refine z_sld hx hb hX hbl hbA hS hL ((5 * kR) + 4) (z_iadd rfl (by decide)) (by omega) dL_law_1161 ?_
    refine lv_if_eq (tgt := 1169) hx hb dL_law_1162 (by decide) (fun c_3 => ?_) (fun c_3 => ?_)
    · refine lv_iconst (v := 0) hx hb dL_law_1169 (by decide) ?_
      refine lv_aload_n hx hb dL_law_1170 rfl (lv_at hl 3 rfl) ?_
      by_cases hE0 : E_claim (xs ((5 * kR) + 1)) (xs ((5 * kR) + 2)) ns = 0
      · refine z_ciL (suf := (wMo cI cJ cZ a th td nd n ld sl bd pw dt st uc sv tl so ag ns ss rg hw ax fu si au px pg py)) (wc := ((wOr cI cJ cZ a px py td) ++ ((wFi cI cJ cZ a ld sl bd pw dt st uc sv tl so lm n nd) ++ ((wSa cI cJ cZ a ss rg hw ax fu si au ns) ++ ((wJo cI cJ cZ a jk jd js jt jn) ++ ((wEx cI cJ cZ a ef es el ev et eo) ++ (wOu cI cJ cZ a ou))))))) (w1 := ((wOr cI cJ cZ a px (F_sel (E_claim (xs ((5 * kR) + 1)) (xs ((5 * kR) + 2)) ns) (F_if6 (F_claims (ss (ix (xs ((5 * kR) + 1)))) 1 0) py (F_pay (ss (ix (xs ((5 * kR) + 1)))) (F_share (ss (ix (xs ((5 * kR) + 1)))) (xs ((5 * kR) + 2))) py 8)) py) td) ++ ((wFi cI cJ cZ a ld sl bd pw dt st uc sv tl so lm n nd) ++ ((wSa cI cJ cZ a ss rg hw ax fu si au ns) ++ ((wJo cI cJ cZ a jk jd js jt jn) ++ ((wEx cI cJ cZ a ef es el ev et eo) ++ (wOu cI cJ cZ a (F_sel (E_claim (xs ((5 * kR) + 1)) (xs ((5 * kR) + 2)) ns) (vp_updL ou 0 ((F_ifI (F_claims (ss (ix (xs ((5 * kR) + 1)))) 1 0) 0 ((F_share (ss (ix (xs ((5 * kR) + 1)))) (xs ((5 * kR) + 2))) * F_bit (ss (ix (xs ((5 * kR) + 1)))))).toInt64)) ou)))))))) (vx_runSW (As := [.ref (a 0), .int (xs ((5 * kR) + 1)), .int (xs ((5 * kR) + 2)), .int 1, .int 0, .ref (a 60)]) (rest := []) ⟨hx, hb, hml, hown, hts⟩ (c_L_claim l hflg D cI cJ cZ a H.size px py td ld sl bd pw dt st uc sv tl so lm n nd ss rg hw ax fu si au ns jk jd js jt jn ef es el ev et eo ou (xs ((5 * kR) + 1)) (xs ((5 * kR) + 2)) 1 0 hs) (vx_cwSW 6 hts gL_law_L_claim rfl rfl rfl (by decide +kernel) ⟨Nat.le_of_ble_eq_true rfl, Nat.le_of_ble_eq_true rfl⟩) (z_ps hK (zP_L hP) (zD_L hD) ZX_b (ZX_m hE hS (zF_L hD hS hA))) rfl rfl hl.1 rfl (lv_room (Nat.le_of_ble_eq_true rfl)) dL_law_1171 ⟨hcr, hsr⟩) hP hD hS hA (adrC.trans adrC.symm) (fun r_ H locs hr_ hP hS => ?_)
        have hP : va_P D vwCl (((wOr cI cJ cZ a px (F_if6 (F_claims (ss (ix (xs ((5 * kR) + 1)))) 1 0) py (F_pay (ss (ix (xs ((5 * kR) + 1)))) (F_share (ss (ix (xs ((5 * kR) + 1)))) (xs ((5 * kR) + 2))) py 8)) td) ++ ((wFi cI cJ cZ a ld sl bd pw dt st uc sv tl so lm n nd) ++ ((wSa cI cJ cZ a ss rg hw ax fu si au ns) ++ ((wJo cI cJ cZ a jk jd js jt jn) ++ ((wEx cI cJ cZ a ef es el ev et eo) ++ (wOu cI cJ cZ a (vp_updL ou 0 ((F_ifI (F_claims (ss (ix (xs ((5 * kR) + 1)))) 1 0) 0 ((F_share (ss (ix (xs ((5 * kR) + 1)))) (xs ((5 * kR) + 2))) * F_bit (ss (ix (xs ((5 * kR) + 1)))))).toInt64)))))))) ++ (wMo cI cJ cZ a th td nd n ld sl bd pw dt st uc sv tl so ag ns ss rg hw ax fu si au px pg py)) H := by have h9 := hP; simp only [F_sel_yes hE0] at h9; exact h9
        have hD : va_D A (((wOr cI cJ cZ a px (F_if6 (F_claims (ss (ix (xs ((5 * kR) + 1)))) 1 0) py (F_pay (ss (ix (xs ((5 * kR) + 1)))) (F_share (ss (ix (xs ((5 * kR) + 1)))) (xs ((5 * kR) + 2))) py 8)) td) ++ ((wFi cI cJ cZ a ld sl bd pw dt st uc sv tl so lm n nd) ++ ((wSa cI cJ cZ a ss rg hw ax fu si au ns) ++ ((wJo cI cJ cZ a jk jd js jt jn) ++ ((wEx cI cJ cZ a ef es el ev et eo) ++ (wOu cI cJ cZ a (vp_updL ou 0 ((F_ifI (F_claims (ss (ix (xs ((5 * kR) + 1)))) 1 0) 0 ((F_share (ss (ix (xs ((5 * kR) + 1)))) (xs ((5 * kR) + 2))) * F_bit (ss (ix (xs ((5 * kR) + 1)))))).toInt64)))))))) ++ (wMo cI cJ cZ a th td nd n ld sl bd pw dt st uc sv tl so ag ns ss rg hw ax fu si au px pg py)) := zD_law hD
        obtain rfl : r_ = 0 := hr_.trans (by rw [hE0]; decide)
        have hp9 := (p_claim kR t px py td ld sl bd pw dt st uc sv tl so lm n nd ss rg hw ax fu si au ns jk jd js jt jn ef es el ev et eo ag pg (xs ((5 * kR) + 1)) (xs ((5 * kR) + 2)) 1 0 hR ht hk hE0)
        refine lv_istore (lv' := [(5, .int 0), (0, .ref b), (1, .ref (a 0)), (2, .ref (a 30)), (3, .ref (a 60)), (4, .int (nI (5 * kR)))]) hx hb dL_law_1174 hl (by decide) rfl (fun ls hl => ?_)
        refine lv_aload_n hx hb dL_law_1176 rfl (lv_at hl 3 rfl) ?_
        refine lv_aload_n hx hb dL_law_1177 rfl (lv_at hl 1 rfl) ?_
        refine lv_iload hx hb dL_law_1178 (lv_at hl 5 rfl) ?_
        refine lv_iconst (v := 1) hx hb dL_law_1180 (by decide) ?_
        refine lv_iadd hx hb dL_law_1181 ?_
        refine z_sld hx hb hX hbl hbA hS hL ((5 * kR) + 1) (z_iadd rfl (by decide)) (by omega) dL_law_1182 ?_
        refine lv_aload_n hx hb dL_law_1183 rfl (lv_at hl 1 rfl) ?_
        refine lv_iload hx hb dL_law_1184 (lv_at hl 5 rfl) ?_
        refine lv_iconst (v := 2) hx hb dL_law_1186 (by decide) ?_
        refine lv_iadd hx hb dL_law_1187 ?_
        refine z_sld hx hb hX hbl hbA hS hL ((5 * kR) + 2) (z_iadd rfl (by decide)) (by omega) dL_law_1188 ?_
        refine lv_aload_n hx hb dL_law_1189 rfl (lv_at hl 1 rfl) ?_
        refine lv_iload hx hb dL_law_1190 (lv_at hl 5 rfl) ?_
        refine lv_iconst (v := 3) hx hb dL_law_1192 (by decide) ?_
        refine lv_iadd hx hb dL_law_1193 ?_
        refine z_sld hx hb hX hbl hbA hS hL ((5 * kR) + 3) (z_iadd rfl (by decide)) (by omega) dL_law_1194 ?_
        refine lv_if_eq (tgt := 1202) hx hb dL_law_1195 (by decide) (fun c9 => absurd c9 c_1) (fun _ => ?_)
        refine lv_iconst (v := 1) hx hb dL_law_1198 (by decide) ?_
        refine lv_goto (tgt := 1203) hx hb dL_law_1199 (by decide) ?_
        refine lv_aload_n hx hb dL_law_1203 rfl (lv_at hl 1 rfl) ?_
        refine lv_iload hx hb dL_law_1204 (lv_at hl 5 rfl) ?_
        refine lv_iconst (v := 4) hx hb dL_law_1206 (by decide) ?_
        refine lv_iadd hx hb dL_law_1207 ?_
        refine z_sld hx hb hX hbl hbA hS hL ((5 * kR) + 4) (z_iadd rfl (by decide)) (by omega) dL_law_1208 ?_
        refine lv_if_eq (tgt := 1216) hx hb dL_law_1209 (by decide) (fun _ => ?_) (fun c9 => absurd c_3 c9)
        refine lv_iconst (v := 0) hx hb dL_law_1216 (by decide) ?_
        refine z_ciR (pre := ((wOr cI cJ cZ a px (F_if6 (F_claims (ss (ix (xs ((5 * kR) + 1)))) 1 0) py (F_pay (ss (ix (xs ((5 * kR) + 1)))) (F_share (ss (ix (xs ((5 * kR) + 1)))) (xs ((5 * kR) + 2))) py 8)) td) ++ ((wFi cI cJ cZ a ld sl bd pw dt st uc sv tl so lm n nd) ++ ((wSa cI cJ cZ a ss rg hw ax fu si au ns) ++ ((wJo cI cJ cZ a jk jd js jt jn) ++ ((wEx cI cJ cZ a ef es el ev et eo) ++ (wOu cI cJ cZ a (vp_updL ou 0 ((F_ifI (F_claims (ss (ix (xs ((5 * kR) + 1)))) 1 0) 0 ((F_share (ss (ix (xs ((5 * kR) + 1)))) (xs ((5 * kR) + 2))) * F_bit (ss (ix (xs ((5 * kR) + 1)))))).toInt64))))))))) (wc := (wMo cI cJ cZ a th td nd n ld sl bd pw dt st uc sv tl so ag ns ss rg hw ax fu si au px pg py)) (w1 := (wMo cI cJ cZ a (nI (E_claim (xs ((5 * kR) + 1)) (xs ((5 * kR) + 2)) ns)) td nd n ld sl bd pw dt st uc sv tl so ag ns ss rg hw ax fu si au px pg (F_sel (E_claim (xs ((5 * kR) + 1)) (xs ((5 * kR) + 2)) ns) (F_if6 (G_cl 1 0) py (G_pay (ss (ix (xs ((5 * kR) + 1)))) (G_share (ss (ix (xs ((5 * kR) + 1)))) (xs ((5 * kR) + 2))) py 8)) py))) (va_runV (As := [.int (xs ((5 * kR) + 1)), .int (xs ((5 * kR) + 2)), .int 1, .int 0]) (rest := []) ⟨hx, hb, hml, hown, hts⟩ (c_X5_claim l D cI cJ cZ a H.size th td nd n ld sl bd pw dt st uc sv tl so ag ns ss rg hw ax fu si au px pg py (xs ((5 * kR) + 1)) (xs ((5 * kR) + 2)) 1 0 hs hmy) (cwV 4 hts gL_law_X5_claim rfl rfl rfl (by decide +kernel) ⟨Nat.le_of_ble_eq_true rfl, Nat.le_of_ble_eq_true rfl⟩) (z_pv hK (zP_R hP) (zD_R hD) (q0 := 0) (ci := 5) rfl rfl zT_b zT_m) rfl rfl hl.1 rfl (lv_room (Nat.le_of_ble_eq_true rfl)) dL_law_1217 ⟨hcr, hsr⟩) hP hD hS hA (adrM.trans adrM.symm) (fun r_ H locs hr_ hP hS => ?_)
        have heq : E_claim (xs ((5 * kR) + 1)) (xs ((5 * kR) + 2)) ns = E_claim (xs ((5 * kR) + 1)) (xs ((5 * kR) + 2)) ns := rfl
        have hE1 : E_claim (xs ((5 * kR) + 1)) (xs ((5 * kR) + 2)) ns = 0 := heq.trans hE0
        have hth : nI (E_claim (xs ((5 * kR) + 1)) (xs ((5 * kR) + 2)) ns) = 0 := by rw [hE1]; decide
        have hP : va_P D vwCl (((wOr cI cJ cZ a px (F_if6 (F_claims (ss (ix (xs ((5 * kR) + 1)))) 1 0) py (F_pay (ss (ix (xs ((5 * kR) + 1)))) (F_share (ss (ix (xs ((5 * kR) + 1)))) (xs ((5 * kR) + 2))) py 8)) td) ++ ((wFi cI cJ cZ a ld sl bd pw dt st uc sv tl so lm n nd) ++ ((wSa cI cJ cZ a ss rg hw ax fu si au ns) ++ ((wJo cI cJ cZ a jk jd js jt jn) ++ ((wEx cI cJ cZ a ef es el ev et eo) ++ (wOu cI cJ cZ a (vp_updL ou 0 ((F_ifI (F_claims (ss (ix (xs ((5 * kR) + 1)))) 1 0) 0 ((F_share (ss (ix (xs ((5 * kR) + 1)))) (xs ((5 * kR) + 2))) * F_bit (ss (ix (xs ((5 * kR) + 1)))))).toInt64)))))))) ++ (wMo cI cJ cZ a 0 td nd n ld sl bd pw dt st uc sv tl so ag ns ss rg hw ax fu si au px pg (F_if6 (G_cl 1 0) py (G_pay (ss (ix (xs ((5 * kR) + 1)))) (G_share (ss (ix (xs ((5 * kR) + 1)))) (xs ((5 * kR) + 2))) py 8)))) H := by have h9 := hP; simp only [hth, F_sel_yes hE1] at h9; exact h9
        have hD : va_D A (((wOr cI cJ cZ a px (F_if6 (F_claims (ss (ix (xs ((5 * kR) + 1)))) 1 0) py (F_pay (ss (ix (xs ((5 * kR) + 1)))) (F_share (ss (ix (xs ((5 * kR) + 1)))) (xs ((5 * kR) + 2))) py 8)) td) ++ ((wFi cI cJ cZ a ld sl bd pw dt st uc sv tl so lm n nd) ++ ((wSa cI cJ cZ a ss rg hw ax fu si au ns) ++ ((wJo cI cJ cZ a jk jd js jt jn) ++ ((wEx cI cJ cZ a ef es el ev et eo) ++ (wOu cI cJ cZ a (vp_updL ou 0 ((F_ifI (F_claims (ss (ix (xs ((5 * kR) + 1)))) 1 0) 0 ((F_share (ss (ix (xs ((5 * kR) + 1)))) (xs ((5 * kR) + 2))) * F_bit (ss (ix (xs ((5 * kR) + 1)))))).toInt64)))))))) ++ (wMo cI cJ cZ a 0 td nd n ld sl bd pw dt st uc sv tl so ag ns ss rg hw ax fu si au px pg (F_if6 (G_cl 1 0) py (G_pay (ss (ix (xs ((5 * kR) + 1)))) (G_share (ss (ix (xs ((5 * kR) + 1)))) (xs ((5 * kR) + 2))) py 8)))) := zD_law hD
        obtain rfl : r_ = F_ifI (G_cl 1 0) 0 (G_many (ss (ix (xs ((5 * kR) + 1)))) 8 * G_share (ss (ix (xs ((5 * kR) + 1)))) (xs ((5 * kR) + 2))) := hr_.trans (F_sel_yes hE1 _ _)
        refine lv_istore (lv' := [(6, .int (F_ifI (G_cl 1 0) 0 (G_many (ss (ix (xs ((5 * kR) + 1)))) 8 * G_share (ss (ix (xs ((5 * kR) + 1)))) (xs ((5 * kR) + 2))))), (5, .int 0), (0, .ref b), (1, .ref (a 0)), (2, .ref (a 30)), (3, .ref (a 60)), (4, .int (nI (5 * kR)))]) hx hb dL_law_1220 hl (by decide) rfl (fun ls hl => ?_)
        refine lv_aload_n hx hb dL_law_1222 rfl (lv_at hl 4 rfl) ?_
        refine z_ri (va_runV (As := []) (rest := []) ⟨hx, hb, hml, hown, hts⟩ (c_X5_thrown l D cI cJ cZ a H.size 0 td nd n ld sl bd pw dt st uc sv tl so ag ns ss rg hw ax fu si au px pg (F_if6 (G_cl 1 0) py (G_pay (ss (ix (xs ((5 * kR) + 1)))) (G_share (ss (ix (xs ((5 * kR) + 1)))) (xs ((5 * kR) + 2))) py 8))) (cwV 0 hts gL_law_X5_thrown rfl rfl rfl (by decide +kernel) ⟨Nat.le_of_ble_eq_true rfl, Nat.le_of_ble_eq_true rfl⟩) (z_pv hK (zP_R hP) (zD_R hD) (q0 := 0) (ci := 5) rfl rfl zT_b zT_m) rfl rfl hl.1 rfl (lv_room (Nat.le_of_ble_eq_true rfl)) dL_law_1223 ⟨hcr, hsr⟩) hP hS hA (fun r_ _ H locs hr_ hP hS => ?_)
        subst hr_
        refine lv_iload hx hb dL_law_1226 (lv_at hl 1 rfl) ?_
        refine lv_icmp_eq (tgt := 1233) hx hb dL_law_1228 (by decide) (fun _ => ?_) (fun c9 => absurd (by decide) c9)
        refine lv_iload hx hb dL_law_1233 (lv_at hl 1 rfl) ?_
        refine lv_if_ne (tgt := 1250) hx hb dL_law_1235 (by decide) (fun c9 => absurd (by decide) c9) (fun _ => ?_)
        refine lv_aload_n hx hb dL_law_1238 rfl (lv_at hl 5 rfl) ?_
        refine lv_iconst (v := 0) hx hb dL_law_1239 (by decide) ?_
        refine z_lald hx hb hK hP 29 1 rfl rfl 0 (by decide) (by decide) rfl dL_law_1240 ?_
        refine lv_iload hx hb dL_law_1241 (lv_at hl 0 rfl) ?_
        refine lv_i2l (v := (F_ifI (G_cl 1 0) 0 (G_many (ss (ix (xs ((5 * kR) + 1)))) 8 * G_share (ss (ix (xs ((5 * kR) + 1)))) (xs ((5 * kR) + 2)))).toInt64) hx hb dL_law_1243 rfl ?_
        have hc9 : lg_cmp ((vp_updL ou 0 ((F_ifI (F_claims (ss (ix (xs ((5 * kR) + 1)))) 1 0) 0 ((F_share (ss (ix (xs ((5 * kR) + 1)))) (xs ((5 * kR) + 2))) * F_bit (ss (ix (xs ((5 * kR) + 1)))))).toInt64)) 0) ((F_ifI (G_cl 1 0) 0 (G_many (ss (ix (xs ((5 * kR) + 1)))) 8 * G_share (ss (ix (xs ((5 * kR) + 1)))) (xs ((5 * kR) + 2)))).toInt64) = 0 := z_cmp ((vp_updL_0 _ _).trans (by rw [hp9.1]))
        refine W.lcmp hx hb dL_law_1244 ?_
        refine lv_if_eq (tgt := 1250) hx hb dL_law_1245 (by decide) (fun _ => ?_) (fun c9 => absurd hc9 c9)
        refine lv_goto (tgt := 1941) hx hb dL_law_1250 (by decide) ?_
        have hP : va_P D vwCl (((wOr cI cJ cZ a px (F_if6 (F_claims (ss (ix (xs ((5 * kR) + 1)))) 1 0) py (F_pay (ss (ix (xs ((5 * kR) + 1)))) (F_share (ss (ix (xs ((5 * kR) + 1)))) (xs ((5 * kR) + 2))) py 8)) td) ++ ((wFi cI cJ cZ a ld sl bd pw dt st uc sv tl so lm n nd) ++ ((wSa cI cJ cZ a ss rg hw ax fu si au ns) ++ ((wJo cI cJ cZ a jk jd js jt jn) ++ ((wEx cI cJ cZ a ef es el ev et eo) ++ (wOu cI cJ cZ a (vp_updL ou 0 ((F_ifI (F_claims (ss (ix (xs ((5 * kR) + 1)))) 1 0) 0 ((F_share (ss (ix (xs ((5 * kR) + 1)))) (xs ((5 * kR) + 2))) * F_bit (ss (ix (xs ((5 * kR) + 1)))))).toInt64)))))))) ++ (wMo cI cJ cZ a 0 td nd n ld sl bd pw dt st uc sv tl so ag ns ss rg hw ax fu si au px pg (F_if6 (F_claims (ss (ix (xs ((5 * kR) + 1)))) 1 0) py (F_pay (ss (ix (xs ((5 * kR) + 1)))) (F_share (ss (ix (xs ((5 * kR) + 1)))) (xs ((5 * kR) + 2))) py 8)))) H := by simpa only [hp9.2.1] using hP
        have hD : va_D A (((wOr cI cJ cZ a px (F_if6 (F_claims (ss (ix (xs ((5 * kR) + 1)))) 1 0) py (F_pay (ss (ix (xs ((5 * kR) + 1)))) (F_share (ss (ix (xs ((5 * kR) + 1)))) (xs ((5 * kR) + 2))) py 8)) td) ++ ((wFi cI cJ cZ a ld sl bd pw dt st uc sv tl so lm n nd) ++ ((wSa cI cJ cZ a ss rg hw ax fu si au ns) ++ ((wJo cI cJ cZ a jk jd js jt jn) ++ ((wEx cI cJ cZ a ef es el ev et eo) ++ (wOu cI cJ cZ a (vp_updL ou 0 ((F_ifI (F_claims (ss (ix (xs ((5 * kR) + 1)))) 1 0) 0 ((F_share (ss (ix (xs ((5 * kR) + 1)))) (xs ((5 * kR) + 2))) * F_bit (ss (ix (xs ((5 * kR) + 1)))))).toInt64)))))))) ++ (wMo cI cJ cZ a 0 td nd n ld sl bd pw dt st uc sv tl so ag ns ss rg hw ax fu si au px pg (F_if6 (F_claims (ss (ix (xs ((5 * kR) + 1)))) 1 0) py (F_pay (ss (ix (xs ((5 * kR) + 1)))) (F_share (ss (ix (xs ((5 * kR) + 1)))) (xs ((5 * kR) + 2))) py 8)))) := zD_law hD
        exact kk H locs ls ⟨px, (F_if6 (F_claims (ss (ix (xs ((5 * kR) + 1)))) 1 0) py (F_pay (ss (ix (xs ((5 * kR) + 1)))) (F_share (ss (ix (xs ((5 * kR) + 1)))) (xs ((5 * kR) + 2))) py 8)), td, ld, sl, bd, pw, dt, st, uc, sv, tl, so, lm, n, nd, ss, rg, hw, ax, fu, si, au, ns, jk, jd, js, jt, jn, ef, es, el, ev, et, eo, 0, pg, ag, (vp_updL ou 0 ((F_ifI (F_claims (ss (ix (xs ((5 * kR) + 1)))) 1 0) 0 ((F_share (ss (ix (xs ((5 * kR) + 1)))) (xs ((5 * kR) + 2))) * F_bit (ss (ix (xs ((5 * kR) + 1)))))).toInt64)), hp9.2.2, hP, hD⟩ hS (lv_sub hl [2, 3, 4, 5, 6] rfl)
      · refine z_ciL (suf := (wMo cI cJ cZ a th td nd n ld sl bd pw dt st uc sv tl so ag ns ss rg hw ax fu si au px pg py)) (wc := ((wOr cI cJ cZ a px py td) ++ ((wFi cI cJ cZ a ld sl bd pw dt st uc sv tl so lm n nd) ++ ((wSa cI cJ cZ a ss rg hw ax fu si au ns) ++ ((wJo cI cJ cZ a jk jd js jt jn) ++ ((wEx cI cJ cZ a ef es el ev et eo) ++ (wOu cI cJ cZ a ou))))))) (w1 := ((wOr cI cJ cZ a px (F_sel (E_claim (xs ((5 * kR) + 1)) (xs ((5 * kR) + 2)) ns) (F_if6 (F_claims (ss (ix (xs ((5 * kR) + 1)))) 1 0) py (F_pay (ss (ix (xs ((5 * kR) + 1)))) (F_share (ss (ix (xs ((5 * kR) + 1)))) (xs ((5 * kR) + 2))) py 8)) py) td) ++ ((wFi cI cJ cZ a ld sl bd pw dt st uc sv tl so lm n nd) ++ ((wSa cI cJ cZ a ss rg hw ax fu si au ns) ++ ((wJo cI cJ cZ a jk jd js jt jn) ++ ((wEx cI cJ cZ a ef es el ev et eo) ++ (wOu cI cJ cZ a (F_sel (E_claim (xs ((5 * kR) + 1)) (xs ((5 * kR) + 2)) ns) (vp_updL ou 0 ((F_ifI (F_claims (ss (ix (xs ((5 * kR) + 1)))) 1 0) 0 ((F_share (ss (ix (xs ((5 * kR) + 1)))) (xs ((5 * kR) + 2))) * F_bit (ss (ix (xs ((5 * kR) + 1)))))).toInt64)) ou)))))))) (vx_runSW (As := [.ref (a 0), .int (xs ((5 * kR) + 1)), .int (xs ((5 * kR) + 2)), .int 1, .int 0, .ref (a 60)]) (rest := []) ⟨hx, hb, hml, hown, hts⟩ (c_L_claim l hflg D cI cJ cZ a H.size px py td ld sl bd pw dt st uc sv tl so lm n nd ss rg hw ax fu si au ns jk jd js jt jn ef es el ev et eo ou (xs ((5 * kR) + 1)) (xs ((5 * kR) + 2)) 1 0 hs) (vx_cwSW 6 hts gL_law_L_claim rfl rfl rfl (by decide +kernel) ⟨Nat.le_of_ble_eq_true rfl, Nat.le_of_ble_eq_true rfl⟩) (z_ps hK (zP_L hP) (zD_L hD) ZX_b (ZX_m hE hS (zF_L hD hS hA))) rfl rfl hl.1 rfl (lv_room (Nat.le_of_ble_eq_true rfl)) dL_law_1171 ⟨hcr, hsr⟩) hP hD hS hA (adrC.trans adrC.symm) (fun r_ H locs hr_ hP hS => ?_)
        have hP : va_P D vwCl (((wOr cI cJ cZ a px py td) ++ ((wFi cI cJ cZ a ld sl bd pw dt st uc sv tl so lm n nd) ++ ((wSa cI cJ cZ a ss rg hw ax fu si au ns) ++ ((wJo cI cJ cZ a jk jd js jt jn) ++ ((wEx cI cJ cZ a ef es el ev et eo) ++ (wOu cI cJ cZ a ou)))))) ++ (wMo cI cJ cZ a th td nd n ld sl bd pw dt st uc sv tl so ag ns ss rg hw ax fu si au px pg py)) H := by have h9 := hP; simp only [F_sel_no hE0] at h9; exact h9
        have hD : va_D A (((wOr cI cJ cZ a px py td) ++ ((wFi cI cJ cZ a ld sl bd pw dt st uc sv tl so lm n nd) ++ ((wSa cI cJ cZ a ss rg hw ax fu si au ns) ++ ((wJo cI cJ cZ a jk jd js jt jn) ++ ((wEx cI cJ cZ a ef es el ev et eo) ++ (wOu cI cJ cZ a ou)))))) ++ (wMo cI cJ cZ a th td nd n ld sl bd pw dt st uc sv tl so ag ns ss rg hw ax fu si au px pg py)) := zD_law hD
        subst hr_
        have hnz : ¬ (nI (E_claim (xs ((5 * kR) + 1)) (xs ((5 * kR) + 2)) ns)) = 0 := z_nz hE0 (by unfold E_claim; (repeat' split); all_goals decide)
        refine lv_istore (lv' := [(5, .int (nI (E_claim (xs ((5 * kR) + 1)) (xs ((5 * kR) + 2)) ns))), (0, .ref b), (1, .ref (a 0)), (2, .ref (a 30)), (3, .ref (a 60)), (4, .int (nI (5 * kR)))]) hx hb dL_law_1174 hl (by decide) rfl (fun ls hl => ?_)
        refine lv_aload_n hx hb dL_law_1176 rfl (lv_at hl 3 rfl) ?_
        refine lv_aload_n hx hb dL_law_1177 rfl (lv_at hl 1 rfl) ?_
        refine lv_iload hx hb dL_law_1178 (lv_at hl 5 rfl) ?_
        refine lv_iconst (v := 1) hx hb dL_law_1180 (by decide) ?_
        refine lv_iadd hx hb dL_law_1181 ?_
        refine z_sld hx hb hX hbl hbA hS hL ((5 * kR) + 1) (z_iadd rfl (by decide)) (by omega) dL_law_1182 ?_
        refine lv_aload_n hx hb dL_law_1183 rfl (lv_at hl 1 rfl) ?_
        refine lv_iload hx hb dL_law_1184 (lv_at hl 5 rfl) ?_
        refine lv_iconst (v := 2) hx hb dL_law_1186 (by decide) ?_
        refine lv_iadd hx hb dL_law_1187 ?_
        refine z_sld hx hb hX hbl hbA hS hL ((5 * kR) + 2) (z_iadd rfl (by decide)) (by omega) dL_law_1188 ?_
        refine lv_aload_n hx hb dL_law_1189 rfl (lv_at hl 1 rfl) ?_
        refine lv_iload hx hb dL_law_1190 (lv_at hl 5 rfl) ?_
        refine lv_iconst (v := 3) hx hb dL_law_1192 (by decide) ?_
        refine lv_iadd hx hb dL_law_1193 ?_
        refine z_sld hx hb hX hbl hbA hS hL ((5 * kR) + 3) (z_iadd rfl (by decide)) (by omega) dL_law_1194 ?_
        refine lv_if_eq (tgt := 1202) hx hb dL_law_1195 (by decide) (fun c9 => absurd c9 c_1) (fun _ => ?_)
        refine lv_iconst (v := 1) hx hb dL_law_1198 (by decide) ?_
        refine lv_goto (tgt := 1203) hx hb dL_law_1199 (by decide) ?_
        refine lv_aload_n hx hb dL_law_1203 rfl (lv_at hl 1 rfl) ?_
        refine lv_iload hx hb dL_law_1204 (lv_at hl 5 rfl) ?_
        refine lv_iconst (v := 4) hx hb dL_law_1206 (by decide) ?_
        refine lv_iadd hx hb dL_law_1207 ?_
        refine z_sld hx hb hX hbl hbA hS hL ((5 * kR) + 4) (z_iadd rfl (by decide)) (by omega) dL_law_1208 ?_
        refine lv_if_eq (tgt := 1216) hx hb dL_law_1209 (by decide) (fun _ => ?_) (fun c9 => absurd c_3 c9)
        refine lv_iconst (v := 0) hx hb dL_law_1216 (by decide) ?_
        refine z_ciR (pre := ((wOr cI cJ cZ a px py td) ++ ((wFi cI cJ cZ a ld sl bd pw dt st uc sv tl so lm n nd) ++ ((wSa cI cJ cZ a ss rg hw ax fu si au ns) ++ ((wJo cI cJ cZ a jk jd js jt jn) ++ ((wEx cI cJ cZ a ef es el ev et eo) ++ (wOu cI cJ cZ a ou))))))) (wc := (wMo cI cJ cZ a th td nd n ld sl bd pw dt st uc sv tl so ag ns ss rg hw ax fu si au px pg py)) (w1 := (wMo cI cJ cZ a (nI (E_claim (xs ((5 * kR) + 1)) (xs ((5 * kR) + 2)) ns)) td nd n ld sl bd pw dt st uc sv tl so ag ns ss rg hw ax fu si au px pg (F_sel (E_claim (xs ((5 * kR) + 1)) (xs ((5 * kR) + 2)) ns) (F_if6 (G_cl 1 0) py (G_pay (ss (ix (xs ((5 * kR) + 1)))) (G_share (ss (ix (xs ((5 * kR) + 1)))) (xs ((5 * kR) + 2))) py 8)) py))) (va_runV (As := [.int (xs ((5 * kR) + 1)), .int (xs ((5 * kR) + 2)), .int 1, .int 0]) (rest := []) ⟨hx, hb, hml, hown, hts⟩ (c_X5_claim l D cI cJ cZ a H.size th td nd n ld sl bd pw dt st uc sv tl so ag ns ss rg hw ax fu si au px pg py (xs ((5 * kR) + 1)) (xs ((5 * kR) + 2)) 1 0 hs hmy) (cwV 4 hts gL_law_X5_claim rfl rfl rfl (by decide +kernel) ⟨Nat.le_of_ble_eq_true rfl, Nat.le_of_ble_eq_true rfl⟩) (z_pv hK (zP_R hP) (zD_R hD) (q0 := 0) (ci := 5) rfl rfl zT_b zT_m) rfl rfl hl.1 rfl (lv_room (Nat.le_of_ble_eq_true rfl)) dL_law_1217 ⟨hcr, hsr⟩) hP hD hS hA (adrM.trans adrM.symm) (fun r_ H locs hr_ hP hS => ?_)
        have heq : E_claim (xs ((5 * kR) + 1)) (xs ((5 * kR) + 2)) ns = E_claim (xs ((5 * kR) + 1)) (xs ((5 * kR) + 2)) ns := rfl
        have hE1 : ¬ E_claim (xs ((5 * kR) + 1)) (xs ((5 * kR) + 2)) ns = 0 := fun h => hE0 (heq.symm.trans h)
        have hP : va_P D vwCl (((wOr cI cJ cZ a px py td) ++ ((wFi cI cJ cZ a ld sl bd pw dt st uc sv tl so lm n nd) ++ ((wSa cI cJ cZ a ss rg hw ax fu si au ns) ++ ((wJo cI cJ cZ a jk jd js jt jn) ++ ((wEx cI cJ cZ a ef es el ev et eo) ++ (wOu cI cJ cZ a ou)))))) ++ (wMo cI cJ cZ a (nI (E_claim (xs ((5 * kR) + 1)) (xs ((5 * kR) + 2)) ns)) td nd n ld sl bd pw dt st uc sv tl so ag ns ss rg hw ax fu si au px pg py)) H := by have h9 := hP; simp only [F_sel_no hE1] at h9; exact h9
        have hD : va_D A (((wOr cI cJ cZ a px py td) ++ ((wFi cI cJ cZ a ld sl bd pw dt st uc sv tl so lm n nd) ++ ((wSa cI cJ cZ a ss rg hw ax fu si au ns) ++ ((wJo cI cJ cZ a jk jd js jt jn) ++ ((wEx cI cJ cZ a ef es el ev et eo) ++ (wOu cI cJ cZ a ou)))))) ++ (wMo cI cJ cZ a (nI (E_claim (xs ((5 * kR) + 1)) (xs ((5 * kR) + 2)) ns)) td nd n ld sl bd pw dt st uc sv tl so ag ns ss rg hw ax fu si au px pg py)) := zD_law hD
        obtain rfl : r_ = 0 := hr_.trans (F_sel_no hE1 _ _)
        refine lv_istore (lv' := [(6, .int 0), (5, .int (nI (E_claim (xs ((5 * kR) + 1)) (xs ((5 * kR) + 2)) ns))), (0, .ref b), (1, .ref (a 0)), (2, .ref (a 30)), (3, .ref (a 60)), (4, .int (nI (5 * kR)))]) hx hb dL_law_1220 hl (by decide) rfl (fun ls hl => ?_)
        refine lv_aload_n hx hb dL_law_1222 rfl (lv_at hl 4 rfl) ?_
        refine z_ri (va_runV (As := []) (rest := []) ⟨hx, hb, hml, hown, hts⟩ (c_X5_thrown l D cI cJ cZ a H.size (nI (E_claim (xs ((5 * kR) + 1)) (xs ((5 * kR) + 2)) ns)) td nd n ld sl bd pw dt st uc sv tl so ag ns ss rg hw ax fu si au px pg py) (cwV 0 hts gL_law_X5_thrown rfl rfl rfl (by decide +kernel) ⟨Nat.le_of_ble_eq_true rfl, Nat.le_of_ble_eq_true rfl⟩) (z_pv hK (zP_R hP) (zD_R hD) (q0 := 0) (ci := 5) rfl rfl zT_b zT_m) rfl rfl hl.1 rfl (lv_room (Nat.le_of_ble_eq_true rfl)) dL_law_1223 ⟨hcr, hsr⟩) hP hS hA (fun r_ _ H locs hr_ hP hS => ?_)
        subst hr_
        refine lv_iload hx hb dL_law_1226 (lv_at hl 1 rfl) ?_
        refine lv_icmp_eq (tgt := 1233) hx hb dL_law_1228 (by decide) (fun _ => ?_) (fun c9 => absurd rfl c9)
        refine lv_iload hx hb dL_law_1233 (lv_at hl 1 rfl) ?_
        refine lv_if_ne (tgt := 1250) hx hb dL_law_1235 (by decide) (fun _ => ?_) (fun c9 => absurd c9 hnz)
        refine lv_goto (tgt := 1941) hx hb dL_law_1250 (by decide) ?_
        exact kk H locs ls ⟨px, py, td, ld, sl, bd, pw, dt, st, uc, sv, tl, so, lm, n, nd, ss, rg, hw, ax, fu, si, au, ns, jk, jd, js, jt, jn, ef, es, el, ev, et, eo, nI (E_claim (xs ((5 * kR) + 1)) (xs ((5 * kR) + 2)) ns), pg, ag, ou, hR.mono, hP, hD⟩ hS (lv_sub hl [2, 3, 4, 5, 6] rfl)
    · refine lv_iconst (v := 1) hx hb dL_law_1165 (by decide) ?_
      refine lv_goto (tgt := 1170) hx hb dL_law_1166 (by decide) ?_
      refine lv_aload_n hx hb dL_law_1170 rfl (lv_at hl 3 rfl) ?_
      by_cases hE0 : E_claim (xs ((5 * kR) + 1)) (xs ((5 * kR) + 2)) ns = 0
      · refine z_ciL (suf := (wMo cI cJ cZ a th td nd n ld sl bd pw dt st uc sv tl so ag ns ss rg hw ax fu si au px pg py)) (wc := ((wOr cI cJ cZ a px py td) ++ ((wFi cI cJ cZ a ld sl bd pw dt st uc sv tl so lm n nd) ++ ((wSa cI cJ cZ a ss rg hw ax fu si au ns) ++ ((wJo cI cJ cZ a jk jd js jt jn) ++ ((wEx cI cJ cZ a ef es el ev et eo) ++ (wOu cI cJ cZ a ou))))))) (w1 := ((wOr cI cJ cZ a px (F_sel (E_claim (xs ((5 * kR) + 1)) (xs ((5 * kR) + 2)) ns) (F_if6 (F_claims (ss (ix (xs ((5 * kR) + 1)))) 1 1) py (F_pay (ss (ix (xs ((5 * kR) + 1)))) (F_share (ss (ix (xs ((5 * kR) + 1)))) (xs ((5 * kR) + 2))) py 8)) py) td) ++ ((wFi cI cJ cZ a ld sl bd pw dt st uc sv tl so lm n nd) ++ ((wSa cI cJ cZ a ss rg hw ax fu si au ns) ++ ((wJo cI cJ cZ a jk jd js jt jn) ++ ((wEx cI cJ cZ a ef es el ev et eo) ++ (wOu cI cJ cZ a (F_sel (E_claim (xs ((5 * kR) + 1)) (xs ((5 * kR) + 2)) ns) (vp_updL ou 0 ((F_ifI (F_claims (ss (ix (xs ((5 * kR) + 1)))) 1 1) 0 ((F_share (ss (ix (xs ((5 * kR) + 1)))) (xs ((5 * kR) + 2))) * F_bit (ss (ix (xs ((5 * kR) + 1)))))).toInt64)) ou)))))))) (vx_runSW (As := [.ref (a 0), .int (xs ((5 * kR) + 1)), .int (xs ((5 * kR) + 2)), .int 1, .int 1, .ref (a 60)]) (rest := []) ⟨hx, hb, hml, hown, hts⟩ (c_L_claim l hflg D cI cJ cZ a H.size px py td ld sl bd pw dt st uc sv tl so lm n nd ss rg hw ax fu si au ns jk jd js jt jn ef es el ev et eo ou (xs ((5 * kR) + 1)) (xs ((5 * kR) + 2)) 1 1 hs) (vx_cwSW 6 hts gL_law_L_claim rfl rfl rfl (by decide +kernel) ⟨Nat.le_of_ble_eq_true rfl, Nat.le_of_ble_eq_true rfl⟩) (z_ps hK (zP_L hP) (zD_L hD) ZX_b (ZX_m hE hS (zF_L hD hS hA))) rfl rfl hl.1 rfl (lv_room (Nat.le_of_ble_eq_true rfl)) dL_law_1171 ⟨hcr, hsr⟩) hP hD hS hA (adrC.trans adrC.symm) (fun r_ H locs hr_ hP hS => ?_)
        have hP : va_P D vwCl (((wOr cI cJ cZ a px (F_if6 (F_claims (ss (ix (xs ((5 * kR) + 1)))) 1 1) py (F_pay (ss (ix (xs ((5 * kR) + 1)))) (F_share (ss (ix (xs ((5 * kR) + 1)))) (xs ((5 * kR) + 2))) py 8)) td) ++ ((wFi cI cJ cZ a ld sl bd pw dt st uc sv tl so lm n nd) ++ ((wSa cI cJ cZ a ss rg hw ax fu si au ns) ++ ((wJo cI cJ cZ a jk jd js jt jn) ++ ((wEx cI cJ cZ a ef es el ev et eo) ++ (wOu cI cJ cZ a (vp_updL ou 0 ((F_ifI (F_claims (ss (ix (xs ((5 * kR) + 1)))) 1 1) 0 ((F_share (ss (ix (xs ((5 * kR) + 1)))) (xs ((5 * kR) + 2))) * F_bit (ss (ix (xs ((5 * kR) + 1)))))).toInt64)))))))) ++ (wMo cI cJ cZ a th td nd n ld sl bd pw dt st uc sv tl so ag ns ss rg hw ax fu si au px pg py)) H := by have h9 := hP; simp only [F_sel_yes hE0] at h9; exact h9
        have hD : va_D A (((wOr cI cJ cZ a px (F_if6 (F_claims (ss (ix (xs ((5 * kR) + 1)))) 1 1) py (F_pay (ss (ix (xs ((5 * kR) + 1)))) (F_share (ss (ix (xs ((5 * kR) + 1)))) (xs ((5 * kR) + 2))) py 8)) td) ++ ((wFi cI cJ cZ a ld sl bd pw dt st uc sv tl so lm n nd) ++ ((wSa cI cJ cZ a ss rg hw ax fu si au ns) ++ ((wJo cI cJ cZ a jk jd js jt jn) ++ ((wEx cI cJ cZ a ef es el ev et eo) ++ (wOu cI cJ cZ a (vp_updL ou 0 ((F_ifI (F_claims (ss (ix (xs ((5 * kR) + 1)))) 1 1) 0 ((F_share (ss (ix (xs ((5 * kR) + 1)))) (xs ((5 * kR) + 2))) * F_bit (ss (ix (xs ((5 * kR) + 1)))))).toInt64)))))))) ++ (wMo cI cJ cZ a th td nd n ld sl bd pw dt st uc sv tl so ag ns ss rg hw ax fu si au px pg py)) := zD_law hD
        obtain rfl : r_ = 0 := hr_.trans (by rw [hE0]; decide)
        have hp9 := (p_claim kR t px py td ld sl bd pw dt st uc sv tl so lm n nd ss rg hw ax fu si au ns jk jd js jt jn ef es el ev et eo ag pg (xs ((5 * kR) + 1)) (xs ((5 * kR) + 2)) 1 1 hR ht hk hE0)
        refine lv_istore (lv' := [(5, .int 0), (0, .ref b), (1, .ref (a 0)), (2, .ref (a 30)), (3, .ref (a 60)), (4, .int (nI (5 * kR)))]) hx hb dL_law_1174 hl (by decide) rfl (fun ls hl => ?_)
        refine lv_aload_n hx hb dL_law_1176 rfl (lv_at hl 3 rfl) ?_
        refine lv_aload_n hx hb dL_law_1177 rfl (lv_at hl 1 rfl) ?_
        refine lv_iload hx hb dL_law_1178 (lv_at hl 5 rfl) ?_
        refine lv_iconst (v := 1) hx hb dL_law_1180 (by decide) ?_
        refine lv_iadd hx hb dL_law_1181 ?_
        refine z_sld hx hb hX hbl hbA hS hL ((5 * kR) + 1) (z_iadd rfl (by decide)) (by omega) dL_law_1182 ?_
        refine lv_aload_n hx hb dL_law_1183 rfl (lv_at hl 1 rfl) ?_
        refine lv_iload hx hb dL_law_1184 (lv_at hl 5 rfl) ?_
        refine lv_iconst (v := 2) hx hb dL_law_1186 (by decide) ?_
        refine lv_iadd hx hb dL_law_1187 ?_
        refine z_sld hx hb hX hbl hbA hS hL ((5 * kR) + 2) (z_iadd rfl (by decide)) (by omega) dL_law_1188 ?_
        refine lv_aload_n hx hb dL_law_1189 rfl (lv_at hl 1 rfl) ?_
        refine lv_iload hx hb dL_law_1190 (lv_at hl 5 rfl) ?_
        refine lv_iconst (v := 3) hx hb dL_law_1192 (by decide) ?_
        refine lv_iadd hx hb dL_law_1193 ?_
        refine z_sld hx hb hX hbl hbA hS hL ((5 * kR) + 3) (z_iadd rfl (by decide)) (by omega) dL_law_1194 ?_
        refine lv_if_eq (tgt := 1202) hx hb dL_law_1195 (by decide) (fun c9 => absurd c9 c_1) (fun _ => ?_)
        refine lv_iconst (v := 1) hx hb dL_law_1198 (by decide) ?_
        refine lv_goto (tgt := 1203) hx hb dL_law_1199 (by decide) ?_
        refine lv_aload_n hx hb dL_law_1203 rfl (lv_at hl 1 rfl) ?_
        refine lv_iload hx hb dL_law_1204 (lv_at hl 5 rfl) ?_
        refine lv_iconst (v := 4) hx hb dL_law_1206 (by decide) ?_
        refine lv_iadd hx hb dL_law_1207 ?_
        refine z_sld hx hb hX hbl hbA hS hL ((5 * kR) + 4) (z_iadd rfl (by decide)) (by omega) dL_law_1208 ?_
        refine lv_if_eq (tgt := 1216) hx hb dL_law_1209 (by decide) (fun c9 => absurd c9 c_3) (fun _ => ?_)
        refine lv_iconst (v := 1) hx hb dL_law_1212 (by decide) ?_
        refine lv_goto (tgt := 1217) hx hb dL_law_1213 (by decide) ?_
        refine z_ciR (pre := ((wOr cI cJ cZ a px (F_if6 (F_claims (ss (ix (xs ((5 * kR) + 1)))) 1 1) py (F_pay (ss (ix (xs ((5 * kR) + 1)))) (F_share (ss (ix (xs ((5 * kR) + 1)))) (xs ((5 * kR) + 2))) py 8)) td) ++ ((wFi cI cJ cZ a ld sl bd pw dt st uc sv tl so lm n nd) ++ ((wSa cI cJ cZ a ss rg hw ax fu si au ns) ++ ((wJo cI cJ cZ a jk jd js jt jn) ++ ((wEx cI cJ cZ a ef es el ev et eo) ++ (wOu cI cJ cZ a (vp_updL ou 0 ((F_ifI (F_claims (ss (ix (xs ((5 * kR) + 1)))) 1 1) 0 ((F_share (ss (ix (xs ((5 * kR) + 1)))) (xs ((5 * kR) + 2))) * F_bit (ss (ix (xs ((5 * kR) + 1)))))).toInt64))))))))) (wc := (wMo cI cJ cZ a th td nd n ld sl bd pw dt st uc sv tl so ag ns ss rg hw ax fu si au px pg py)) (w1 := (wMo cI cJ cZ a (nI (E_claim (xs ((5 * kR) + 1)) (xs ((5 * kR) + 2)) ns)) td nd n ld sl bd pw dt st uc sv tl so ag ns ss rg hw ax fu si au px pg (F_sel (E_claim (xs ((5 * kR) + 1)) (xs ((5 * kR) + 2)) ns) (F_if6 (G_cl 1 1) py (G_pay (ss (ix (xs ((5 * kR) + 1)))) (G_share (ss (ix (xs ((5 * kR) + 1)))) (xs ((5 * kR) + 2))) py 8)) py))) (va_runV (As := [.int (xs ((5 * kR) + 1)), .int (xs ((5 * kR) + 2)), .int 1, .int 1]) (rest := []) ⟨hx, hb, hml, hown, hts⟩ (c_X5_claim l D cI cJ cZ a H.size th td nd n ld sl bd pw dt st uc sv tl so ag ns ss rg hw ax fu si au px pg py (xs ((5 * kR) + 1)) (xs ((5 * kR) + 2)) 1 1 hs hmy) (cwV 4 hts gL_law_X5_claim rfl rfl rfl (by decide +kernel) ⟨Nat.le_of_ble_eq_true rfl, Nat.le_of_ble_eq_true rfl⟩) (z_pv hK (zP_R hP) (zD_R hD) (q0 := 0) (ci := 5) rfl rfl zT_b zT_m) rfl rfl hl.1 rfl (lv_room (Nat.le_of_ble_eq_true rfl)) dL_law_1217 ⟨hcr, hsr⟩) hP hD hS hA (adrM.trans adrM.symm) (fun r_ H locs hr_ hP hS => ?_)
        have heq : E_claim (xs ((5 * kR) + 1)) (xs ((5 * kR) + 2)) ns = E_claim (xs ((5 * kR) + 1)) (xs ((5 * kR) + 2)) ns := rfl
        have hE1 : E_claim (xs ((5 * kR) + 1)) (xs ((5 * kR) + 2)) ns = 0 := heq.trans hE0
        have hth : nI (E_claim (xs ((5 * kR) + 1)) (xs ((5 * kR) + 2)) ns) = 0 := by rw [hE1]; decide
        have hP : va_P D vwCl (((wOr cI cJ cZ a px (F_if6 (F_claims (ss (ix (xs ((5 * kR) + 1)))) 1 1) py (F_pay (ss (ix (xs ((5 * kR) + 1)))) (F_share (ss (ix (xs ((5 * kR) + 1)))) (xs ((5 * kR) + 2))) py 8)) td) ++ ((wFi cI cJ cZ a ld sl bd pw dt st uc sv tl so lm n nd) ++ ((wSa cI cJ cZ a ss rg hw ax fu si au ns) ++ ((wJo cI cJ cZ a jk jd js jt jn) ++ ((wEx cI cJ cZ a ef es el ev et eo) ++ (wOu cI cJ cZ a (vp_updL ou 0 ((F_ifI (F_claims (ss (ix (xs ((5 * kR) + 1)))) 1 1) 0 ((F_share (ss (ix (xs ((5 * kR) + 1)))) (xs ((5 * kR) + 2))) * F_bit (ss (ix (xs ((5 * kR) + 1)))))).toInt64)))))))) ++ (wMo cI cJ cZ a 0 td nd n ld sl bd pw dt st uc sv tl so ag ns ss rg hw ax fu si au px pg (F_if6 (G_cl 1 1) py (G_pay (ss (ix (xs ((5 * kR) + 1)))) (G_share (ss (ix (xs ((5 * kR) + 1)))) (xs ((5 * kR) + 2))) py 8)))) H := by have h9 := hP; simp only [hth, F_sel_yes hE1] at h9; exact h9
        have hD : va_D A (((wOr cI cJ cZ a px (F_if6 (F_claims (ss (ix (xs ((5 * kR) + 1)))) 1 1) py (F_pay (ss (ix (xs ((5 * kR) + 1)))) (F_share (ss (ix (xs ((5 * kR) + 1)))) (xs ((5 * kR) + 2))) py 8)) td) ++ ((wFi cI cJ cZ a ld sl bd pw dt st uc sv tl so lm n nd) ++ ((wSa cI cJ cZ a ss rg hw ax fu si au ns) ++ ((wJo cI cJ cZ a jk jd js jt jn) ++ ((wEx cI cJ cZ a ef es el ev et eo) ++ (wOu cI cJ cZ a (vp_updL ou 0 ((F_ifI (F_claims (ss (ix (xs ((5 * kR) + 1)))) 1 1) 0 ((F_share (ss (ix (xs ((5 * kR) + 1)))) (xs ((5 * kR) + 2))) * F_bit (ss (ix (xs ((5 * kR) + 1)))))).toInt64)))))))) ++ (wMo cI cJ cZ a 0 td nd n ld sl bd pw dt st uc sv tl so ag ns ss rg hw ax fu si au px pg (F_if6 (G_cl 1 1) py (G_pay (ss (ix (xs ((5 * kR) + 1)))) (G_share (ss (ix (xs ((5 * kR) + 1)))) (xs ((5 * kR) + 2))) py 8)))) := zD_law hD
        obtain rfl : r_ = F_ifI (G_cl 1 1) 0 (G_many (ss (ix (xs ((5 * kR) + 1)))) 8 * G_share (ss (ix (xs ((5 * kR) + 1)))) (xs ((5 * kR) + 2))) := hr_.trans (F_sel_yes hE1 _ _)
        refine lv_istore (lv' := [(6, .int (F_ifI (G_cl 1 1) 0 (G_many (ss (ix (xs ((5 * kR) + 1)))) 8 * G_share (ss (ix (xs ((5 * kR) + 1)))) (xs ((5 * kR) + 2))))), (5, .int 0), (0, .ref b), (1, .ref (a 0)), (2, .ref (a 30)), (3, .ref (a 60)), (4, .int (nI (5 * kR)))]) hx hb dL_law_1220 hl (by decide) rfl (fun ls hl => ?_)
        refine lv_aload_n hx hb dL_law_1222 rfl (lv_at hl 4 rfl) ?_
        refine z_ri (va_runV (As := []) (rest := []) ⟨hx, hb, hml, hown, hts⟩ (c_X5_thrown l D cI cJ cZ a H.size 0 td nd n ld sl bd pw dt st uc sv tl so ag ns ss rg hw ax fu si au px pg (F_if6 (G_cl 1 1) py (G_pay (ss (ix (xs ((5 * kR) + 1)))) (G_share (ss (ix (xs ((5 * kR) + 1)))) (xs ((5 * kR) + 2))) py 8))) (cwV 0 hts gL_law_X5_thrown rfl rfl rfl (by decide +kernel) ⟨Nat.le_of_ble_eq_true rfl, Nat.le_of_ble_eq_true rfl⟩) (z_pv hK (zP_R hP) (zD_R hD) (q0 := 0) (ci := 5) rfl rfl zT_b zT_m) rfl rfl hl.1 rfl (lv_room (Nat.le_of_ble_eq_true rfl)) dL_law_1223 ⟨hcr, hsr⟩) hP hS hA (fun r_ _ H locs hr_ hP hS => ?_)
        subst hr_
        refine lv_iload hx hb dL_law_1226 (lv_at hl 1 rfl) ?_
        refine lv_icmp_eq (tgt := 1233) hx hb dL_law_1228 (by decide) (fun _ => ?_) (fun c9 => absurd (by decide) c9)
        refine lv_iload hx hb dL_law_1233 (lv_at hl 1 rfl) ?_
        refine lv_if_ne (tgt := 1250) hx hb dL_law_1235 (by decide) (fun c9 => absurd (by decide) c9) (fun _ => ?_)
        refine lv_aload_n hx hb dL_law_1238 rfl (lv_at hl 5 rfl) ?_
        refine lv_iconst (v := 0) hx hb dL_law_1239 (by decide) ?_
        refine z_lald hx hb hK hP 29 1 rfl rfl 0 (by decide) (by decide) rfl dL_law_1240 ?_
        refine lv_iload hx hb dL_law_1241 (lv_at hl 0 rfl) ?_
        refine lv_i2l (v := (F_ifI (G_cl 1 1) 0 (G_many (ss (ix (xs ((5 * kR) + 1)))) 8 * G_share (ss (ix (xs ((5 * kR) + 1)))) (xs ((5 * kR) + 2)))).toInt64) hx hb dL_law_1243 rfl ?_
        have hc9 : lg_cmp ((vp_updL ou 0 ((F_ifI (F_claims (ss (ix (xs ((5 * kR) + 1)))) 1 1) 0 ((F_share (ss (ix (xs ((5 * kR) + 1)))) (xs ((5 * kR) + 2))) * F_bit (ss (ix (xs ((5 * kR) + 1)))))).toInt64)) 0) ((F_ifI (G_cl 1 1) 0 (G_many (ss (ix (xs ((5 * kR) + 1)))) 8 * G_share (ss (ix (xs ((5 * kR) + 1)))) (xs ((5 * kR) + 2)))).toInt64) = 0 := z_cmp ((vp_updL_0 _ _).trans (by rw [hp9.1]))
        refine W.lcmp hx hb dL_law_1244 ?_
        refine lv_if_eq (tgt := 1250) hx hb dL_law_1245 (by decide) (fun _ => ?_) (fun c9 => absurd hc9 c9)
        refine lv_goto (tgt := 1941) hx hb dL_law_1250 (by decide) ?_
        have hP : va_P D vwCl (((wOr cI cJ cZ a px (F_if6 (F_claims (ss (ix (xs ((5 * kR) + 1)))) 1 1) py (F_pay (ss (ix (xs ((5 * kR) + 1)))) (F_share (ss (ix (xs ((5 * kR) + 1)))) (xs ((5 * kR) + 2))) py 8)) td) ++ ((wFi cI cJ cZ a ld sl bd pw dt st uc sv tl so lm n nd) ++ ((wSa cI cJ cZ a ss rg hw ax fu si au ns) ++ ((wJo cI cJ cZ a jk jd js jt jn) ++ ((wEx cI cJ cZ a ef es el ev et eo) ++ (wOu cI cJ cZ a (vp_updL ou 0 ((F_ifI (F_claims (ss (ix (xs ((5 * kR) + 1)))) 1 1) 0 ((F_share (ss (ix (xs ((5 * kR) + 1)))) (xs ((5 * kR) + 2))) * F_bit (ss (ix (xs ((5 * kR) + 1)))))).toInt64)))))))) ++ (wMo cI cJ cZ a 0 td nd n ld sl bd pw dt st uc sv tl so ag ns ss rg hw ax fu si au px pg (F_if6 (F_claims (ss (ix (xs ((5 * kR) + 1)))) 1 1) py (F_pay (ss (ix (xs ((5 * kR) + 1)))) (F_share (ss (ix (xs ((5 * kR) + 1)))) (xs ((5 * kR) + 2))) py 8)))) H := by simpa only [hp9.2.1] using hP
        have hD : va_D A (((wOr cI cJ cZ a px (F_if6 (F_claims (ss (ix (xs ((5 * kR) + 1)))) 1 1) py (F_pay (ss (ix (xs ((5 * kR) + 1)))) (F_share (ss (ix (xs ((5 * kR) + 1)))) (xs ((5 * kR) + 2))) py 8)) td) ++ ((wFi cI cJ cZ a ld sl bd pw dt st uc sv tl so lm n nd) ++ ((wSa cI cJ cZ a ss rg hw ax fu si au ns) ++ ((wJo cI cJ cZ a jk jd js jt jn) ++ ((wEx cI cJ cZ a ef es el ev et eo) ++ (wOu cI cJ cZ a (vp_updL ou 0 ((F_ifI (F_claims (ss (ix (xs ((5 * kR) + 1)))) 1 1) 0 ((F_share (ss (ix (xs ((5 * kR) + 1)))) (xs ((5 * kR) + 2))) * F_bit (ss (ix (xs ((5 * kR) + 1)))))).toInt64)))))))) ++ (wMo cI cJ cZ a 0 td nd n ld sl bd pw dt st uc sv tl so ag ns ss rg hw ax fu si au px pg (F_if6 (F_claims (ss (ix (xs ((5 * kR) + 1)))) 1 1) py (F_pay (ss (ix (xs ((5 * kR) + 1)))) (F_share (ss (ix (xs ((5 * kR) + 1)))) (xs ((5 * kR) + 2))) py 8)))) := zD_law hD
        exact kk H locs ls ⟨px, (F_if6 (F_claims (ss (ix (xs ((5 * kR) + 1)))) 1 1) py (F_pay (ss (ix (xs ((5 * kR) + 1)))) (F_share (ss (ix (xs ((5 * kR) + 1)))) (xs ((5 * kR) + 2))) py 8)), td, ld, sl, bd, pw, dt, st, uc, sv, tl, so, lm, n, nd, ss, rg, hw, ax, fu, si, au, ns, jk, jd, js, jt, jn, ef, es, el, ev, et, eo, 0, pg, ag, (vp_updL ou 0 ((F_ifI (F_claims (ss (ix (xs ((5 * kR) + 1)))) 1 1) 0 ((F_share (ss (ix (xs ((5 * kR) + 1)))) (xs ((5 * kR) + 2))) * F_bit (ss (ix (xs ((5 * kR) + 1)))))).toInt64)), hp9.2.2, hP, hD⟩ hS (lv_sub hl [2, 3, 4, 5, 6] rfl)
      · refine z_ciL (suf := (wMo cI cJ cZ a th td nd n ld sl bd pw dt st uc sv tl so ag ns ss rg hw ax fu si au px pg py)) (wc := ((wOr cI cJ cZ a px py td) ++ ((wFi cI cJ cZ a ld sl bd pw dt st uc sv tl so lm n nd) ++ ((wSa cI cJ cZ a ss rg hw ax fu si au ns) ++ ((wJo cI cJ cZ a jk jd js jt jn) ++ ((wEx cI cJ cZ a ef es el ev et eo) ++ (wOu cI cJ cZ a ou))))))) (w1 := ((wOr cI cJ cZ a px (F_sel (E_claim (xs ((5 * kR) + 1)) (xs ((5 * kR) + 2)) ns) (F_if6 (F_claims (ss (ix (xs ((5 * kR) + 1)))) 1 1) py (F_pay (ss (ix (xs ((5 * kR) + 1)))) (F_share (ss (ix (xs ((5 * kR) + 1)))) (xs ((5 * kR) + 2))) py 8)) py) td) ++ ((wFi cI cJ cZ a ld sl bd pw dt st uc sv tl so lm n nd) ++ ((wSa cI cJ cZ a ss rg hw ax fu si au ns) ++ ((wJo cI cJ cZ a jk jd js jt jn) ++ ((wEx cI cJ cZ a ef es el ev et eo) ++ (wOu cI cJ cZ a (F_sel (E_claim (xs ((5 * kR) + 1)) (xs ((5 * kR) + 2)) ns) (vp_updL ou 0 ((F_ifI (F_claims (ss (ix (xs ((5 * kR) + 1)))) 1 1) 0 ((F_share (ss (ix (xs ((5 * kR) + 1)))) (xs ((5 * kR) + 2))) * F_bit (ss (ix (xs ((5 * kR) + 1)))))).toInt64)) ou)))))))) (vx_runSW (As := [.ref (a 0), .int (xs ((5 * kR) + 1)), .int (xs ((5 * kR) + 2)), .int 1, .int 1, .ref (a 60)]) (rest := []) ⟨hx, hb, hml, hown, hts⟩ (c_L_claim l hflg D cI cJ cZ a H.size px py td ld sl bd pw dt st uc sv tl so lm n nd ss rg hw ax fu si au ns jk jd js jt jn ef es el ev et eo ou (xs ((5 * kR) + 1)) (xs ((5 * kR) + 2)) 1 1 hs) (vx_cwSW 6 hts gL_law_L_claim rfl rfl rfl (by decide +kernel) ⟨Nat.le_of_ble_eq_true rfl, Nat.le_of_ble_eq_true rfl⟩) (z_ps hK (zP_L hP) (zD_L hD) ZX_b (ZX_m hE hS (zF_L hD hS hA))) rfl rfl hl.1 rfl (lv_room (Nat.le_of_ble_eq_true rfl)) dL_law_1171 ⟨hcr, hsr⟩) hP hD hS hA (adrC.trans adrC.symm) (fun r_ H locs hr_ hP hS => ?_)
        have hP : va_P D vwCl (((wOr cI cJ cZ a px py td) ++ ((wFi cI cJ cZ a ld sl bd pw dt st uc sv tl so lm n nd) ++ ((wSa cI cJ cZ a ss rg hw ax fu si au ns) ++ ((wJo cI cJ cZ a jk jd js jt jn) ++ ((wEx cI cJ cZ a ef es el ev et eo) ++ (wOu cI cJ cZ a ou)))))) ++ (wMo cI cJ cZ a th td nd n ld sl bd pw dt st uc sv tl so ag ns ss rg hw ax fu si au px pg py)) H := by have h9 := hP; simp only [F_sel_no hE0] at h9; exact h9
        have hD : va_D A (((wOr cI cJ cZ a px py td) ++ ((wFi cI cJ cZ a ld sl bd pw dt st uc sv tl so lm n nd) ++ ((wSa cI cJ cZ a ss rg hw ax fu si au ns) ++ ((wJo cI cJ cZ a jk jd js jt jn) ++ ((wEx cI cJ cZ a ef es el ev et eo) ++ (wOu cI cJ cZ a ou)))))) ++ (wMo cI cJ cZ a th td nd n ld sl bd pw dt st uc sv tl so ag ns ss rg hw ax fu si au px pg py)) := zD_law hD
        subst hr_
        have hnz : ¬ (nI (E_claim (xs ((5 * kR) + 1)) (xs ((5 * kR) + 2)) ns)) = 0 := z_nz hE0 (by unfold E_claim; (repeat' split); all_goals decide)
        refine lv_istore (lv' := [(5, .int (nI (E_claim (xs ((5 * kR) + 1)) (xs ((5 * kR) + 2)) ns))), (0, .ref b), (1, .ref (a 0)), (2, .ref (a 30)), (3, .ref (a 60)), (4, .int (nI (5 * kR)))]) hx hb dL_law_1174 hl (by decide) rfl (fun ls hl => ?_)
        refine lv_aload_n hx hb dL_law_1176 rfl (lv_at hl 3 rfl) ?_
        refine lv_aload_n hx hb dL_law_1177 rfl (lv_at hl 1 rfl) ?_
        refine lv_iload hx hb dL_law_1178 (lv_at hl 5 rfl) ?_
        refine lv_iconst (v := 1) hx hb dL_law_1180 (by decide) ?_
        refine lv_iadd hx hb dL_law_1181 ?_
        refine z_sld hx hb hX hbl hbA hS hL ((5 * kR) + 1) (z_iadd rfl (by decide)) (by omega) dL_law_1182 ?_
        refine lv_aload_n hx hb dL_law_1183 rfl (lv_at hl 1 rfl) ?_
        refine lv_iload hx hb dL_law_1184 (lv_at hl 5 rfl) ?_
        refine lv_iconst (v := 2) hx hb dL_law_1186 (by decide) ?_
        refine lv_iadd hx hb dL_law_1187 ?_
        refine z_sld hx hb hX hbl hbA hS hL ((5 * kR) + 2) (z_iadd rfl (by decide)) (by omega) dL_law_1188 ?_
        refine lv_aload_n hx hb dL_law_1189 rfl (lv_at hl 1 rfl) ?_
        refine lv_iload hx hb dL_law_1190 (lv_at hl 5 rfl) ?_
        refine lv_iconst (v := 3) hx hb dL_law_1192 (by decide) ?_
        refine lv_iadd hx hb dL_law_1193 ?_
        refine z_sld hx hb hX hbl hbA hS hL ((5 * kR) + 3) (z_iadd rfl (by decide)) (by omega) dL_law_1194 ?_
        refine lv_if_eq (tgt := 1202) hx hb dL_law_1195 (by decide) (fun c9 => absurd c9 c_1) (fun _ => ?_)
        refine lv_iconst (v := 1) hx hb dL_law_1198 (by decide) ?_
        refine lv_goto (tgt := 1203) hx hb dL_law_1199 (by decide) ?_
        refine lv_aload_n hx hb dL_law_1203 rfl (lv_at hl 1 rfl) ?_
        refine lv_iload hx hb dL_law_1204 (lv_at hl 5 rfl) ?_
        refine lv_iconst (v := 4) hx hb dL_law_1206 (by decide) ?_
        refine lv_iadd hx hb dL_law_1207 ?_
        refine z_sld hx hb hX hbl hbA hS hL ((5 * kR) + 4) (z_iadd rfl (by decide)) (by omega) dL_law_1208 ?_
        refine lv_if_eq (tgt := 1216) hx hb dL_law_1209 (by decide) (fun c9 => absurd c9 c_3) (fun _ => ?_)
        refine lv_iconst (v := 1) hx hb dL_law_1212 (by decide) ?_
        refine lv_goto (tgt := 1217) hx hb dL_law_1213 (by decide) ?_
        refine z_ciR (pre := ((wOr cI cJ cZ a px py td) ++ ((wFi cI cJ cZ a ld sl bd pw dt st uc sv tl so lm n nd) ++ ((wSa cI cJ cZ a ss rg hw ax fu si au ns) ++ ((wJo cI cJ cZ a jk jd js jt jn) ++ ((wEx cI cJ cZ a ef es el ev et eo) ++ (wOu cI cJ cZ a ou))))))) (wc := (wMo cI cJ cZ a th td nd n ld sl bd pw dt st uc sv tl so ag ns ss rg hw ax fu si au px pg py)) (w1 := (wMo cI cJ cZ a (nI (E_claim (xs ((5 * kR) + 1)) (xs ((5 * kR) + 2)) ns)) td nd n ld sl bd pw dt st uc sv tl so ag ns ss rg hw ax fu si au px pg (F_sel (E_claim (xs ((5 * kR) + 1)) (xs ((5 * kR) + 2)) ns) (F_if6 (G_cl 1 1) py (G_pay (ss (ix (xs ((5 * kR) + 1)))) (G_share (ss (ix (xs ((5 * kR) + 1)))) (xs ((5 * kR) + 2))) py 8)) py))) (va_runV (As := [.int (xs ((5 * kR) + 1)), .int (xs ((5 * kR) + 2)), .int 1, .int 1]) (rest := []) ⟨hx, hb, hml, hown, hts⟩ (c_X5_claim l D cI cJ cZ a H.size th td nd n ld sl bd pw dt st uc sv tl so ag ns ss rg hw ax fu si au px pg py (xs ((5 * kR) + 1)) (xs ((5 * kR) + 2)) 1 1 hs hmy) (cwV 4 hts gL_law_X5_claim rfl rfl rfl (by decide +kernel) ⟨Nat.le_of_ble_eq_true rfl, Nat.le_of_ble_eq_true rfl⟩) (z_pv hK (zP_R hP) (zD_R hD) (q0 := 0) (ci := 5) rfl rfl zT_b zT_m) rfl rfl hl.1 rfl (lv_room (Nat.le_of_ble_eq_true rfl)) dL_law_1217 ⟨hcr, hsr⟩) hP hD hS hA (adrM.trans adrM.symm) (fun r_ H locs hr_ hP hS => ?_)
        have heq : E_claim (xs ((5 * kR) + 1)) (xs ((5 * kR) + 2)) ns = E_claim (xs ((5 * kR) + 1)) (xs ((5 * kR) + 2)) ns := rfl
        have hE1 : ¬ E_claim (xs ((5 * kR) + 1)) (xs ((5 * kR) + 2)) ns = 0 := fun h => hE0 (heq.symm.trans h)
        have hP : va_P D vwCl (((wOr cI cJ cZ a px py td) ++ ((wFi cI cJ cZ a ld sl bd pw dt st uc sv tl so lm n nd) ++ ((wSa cI cJ cZ a ss rg hw ax fu si au ns) ++ ((wJo cI cJ cZ a jk jd js jt jn) ++ ((wEx cI cJ cZ a ef es el ev et eo) ++ (wOu cI cJ cZ a ou)))))) ++ (wMo cI cJ cZ a (nI (E_claim (xs ((5 * kR) + 1)) (xs ((5 * kR) + 2)) ns)) td nd n ld sl bd pw dt st uc sv tl so ag ns ss rg hw ax fu si au px pg py)) H := by have h9 := hP; simp only [F_sel_no hE1] at h9; exact h9
        have hD : va_D A (((wOr cI cJ cZ a px py td) ++ ((wFi cI cJ cZ a ld sl bd pw dt st uc sv tl so lm n nd) ++ ((wSa cI cJ cZ a ss rg hw ax fu si au ns) ++ ((wJo cI cJ cZ a jk jd js jt jn) ++ ((wEx cI cJ cZ a ef es el ev et eo) ++ (wOu cI cJ cZ a ou)))))) ++ (wMo cI cJ cZ a (nI (E_claim (xs ((5 * kR) + 1)) (xs ((5 * kR) + 2)) ns)) td nd n ld sl bd pw dt st uc sv tl so ag ns ss rg hw ax fu si au px pg py)) := zD_law hD
        obtain rfl : r_ = 0 := hr_.trans (F_sel_no hE1 _ _)
        refine lv_istore (lv' := [(6, .int 0), (5, .int (nI (E_claim (xs ((5 * kR) + 1)) (xs ((5 * kR) + 2)) ns))), (0, .ref b), (1, .ref (a 0)), (2, .ref (a 30)), (3, .ref (a 60)), (4, .int (nI (5 * kR)))]) hx hb dL_law_1220 hl (by decide) rfl (fun ls hl => ?_)
        refine lv_aload_n hx hb dL_law_1222 rfl (lv_at hl 4 rfl) ?_
        refine z_ri (va_runV (As := []) (rest := []) ⟨hx, hb, hml, hown, hts⟩ (c_X5_thrown l D cI cJ cZ a H.size (nI (E_claim (xs ((5 * kR) + 1)) (xs ((5 * kR) + 2)) ns)) td nd n ld sl bd pw dt st uc sv tl so ag ns ss rg hw ax fu si au px pg py) (cwV 0 hts gL_law_X5_thrown rfl rfl rfl (by decide +kernel) ⟨Nat.le_of_ble_eq_true rfl, Nat.le_of_ble_eq_true rfl⟩) (z_pv hK (zP_R hP) (zD_R hD) (q0 := 0) (ci := 5) rfl rfl zT_b zT_m) rfl rfl hl.1 rfl (lv_room (Nat.le_of_ble_eq_true rfl)) dL_law_1223 ⟨hcr, hsr⟩) hP hS hA (fun r_ _ H locs hr_ hP hS => ?_)
        subst hr_
        refine lv_iload hx hb dL_law_1226 (lv_at hl 1 rfl) ?_
        refine lv_icmp_eq (tgt := 1233) hx hb dL_law_1228 (by decide) (fun _ => ?_) (fun c9 => absurd rfl c9)
        refine lv_iload hx hb dL_law_1233 (lv_at hl 1 rfl) ?_
        refine lv_if_ne (tgt := 1250) hx hb dL_law_1235 (by decide) (fun _ => ?_) (fun c9 => absurd c9 hnz)
        refine lv_goto (tgt := 1941) hx hb dL_law_1250 (by decide) ?_
        exact kk H locs ls ⟨px, py, td, ld, sl, bd, pw, dt, st, uc, sv, tl, so, lm, n, nd, ss, rg, hw, ax, fu, si, au, ns, jk, jd, js, jt, jn, ef, es, el, ev, et, eo, nI (E_claim (xs ((5 * kR) + 1)) (xs ((5 * kR) + 2)) ns), pg, ag, ou, hR.mono, hP, hD⟩ hS (lv_sub hl [2, 3, 4, 5, 6] rfl)
set_option maxHeartbeats 8000000 in
set_option maxRecDepth 100000 in
theorem law_pass (p : Program) (l : Launch) (e : Env) (s : State) (m : MethodId) (below : List Frame) (meth : Method) (c : Code) (b L : Nat) (xs : Nat → Int32) (D : va_G) (cI cJ cZ : ClassId) (a : Nat → Nat) (A : Nat → Prop) (kR : Nat) (H : Heap) (locs : List Loc) (cells slots : Nat) (Q : State → Prop) (ls : Array Slot) (hZ : ZLw D cI cJ cZ a A kR H) : ZGo p l e s m below meth c b L xs D cI cJ cZ a A kR H locs cells slots Q ls 1253 := by
  intro hx hb hml hown hts hX hbl hbA hA hK hE hflg hkL hL hk hS hl hcr hsr kk
  obtain ⟨px, py, td, ld, sl, bd, pw, dt, st, uc, sv, tl, so, lm, n, nd, ss, rg, hw, ax, fu, si, au, ns, jk, jd, js, jt, jn, ef, es, el, ev, et, eo, th, pg, ag, ou, hR, hP, hD⟩ := hZ
  obtain ⟨t, ht, ht5, hjk, hF9, hL9, hS9, hJ9⟩ := id hR
  have hn : n ≤ 40 := hF9.1
  have hs : ns ≤ 16 := hS9.1
  have hj : jn < 512 := Nat.lt_of_le_of_lt hjk hk
  have hax := R_hax hS9
  have hmy := R_hmy hS9
  have hkk := hJ9.1
  refine lv_aload_n hx hb dL_law_1253 rfl (lv_at hl 1 rfl) ?_
  refine lv_aload_n hx hb dL_law_1254 rfl (lv_at hl 0 rfl) ?_
  refine lv_iload hx hb dL_law_1255 (lv_at hl 4 rfl) ?_
  refine lv_iconst (v := 1) hx hb dL_law_1257 (by decide) ?_
  refine lv_iadd hx hb dL_law_1258 ?_
  refine z_sld hx hb hX hbl hbA hS hL ((5 * kR) + 1) (z_iadd rfl (by decide)) (by omega) dL_law_1259 ?_
  refine lv_aload_n hx hb dL_law_1260 rfl (lv_at hl 3 rfl) ?_
  by_cases hE0 : E_pass (xs ((5 * kR) + 1)) td = 0
  · refine z_ciL (suf := (wMo cI cJ cZ a th td nd n ld sl bd pw dt st uc sv tl so ag ns ss rg hw ax fu si au px pg py)) (wc := ((wOr cI cJ cZ a px py td) ++ ((wFi cI cJ cZ a ld sl bd pw dt st uc sv tl so lm n nd) ++ ((wSa cI cJ cZ a ss rg hw ax fu si au ns) ++ ((wJo cI cJ cZ a jk jd js jt jn) ++ ((wEx cI cJ cZ a ef es el ev et eo) ++ (wOu cI cJ cZ a ou))))))) (w1 := ((wOr cI cJ cZ a (F_sel (E_pass (xs ((5 * kR) + 1)) td) (F_drifts px ((t + ix (xs ((5 * kR) + 1))) / 50 - t / 50)) px) py (F_sel (E_pass (xs ((5 * kR) + 1)) td) (td + (xs ((5 * kR) + 1))) td)) ++ ((wFi cI cJ cZ a ld sl bd pw dt (F_sel (E_pass (xs ((5 * kR) + 1)) td) (F_lapSt st tl so (td + (xs ((5 * kR) + 1))) n) st) uc (F_sel (E_pass (xs ((5 * kR) + 1)) td) (F_lapSv st sv tl so (td + (xs ((5 * kR) + 1))) n) sv) tl so lm n nd) ++ ((wSa cI cJ cZ a ss rg hw ax fu si au ns) ++ ((wJo cI cJ cZ a jk jd js jt jn) ++ ((wEx cI cJ cZ a ef es el ev et eo) ++ (wOu cI cJ cZ a (F_sel (E_pass (xs ((5 * kR) + 1)) td) (vp_updL ou 0 ((td + (xs ((5 * kR) + 1))).toInt64)) ou)))))))) (vx_runSW (As := [.ref (a 0), .int (xs ((5 * kR) + 1)), .ref (a 60)]) (rest := []) ⟨hx, hb, hml, hown, hts⟩ (c_L_pass l hflg D cI cJ cZ a H.size px py td ld sl bd pw dt st uc sv tl so lm n nd ss rg hw ax fu si au ns jk jd js jt jn ef es el ev et eo ou (xs ((5 * kR) + 1)) hn t ht ht5) (vx_cwSW 3 hts gL_law_L_pass rfl rfl rfl (by decide +kernel) ⟨Nat.le_of_ble_eq_true rfl, Nat.le_of_ble_eq_true rfl⟩) (z_ps hK (zP_L hP) (zD_L hD) ZX_b (ZX_m hE hS (zF_L hD hS hA))) rfl rfl hl.1 rfl (lv_room (Nat.le_of_ble_eq_true rfl)) dL_law_1261 ⟨hcr, hsr⟩) hP hD hS hA (adrC.trans adrC.symm) (fun r_ H locs hr_ hP hS => ?_)
    have hP : va_P D vwCl (((wOr cI cJ cZ a (F_drifts px ((t + ix (xs ((5 * kR) + 1))) / 50 - t / 50)) py (td + (xs ((5 * kR) + 1)))) ++ ((wFi cI cJ cZ a ld sl bd pw dt (F_lapSt st tl so (td + (xs ((5 * kR) + 1))) n) uc (F_lapSv st sv tl so (td + (xs ((5 * kR) + 1))) n) tl so lm n nd) ++ ((wSa cI cJ cZ a ss rg hw ax fu si au ns) ++ ((wJo cI cJ cZ a jk jd js jt jn) ++ ((wEx cI cJ cZ a ef es el ev et eo) ++ (wOu cI cJ cZ a (vp_updL ou 0 ((td + (xs ((5 * kR) + 1))).toInt64)))))))) ++ (wMo cI cJ cZ a th td nd n ld sl bd pw dt st uc sv tl so ag ns ss rg hw ax fu si au px pg py)) H := by have h9 := hP; simp only [F_sel_yes hE0] at h9; exact h9
    have hD : va_D A (((wOr cI cJ cZ a (F_drifts px ((t + ix (xs ((5 * kR) + 1))) / 50 - t / 50)) py (td + (xs ((5 * kR) + 1)))) ++ ((wFi cI cJ cZ a ld sl bd pw dt (F_lapSt st tl so (td + (xs ((5 * kR) + 1))) n) uc (F_lapSv st sv tl so (td + (xs ((5 * kR) + 1))) n) tl so lm n nd) ++ ((wSa cI cJ cZ a ss rg hw ax fu si au ns) ++ ((wJo cI cJ cZ a jk jd js jt jn) ++ ((wEx cI cJ cZ a ef es el ev et eo) ++ (wOu cI cJ cZ a (vp_updL ou 0 ((td + (xs ((5 * kR) + 1))).toInt64)))))))) ++ (wMo cI cJ cZ a th td nd n ld sl bd pw dt st uc sv tl so ag ns ss rg hw ax fu si au px pg py)) := zD_law hD
    obtain rfl : r_ = 0 := hr_.trans (by rw [hE0]; decide)
    have hp9 := (p_pass kR t px py td ld sl bd pw dt st uc sv tl so lm n nd ss rg hw ax fu si au ns jk jd js jt jn ef es el ev et eo ag pg (xs ((5 * kR) + 1)) hR ht ht5 hk hE0)
    refine lv_istore (lv' := [(5, .int 0), (0, .ref b), (1, .ref (a 0)), (2, .ref (a 30)), (3, .ref (a 60)), (4, .int (nI (5 * kR)))]) hx hb dL_law_1264 hl (by decide) rfl (fun ls hl => ?_)
    refine lv_aload_n hx hb dL_law_1266 rfl (lv_at hl 3 rfl) ?_
    refine lv_aload_n hx hb dL_law_1267 rfl (lv_at hl 1 rfl) ?_
    refine lv_iload hx hb dL_law_1268 (lv_at hl 5 rfl) ?_
    refine lv_iconst (v := 1) hx hb dL_law_1270 (by decide) ?_
    refine lv_iadd hx hb dL_law_1271 ?_
    refine z_sld hx hb hX hbl hbA hS hL ((5 * kR) + 1) (z_iadd rfl (by decide)) (by omega) dL_law_1272 ?_
    refine z_ciR (pre := ((wOr cI cJ cZ a (F_drifts px ((t + ix (xs ((5 * kR) + 1))) / 50 - t / 50)) py (td + (xs ((5 * kR) + 1)))) ++ ((wFi cI cJ cZ a ld sl bd pw dt (F_lapSt st tl so (td + (xs ((5 * kR) + 1))) n) uc (F_lapSv st sv tl so (td + (xs ((5 * kR) + 1))) n) tl so lm n nd) ++ ((wSa cI cJ cZ a ss rg hw ax fu si au ns) ++ ((wJo cI cJ cZ a jk jd js jt jn) ++ ((wEx cI cJ cZ a ef es el ev et eo) ++ (wOu cI cJ cZ a (vp_updL ou 0 ((td + (xs ((5 * kR) + 1))).toInt64))))))))) (wc := (wMo cI cJ cZ a th td nd n ld sl bd pw dt st uc sv tl so ag ns ss rg hw ax fu si au px pg py)) (w1 := (wMo cI cJ cZ a (nI (E_pass (xs ((5 * kR) + 1)) td)) (F_sel (E_pass (xs ((5 * kR) + 1)) td) ((G_days tl so n (td, st, sv, ag, px, pg) (ix (xs ((5 * kR) + 1)))).1) td) nd n ld sl bd pw dt (F_sel (E_pass (xs ((5 * kR) + 1)) td) ((G_days tl so n (td, st, sv, ag, px, pg) (ix (xs ((5 * kR) + 1)))).2.1) st) uc (F_sel (E_pass (xs ((5 * kR) + 1)) td) ((G_days tl so n (td, st, sv, ag, px, pg) (ix (xs ((5 * kR) + 1)))).2.2.1) sv) tl so (F_sel (E_pass (xs ((5 * kR) + 1)) td) ((G_days tl so n (td, st, sv, ag, px, pg) (ix (xs ((5 * kR) + 1)))).2.2.2.1) ag) ns ss rg hw ax fu si au (F_sel (E_pass (xs ((5 * kR) + 1)) td) ((G_days tl so n (td, st, sv, ag, px, pg) (ix (xs ((5 * kR) + 1)))).2.2.2.2.1) px) (F_sel (E_pass (xs ((5 * kR) + 1)) td) ((G_days tl so n (td, st, sv, ag, px, pg) (ix (xs ((5 * kR) + 1)))).2.2.2.2.2) pg) py)) (va_runV (As := [.int (xs ((5 * kR) + 1))]) (rest := []) ⟨hx, hb, hml, hown, hts⟩ (c_X5_pass l D cI cJ cZ a H.size th td nd n ld sl bd pw dt st uc sv tl so ag ns ss rg hw ax fu si au px pg py (xs ((5 * kR) + 1)) hn) (cwV 1 hts gL_law_X5_pass rfl rfl rfl (by decide +kernel) ⟨Nat.le_of_ble_eq_true rfl, Nat.le_of_ble_eq_true rfl⟩) (z_pv hK (zP_R hP) (zD_R hD) (q0 := 0) (ci := 5) rfl rfl zT_b zT_m) rfl rfl hl.1 rfl (lv_room (Nat.le_of_ble_eq_true rfl)) dL_law_1273 ⟨hcr, hsr⟩) hP hD hS hA (adrM.trans adrM.symm) (fun r_ H locs hr_ hP hS => ?_)
    have heq : E_pass (xs ((5 * kR) + 1)) td = E_pass (xs ((5 * kR) + 1)) td := rfl
    have hE1 : E_pass (xs ((5 * kR) + 1)) td = 0 := heq.trans hE0
    have hth : nI (E_pass (xs ((5 * kR) + 1)) td) = 0 := by rw [hE1]; decide
    have hP : va_P D vwCl (((wOr cI cJ cZ a (F_drifts px ((t + ix (xs ((5 * kR) + 1))) / 50 - t / 50)) py (td + (xs ((5 * kR) + 1)))) ++ ((wFi cI cJ cZ a ld sl bd pw dt (F_lapSt st tl so (td + (xs ((5 * kR) + 1))) n) uc (F_lapSv st sv tl so (td + (xs ((5 * kR) + 1))) n) tl so lm n nd) ++ ((wSa cI cJ cZ a ss rg hw ax fu si au ns) ++ ((wJo cI cJ cZ a jk jd js jt jn) ++ ((wEx cI cJ cZ a ef es el ev et eo) ++ (wOu cI cJ cZ a (vp_updL ou 0 ((td + (xs ((5 * kR) + 1))).toInt64)))))))) ++ (wMo cI cJ cZ a 0 ((G_days tl so n (td, st, sv, ag, px, pg) (ix (xs ((5 * kR) + 1)))).1) nd n ld sl bd pw dt ((G_days tl so n (td, st, sv, ag, px, pg) (ix (xs ((5 * kR) + 1)))).2.1) uc ((G_days tl so n (td, st, sv, ag, px, pg) (ix (xs ((5 * kR) + 1)))).2.2.1) tl so ((G_days tl so n (td, st, sv, ag, px, pg) (ix (xs ((5 * kR) + 1)))).2.2.2.1) ns ss rg hw ax fu si au ((G_days tl so n (td, st, sv, ag, px, pg) (ix (xs ((5 * kR) + 1)))).2.2.2.2.1) ((G_days tl so n (td, st, sv, ag, px, pg) (ix (xs ((5 * kR) + 1)))).2.2.2.2.2) py)) H := by have h9 := hP; simp only [hth, F_sel_yes hE1] at h9; exact h9
    have hD : va_D A (((wOr cI cJ cZ a (F_drifts px ((t + ix (xs ((5 * kR) + 1))) / 50 - t / 50)) py (td + (xs ((5 * kR) + 1)))) ++ ((wFi cI cJ cZ a ld sl bd pw dt (F_lapSt st tl so (td + (xs ((5 * kR) + 1))) n) uc (F_lapSv st sv tl so (td + (xs ((5 * kR) + 1))) n) tl so lm n nd) ++ ((wSa cI cJ cZ a ss rg hw ax fu si au ns) ++ ((wJo cI cJ cZ a jk jd js jt jn) ++ ((wEx cI cJ cZ a ef es el ev et eo) ++ (wOu cI cJ cZ a (vp_updL ou 0 ((td + (xs ((5 * kR) + 1))).toInt64)))))))) ++ (wMo cI cJ cZ a 0 ((G_days tl so n (td, st, sv, ag, px, pg) (ix (xs ((5 * kR) + 1)))).1) nd n ld sl bd pw dt ((G_days tl so n (td, st, sv, ag, px, pg) (ix (xs ((5 * kR) + 1)))).2.1) uc ((G_days tl so n (td, st, sv, ag, px, pg) (ix (xs ((5 * kR) + 1)))).2.2.1) tl so ((G_days tl so n (td, st, sv, ag, px, pg) (ix (xs ((5 * kR) + 1)))).2.2.2.1) ns ss rg hw ax fu si au ((G_days tl so n (td, st, sv, ag, px, pg) (ix (xs ((5 * kR) + 1)))).2.2.2.2.1) ((G_days tl so n (td, st, sv, ag, px, pg) (ix (xs ((5 * kR) + 1)))).2.2.2.2.2) py)) := zD_law hD
    obtain rfl : r_ = (G_days tl so n (td, st, sv, ag, px, pg) (ix (xs ((5 * kR) + 1)))).1 := hr_.trans (F_sel_yes hE1 _ _)
    refine lv_istore (lv' := [(6, .int ((G_days tl so n (td, st, sv, ag, px, pg) (ix (xs ((5 * kR) + 1)))).1)), (5, .int 0), (0, .ref b), (1, .ref (a 0)), (2, .ref (a 30)), (3, .ref (a 60)), (4, .int (nI (5 * kR)))]) hx hb dL_law_1276 hl (by decide) rfl (fun ls hl => ?_)
    refine lv_aload_n hx hb dL_law_1278 rfl (lv_at hl 4 rfl) ?_
    refine z_ri (va_runV (As := []) (rest := []) ⟨hx, hb, hml, hown, hts⟩ (c_X5_thrown l D cI cJ cZ a H.size 0 ((G_days tl so n (td, st, sv, ag, px, pg) (ix (xs ((5 * kR) + 1)))).1) nd n ld sl bd pw dt ((G_days tl so n (td, st, sv, ag, px, pg) (ix (xs ((5 * kR) + 1)))).2.1) uc ((G_days tl so n (td, st, sv, ag, px, pg) (ix (xs ((5 * kR) + 1)))).2.2.1) tl so ((G_days tl so n (td, st, sv, ag, px, pg) (ix (xs ((5 * kR) + 1)))).2.2.2.1) ns ss rg hw ax fu si au ((G_days tl so n (td, st, sv, ag, px, pg) (ix (xs ((5 * kR) + 1)))).2.2.2.2.1) ((G_days tl so n (td, st, sv, ag, px, pg) (ix (xs ((5 * kR) + 1)))).2.2.2.2.2) py) (cwV 0 hts gL_law_X5_thrown rfl rfl rfl (by decide +kernel) ⟨Nat.le_of_ble_eq_true rfl, Nat.le_of_ble_eq_true rfl⟩) (z_pv hK (zP_R hP) (zD_R hD) (q0 := 0) (ci := 5) rfl rfl zT_b zT_m) rfl rfl hl.1 rfl (lv_room (Nat.le_of_ble_eq_true rfl)) dL_law_1279 ⟨hcr, hsr⟩) hP hS hA (fun r_ _ H locs hr_ hP hS => ?_)
    subst hr_
    refine lv_iload hx hb dL_law_1282 (lv_at hl 1 rfl) ?_
    refine lv_icmp_eq (tgt := 1289) hx hb dL_law_1284 (by decide) (fun _ => ?_) (fun c9 => absurd (by decide) c9)
    refine lv_iload hx hb dL_law_1289 (lv_at hl 1 rfl) ?_
    refine lv_if_ne (tgt := 1306) hx hb dL_law_1291 (by decide) (fun c9 => absurd (by decide) c9) (fun _ => ?_)
    refine lv_aload_n hx hb dL_law_1294 rfl (lv_at hl 5 rfl) ?_
    refine lv_iconst (v := 0) hx hb dL_law_1295 (by decide) ?_
    refine z_lald hx hb hK hP 29 1 rfl rfl 0 (by decide) (by decide) rfl dL_law_1296 ?_
    refine lv_iload hx hb dL_law_1297 (lv_at hl 0 rfl) ?_
    refine lv_i2l (v := ((G_days tl so n (td, st, sv, ag, px, pg) (ix (xs ((5 * kR) + 1)))).1).toInt64) hx hb dL_law_1299 rfl ?_
    have hc9 : lg_cmp ((vp_updL ou 0 ((td + (xs ((5 * kR) + 1))).toInt64)) 0) (((G_days tl so n (td, st, sv, ag, px, pg) (ix (xs ((5 * kR) + 1)))).1).toInt64) = 0 := z_cmp ((vp_updL_0 _ _).trans (by rw [hp9.1]))
    refine W.lcmp hx hb dL_law_1300 ?_
    refine lv_if_eq (tgt := 1306) hx hb dL_law_1301 (by decide) (fun _ => ?_) (fun c9 => absurd hc9 c9)
    refine lv_goto (tgt := 1941) hx hb dL_law_1306 (by decide) ?_
    have hP : va_P D vwCl (((wOr cI cJ cZ a (F_drifts px ((t + ix (xs ((5 * kR) + 1))) / 50 - t / 50)) py (td + (xs ((5 * kR) + 1)))) ++ ((wFi cI cJ cZ a ld sl bd pw dt (F_lapSt st tl so (td + (xs ((5 * kR) + 1))) n) uc (F_lapSv st sv tl so (td + (xs ((5 * kR) + 1))) n) tl so lm n nd) ++ ((wSa cI cJ cZ a ss rg hw ax fu si au ns) ++ ((wJo cI cJ cZ a jk jd js jt jn) ++ ((wEx cI cJ cZ a ef es el ev et eo) ++ (wOu cI cJ cZ a (vp_updL ou 0 ((td + (xs ((5 * kR) + 1))).toInt64)))))))) ++ (wMo cI cJ cZ a 0 (td + (xs ((5 * kR) + 1))) nd n ld sl bd pw dt ((G_days tl so n (td, st, sv, ag, px, pg) (ix (xs ((5 * kR) + 1)))).2.1) uc ((G_days tl so n (td, st, sv, ag, px, pg) (ix (xs ((5 * kR) + 1)))).2.2.1) tl so ((G_days tl so n (td, st, sv, ag, px, pg) (ix (xs ((5 * kR) + 1)))).2.2.2.1) ns ss rg hw ax fu si au ((G_days tl so n (td, st, sv, ag, px, pg) (ix (xs ((5 * kR) + 1)))).2.2.2.2.1) ((G_days tl so n (td, st, sv, ag, px, pg) (ix (xs ((5 * kR) + 1)))).2.2.2.2.2) py)) H := by simpa only [hp9.2.1] using hP
    have hP : va_P D vwCl (((wOr cI cJ cZ a (F_drifts px ((t + ix (xs ((5 * kR) + 1))) / 50 - t / 50)) py (td + (xs ((5 * kR) + 1)))) ++ ((wFi cI cJ cZ a ld sl bd pw dt (F_lapSt st tl so (td + (xs ((5 * kR) + 1))) n) uc (F_lapSv st sv tl so (td + (xs ((5 * kR) + 1))) n) tl so lm n nd) ++ ((wSa cI cJ cZ a ss rg hw ax fu si au ns) ++ ((wJo cI cJ cZ a jk jd js jt jn) ++ ((wEx cI cJ cZ a ef es el ev et eo) ++ (wOu cI cJ cZ a (vp_updL ou 0 ((td + (xs ((5 * kR) + 1))).toInt64)))))))) ++ (wMo cI cJ cZ a 0 (td + (xs ((5 * kR) + 1))) nd n ld sl bd pw dt (F_lapSt st tl so (td + (xs ((5 * kR) + 1))) n) uc ((G_days tl so n (td, st, sv, ag, px, pg) (ix (xs ((5 * kR) + 1)))).2.2.1) tl so ((G_days tl so n (td, st, sv, ag, px, pg) (ix (xs ((5 * kR) + 1)))).2.2.2.1) ns ss rg hw ax fu si au ((G_days tl so n (td, st, sv, ag, px, pg) (ix (xs ((5 * kR) + 1)))).2.2.2.2.1) ((G_days tl so n (td, st, sv, ag, px, pg) (ix (xs ((5 * kR) + 1)))).2.2.2.2.2) py)) H := by simpa only [hp9.2.2.1] using hP
    have hP : va_P D vwCl (((wOr cI cJ cZ a (F_drifts px ((t + ix (xs ((5 * kR) + 1))) / 50 - t / 50)) py (td + (xs ((5 * kR) + 1)))) ++ ((wFi cI cJ cZ a ld sl bd pw dt (F_lapSt st tl so (td + (xs ((5 * kR) + 1))) n) uc (F_lapSv st sv tl so (td + (xs ((5 * kR) + 1))) n) tl so lm n nd) ++ ((wSa cI cJ cZ a ss rg hw ax fu si au ns) ++ ((wJo cI cJ cZ a jk jd js jt jn) ++ ((wEx cI cJ cZ a ef es el ev et eo) ++ (wOu cI cJ cZ a (vp_updL ou 0 ((td + (xs ((5 * kR) + 1))).toInt64)))))))) ++ (wMo cI cJ cZ a 0 (td + (xs ((5 * kR) + 1))) nd n ld sl bd pw dt (F_lapSt st tl so (td + (xs ((5 * kR) + 1))) n) uc (F_lapSv st sv tl so (td + (xs ((5 * kR) + 1))) n) tl so ((G_days tl so n (td, st, sv, ag, px, pg) (ix (xs ((5 * kR) + 1)))).2.2.2.1) ns ss rg hw ax fu si au ((G_days tl so n (td, st, sv, ag, px, pg) (ix (xs ((5 * kR) + 1)))).2.2.2.2.1) ((G_days tl so n (td, st, sv, ag, px, pg) (ix (xs ((5 * kR) + 1)))).2.2.2.2.2) py)) H := by simpa only [hp9.2.2.2.1] using hP
    have hP : va_P D vwCl (((wOr cI cJ cZ a (F_drifts px ((t + ix (xs ((5 * kR) + 1))) / 50 - t / 50)) py (td + (xs ((5 * kR) + 1)))) ++ ((wFi cI cJ cZ a ld sl bd pw dt (F_lapSt st tl so (td + (xs ((5 * kR) + 1))) n) uc (F_lapSv st sv tl so (td + (xs ((5 * kR) + 1))) n) tl so lm n nd) ++ ((wSa cI cJ cZ a ss rg hw ax fu si au ns) ++ ((wJo cI cJ cZ a jk jd js jt jn) ++ ((wEx cI cJ cZ a ef es el ev et eo) ++ (wOu cI cJ cZ a (vp_updL ou 0 ((td + (xs ((5 * kR) + 1))).toInt64)))))))) ++ (wMo cI cJ cZ a 0 (td + (xs ((5 * kR) + 1))) nd n ld sl bd pw dt (F_lapSt st tl so (td + (xs ((5 * kR) + 1))) n) uc (F_lapSv st sv tl so (td + (xs ((5 * kR) + 1))) n) tl so ((G_days tl so n (td, st, sv, ag, px, pg) (ix (xs ((5 * kR) + 1)))).2.2.2.1) ns ss rg hw ax fu si au (F_drifts px ((t + ix (xs ((5 * kR) + 1))) / 50 - t / 50)) ((G_days tl so n (td, st, sv, ag, px, pg) (ix (xs ((5 * kR) + 1)))).2.2.2.2.2) py)) H := by simpa only [hp9.2.2.2.2.1] using hP
    have hD : va_D A (((wOr cI cJ cZ a (F_drifts px ((t + ix (xs ((5 * kR) + 1))) / 50 - t / 50)) py (td + (xs ((5 * kR) + 1)))) ++ ((wFi cI cJ cZ a ld sl bd pw dt (F_lapSt st tl so (td + (xs ((5 * kR) + 1))) n) uc (F_lapSv st sv tl so (td + (xs ((5 * kR) + 1))) n) tl so lm n nd) ++ ((wSa cI cJ cZ a ss rg hw ax fu si au ns) ++ ((wJo cI cJ cZ a jk jd js jt jn) ++ ((wEx cI cJ cZ a ef es el ev et eo) ++ (wOu cI cJ cZ a (vp_updL ou 0 ((td + (xs ((5 * kR) + 1))).toInt64)))))))) ++ (wMo cI cJ cZ a 0 (td + (xs ((5 * kR) + 1))) nd n ld sl bd pw dt (F_lapSt st tl so (td + (xs ((5 * kR) + 1))) n) uc (F_lapSv st sv tl so (td + (xs ((5 * kR) + 1))) n) tl so ((G_days tl so n (td, st, sv, ag, px, pg) (ix (xs ((5 * kR) + 1)))).2.2.2.1) ns ss rg hw ax fu si au (F_drifts px ((t + ix (xs ((5 * kR) + 1))) / 50 - t / 50)) ((G_days tl so n (td, st, sv, ag, px, pg) (ix (xs ((5 * kR) + 1)))).2.2.2.2.2) py)) := zD_law hD
    exact kk H locs ls ⟨(F_drifts px ((t + ix (xs ((5 * kR) + 1))) / 50 - t / 50)), py, (td + (xs ((5 * kR) + 1))), ld, sl, bd, pw, dt, (F_lapSt st tl so (td + (xs ((5 * kR) + 1))) n), uc, (F_lapSv st sv tl so (td + (xs ((5 * kR) + 1))) n), tl, so, lm, n, nd, ss, rg, hw, ax, fu, si, au, ns, jk, jd, js, jt, jn, ef, es, el, ev, et, eo, 0, ((G_days tl so n (td, st, sv, ag, px, pg) (ix (xs ((5 * kR) + 1)))).2.2.2.2.2), ((G_days tl so n (td, st, sv, ag, px, pg) (ix (xs ((5 * kR) + 1)))).2.2.2.1), (vp_updL ou 0 ((td + (xs ((5 * kR) + 1))).toInt64)), hp9.2.2.2.2.2, hP, hD⟩ hS (lv_sub hl [2, 3, 4, 5, 6] rfl)
  · refine z_ciL (suf := (wMo cI cJ cZ a th td nd n ld sl bd pw dt st uc sv tl so ag ns ss rg hw ax fu si au px pg py)) (wc := ((wOr cI cJ cZ a px py td) ++ ((wFi cI cJ cZ a ld sl bd pw dt st uc sv tl so lm n nd) ++ ((wSa cI cJ cZ a ss rg hw ax fu si au ns) ++ ((wJo cI cJ cZ a jk jd js jt jn) ++ ((wEx cI cJ cZ a ef es el ev et eo) ++ (wOu cI cJ cZ a ou))))))) (w1 := ((wOr cI cJ cZ a (F_sel (E_pass (xs ((5 * kR) + 1)) td) (F_drifts px ((t + ix (xs ((5 * kR) + 1))) / 50 - t / 50)) px) py (F_sel (E_pass (xs ((5 * kR) + 1)) td) (td + (xs ((5 * kR) + 1))) td)) ++ ((wFi cI cJ cZ a ld sl bd pw dt (F_sel (E_pass (xs ((5 * kR) + 1)) td) (F_lapSt st tl so (td + (xs ((5 * kR) + 1))) n) st) uc (F_sel (E_pass (xs ((5 * kR) + 1)) td) (F_lapSv st sv tl so (td + (xs ((5 * kR) + 1))) n) sv) tl so lm n nd) ++ ((wSa cI cJ cZ a ss rg hw ax fu si au ns) ++ ((wJo cI cJ cZ a jk jd js jt jn) ++ ((wEx cI cJ cZ a ef es el ev et eo) ++ (wOu cI cJ cZ a (F_sel (E_pass (xs ((5 * kR) + 1)) td) (vp_updL ou 0 ((td + (xs ((5 * kR) + 1))).toInt64)) ou)))))))) (vx_runSW (As := [.ref (a 0), .int (xs ((5 * kR) + 1)), .ref (a 60)]) (rest := []) ⟨hx, hb, hml, hown, hts⟩ (c_L_pass l hflg D cI cJ cZ a H.size px py td ld sl bd pw dt st uc sv tl so lm n nd ss rg hw ax fu si au ns jk jd js jt jn ef es el ev et eo ou (xs ((5 * kR) + 1)) hn t ht ht5) (vx_cwSW 3 hts gL_law_L_pass rfl rfl rfl (by decide +kernel) ⟨Nat.le_of_ble_eq_true rfl, Nat.le_of_ble_eq_true rfl⟩) (z_ps hK (zP_L hP) (zD_L hD) ZX_b (ZX_m hE hS (zF_L hD hS hA))) rfl rfl hl.1 rfl (lv_room (Nat.le_of_ble_eq_true rfl)) dL_law_1261 ⟨hcr, hsr⟩) hP hD hS hA (adrC.trans adrC.symm) (fun r_ H locs hr_ hP hS => ?_)
    have hP : va_P D vwCl (((wOr cI cJ cZ a px py td) ++ ((wFi cI cJ cZ a ld sl bd pw dt st uc sv tl so lm n nd) ++ ((wSa cI cJ cZ a ss rg hw ax fu si au ns) ++ ((wJo cI cJ cZ a jk jd js jt jn) ++ ((wEx cI cJ cZ a ef es el ev et eo) ++ (wOu cI cJ cZ a ou)))))) ++ (wMo cI cJ cZ a th td nd n ld sl bd pw dt st uc sv tl so ag ns ss rg hw ax fu si au px pg py)) H := by have h9 := hP; simp only [F_sel_no hE0] at h9; exact h9
    have hD : va_D A (((wOr cI cJ cZ a px py td) ++ ((wFi cI cJ cZ a ld sl bd pw dt st uc sv tl so lm n nd) ++ ((wSa cI cJ cZ a ss rg hw ax fu si au ns) ++ ((wJo cI cJ cZ a jk jd js jt jn) ++ ((wEx cI cJ cZ a ef es el ev et eo) ++ (wOu cI cJ cZ a ou)))))) ++ (wMo cI cJ cZ a th td nd n ld sl bd pw dt st uc sv tl so ag ns ss rg hw ax fu si au px pg py)) := zD_law hD
    subst hr_
    have hnz : ¬ (nI (E_pass (xs ((5 * kR) + 1)) td)) = 0 := z_nz hE0 (by unfold E_pass; (repeat' split); all_goals decide)
    refine lv_istore (lv' := [(5, .int (nI (E_pass (xs ((5 * kR) + 1)) td))), (0, .ref b), (1, .ref (a 0)), (2, .ref (a 30)), (3, .ref (a 60)), (4, .int (nI (5 * kR)))]) hx hb dL_law_1264 hl (by decide) rfl (fun ls hl => ?_)
    refine lv_aload_n hx hb dL_law_1266 rfl (lv_at hl 3 rfl) ?_
    refine lv_aload_n hx hb dL_law_1267 rfl (lv_at hl 1 rfl) ?_
    refine lv_iload hx hb dL_law_1268 (lv_at hl 5 rfl) ?_
    refine lv_iconst (v := 1) hx hb dL_law_1270 (by decide) ?_
    refine lv_iadd hx hb dL_law_1271 ?_
    refine z_sld hx hb hX hbl hbA hS hL ((5 * kR) + 1) (z_iadd rfl (by decide)) (by omega) dL_law_1272 ?_
    refine z_ciR (pre := ((wOr cI cJ cZ a px py td) ++ ((wFi cI cJ cZ a ld sl bd pw dt st uc sv tl so lm n nd) ++ ((wSa cI cJ cZ a ss rg hw ax fu si au ns) ++ ((wJo cI cJ cZ a jk jd js jt jn) ++ ((wEx cI cJ cZ a ef es el ev et eo) ++ (wOu cI cJ cZ a ou))))))) (wc := (wMo cI cJ cZ a th td nd n ld sl bd pw dt st uc sv tl so ag ns ss rg hw ax fu si au px pg py)) (w1 := (wMo cI cJ cZ a (nI (E_pass (xs ((5 * kR) + 1)) td)) (F_sel (E_pass (xs ((5 * kR) + 1)) td) ((G_days tl so n (td, st, sv, ag, px, pg) (ix (xs ((5 * kR) + 1)))).1) td) nd n ld sl bd pw dt (F_sel (E_pass (xs ((5 * kR) + 1)) td) ((G_days tl so n (td, st, sv, ag, px, pg) (ix (xs ((5 * kR) + 1)))).2.1) st) uc (F_sel (E_pass (xs ((5 * kR) + 1)) td) ((G_days tl so n (td, st, sv, ag, px, pg) (ix (xs ((5 * kR) + 1)))).2.2.1) sv) tl so (F_sel (E_pass (xs ((5 * kR) + 1)) td) ((G_days tl so n (td, st, sv, ag, px, pg) (ix (xs ((5 * kR) + 1)))).2.2.2.1) ag) ns ss rg hw ax fu si au (F_sel (E_pass (xs ((5 * kR) + 1)) td) ((G_days tl so n (td, st, sv, ag, px, pg) (ix (xs ((5 * kR) + 1)))).2.2.2.2.1) px) (F_sel (E_pass (xs ((5 * kR) + 1)) td) ((G_days tl so n (td, st, sv, ag, px, pg) (ix (xs ((5 * kR) + 1)))).2.2.2.2.2) pg) py)) (va_runV (As := [.int (xs ((5 * kR) + 1))]) (rest := []) ⟨hx, hb, hml, hown, hts⟩ (c_X5_pass l D cI cJ cZ a H.size th td nd n ld sl bd pw dt st uc sv tl so ag ns ss rg hw ax fu si au px pg py (xs ((5 * kR) + 1)) hn) (cwV 1 hts gL_law_X5_pass rfl rfl rfl (by decide +kernel) ⟨Nat.le_of_ble_eq_true rfl, Nat.le_of_ble_eq_true rfl⟩) (z_pv hK (zP_R hP) (zD_R hD) (q0 := 0) (ci := 5) rfl rfl zT_b zT_m) rfl rfl hl.1 rfl (lv_room (Nat.le_of_ble_eq_true rfl)) dL_law_1273 ⟨hcr, hsr⟩) hP hD hS hA (adrM.trans adrM.symm) (fun r_ H locs hr_ hP hS => ?_)
    have heq : E_pass (xs ((5 * kR) + 1)) td = E_pass (xs ((5 * kR) + 1)) td := rfl
    have hE1 : ¬ E_pass (xs ((5 * kR) + 1)) td = 0 := fun h => hE0 (heq.symm.trans h)
    have hP : va_P D vwCl (((wOr cI cJ cZ a px py td) ++ ((wFi cI cJ cZ a ld sl bd pw dt st uc sv tl so lm n nd) ++ ((wSa cI cJ cZ a ss rg hw ax fu si au ns) ++ ((wJo cI cJ cZ a jk jd js jt jn) ++ ((wEx cI cJ cZ a ef es el ev et eo) ++ (wOu cI cJ cZ a ou)))))) ++ (wMo cI cJ cZ a (nI (E_pass (xs ((5 * kR) + 1)) td)) td nd n ld sl bd pw dt st uc sv tl so ag ns ss rg hw ax fu si au px pg py)) H := by have h9 := hP; simp only [F_sel_no hE1] at h9; exact h9
    have hD : va_D A (((wOr cI cJ cZ a px py td) ++ ((wFi cI cJ cZ a ld sl bd pw dt st uc sv tl so lm n nd) ++ ((wSa cI cJ cZ a ss rg hw ax fu si au ns) ++ ((wJo cI cJ cZ a jk jd js jt jn) ++ ((wEx cI cJ cZ a ef es el ev et eo) ++ (wOu cI cJ cZ a ou)))))) ++ (wMo cI cJ cZ a (nI (E_pass (xs ((5 * kR) + 1)) td)) td nd n ld sl bd pw dt st uc sv tl so ag ns ss rg hw ax fu si au px pg py)) := zD_law hD
    obtain rfl : r_ = 0 := hr_.trans (F_sel_no hE1 _ _)
    refine lv_istore (lv' := [(6, .int 0), (5, .int (nI (E_pass (xs ((5 * kR) + 1)) td))), (0, .ref b), (1, .ref (a 0)), (2, .ref (a 30)), (3, .ref (a 60)), (4, .int (nI (5 * kR)))]) hx hb dL_law_1276 hl (by decide) rfl (fun ls hl => ?_)
    refine lv_aload_n hx hb dL_law_1278 rfl (lv_at hl 4 rfl) ?_
    refine z_ri (va_runV (As := []) (rest := []) ⟨hx, hb, hml, hown, hts⟩ (c_X5_thrown l D cI cJ cZ a H.size (nI (E_pass (xs ((5 * kR) + 1)) td)) td nd n ld sl bd pw dt st uc sv tl so ag ns ss rg hw ax fu si au px pg py) (cwV 0 hts gL_law_X5_thrown rfl rfl rfl (by decide +kernel) ⟨Nat.le_of_ble_eq_true rfl, Nat.le_of_ble_eq_true rfl⟩) (z_pv hK (zP_R hP) (zD_R hD) (q0 := 0) (ci := 5) rfl rfl zT_b zT_m) rfl rfl hl.1 rfl (lv_room (Nat.le_of_ble_eq_true rfl)) dL_law_1279 ⟨hcr, hsr⟩) hP hS hA (fun r_ _ H locs hr_ hP hS => ?_)
    subst hr_
    refine lv_iload hx hb dL_law_1282 (lv_at hl 1 rfl) ?_
    refine lv_icmp_eq (tgt := 1289) hx hb dL_law_1284 (by decide) (fun _ => ?_) (fun c9 => absurd rfl c9)
    refine lv_iload hx hb dL_law_1289 (lv_at hl 1 rfl) ?_
    refine lv_if_ne (tgt := 1306) hx hb dL_law_1291 (by decide) (fun _ => ?_) (fun c9 => absurd c9 hnz)
    refine lv_goto (tgt := 1941) hx hb dL_law_1306 (by decide) ?_
    exact kk H locs ls ⟨px, py, td, ld, sl, bd, pw, dt, st, uc, sv, tl, so, lm, n, nd, ss, rg, hw, ax, fu, si, au, ns, jk, jd, js, jt, jn, ef, es, el, ev, et, eo, nI (E_pass (xs ((5 * kR) + 1)) td), pg, ag, ou, hR.mono, hP, hD⟩ hS (lv_sub hl [2, 3, 4, 5, 6] rfl)
set_option maxHeartbeats 8000000 in
set_option maxRecDepth 100000 in
theorem law_day (p : Program) (l : Launch) (e : Env) (s : State) (m : MethodId) (below : List Frame) (meth : Method) (c : Code) (b L : Nat) (xs : Nat → Int32) (D : va_G) (cI cJ cZ : ClassId) (a : Nat → Nat) (A : Nat → Prop) (kR : Nat) (H : Heap) (locs : List Loc) (cells slots : Nat) (Q : State → Prop) (ls : Array Slot) (hZ : ZLw D cI cJ cZ a A kR H) : ZGo p l e s m below meth c b L xs D cI cJ cZ a A kR H locs cells slots Q ls 1309 := by
  intro hx hb hml hown hts hX hbl hbA hA hK hE hflg hkL hL hk hS hl hcr hsr kk
  obtain ⟨px, py, td, ld, sl, bd, pw, dt, st, uc, sv, tl, so, lm, n, nd, ss, rg, hw, ax, fu, si, au, ns, jk, jd, js, jt, jn, ef, es, el, ev, et, eo, th, pg, ag, ou, hR, hP, hD⟩ := hZ
  obtain ⟨t, ht, ht5, hjk, hF9, hL9, hS9, hJ9⟩ := id hR
  have hn : n ≤ 40 := hF9.1
  have hs : ns ≤ 16 := hS9.1
  have hj : jn < 512 := Nat.lt_of_le_of_lt hjk hk
  have hax := R_hax hS9
  have hmy := R_hmy hS9
  have hkk := hJ9.1
  refine lv_aload_n hx hb dL_law_1309 rfl (lv_at hl 1 rfl) ?_
  refine z_ri (va_runV (As := []) (rest := []) ⟨hx, hb, hml, hown, hts⟩ (c_X4_day l D cI cJ cZ a H.size px py td ld sl bd pw dt st uc sv tl so lm n nd ss rg hw ax fu si au ns jk jd js jt jn ef es el ev et eo) (cwV 0 hts gL_law_X4_day rfl rfl rfl (by decide +kernel) ⟨Nat.le_of_ble_eq_true rfl, Nat.le_of_ble_eq_true rfl⟩) (z_pv hK ((zP_L hP).sub [0, 1, 2, 3, 4, 5, 6, 7, 8, 9, 10, 11, 12, 13, 14, 15, 16, 17, 18, 19, 20, 21, 22, 23, 24, 25, 26, 27, 28] rfl) ((zD_L hD).sub [0, 1, 2, 3, 4, 5, 6, 7, 8, 9, 10, 11, 12, 13, 14, 15, 16, 17, 18, 19, 20, 21, 22, 23, 24, 25, 26, 27, 28] (by decide) rfl) (q0 := 0) (ci := 4) rfl rfl zT_b zT_m) rfl rfl hl.1 rfl (lv_room (Nat.le_of_ble_eq_true rfl)) dL_law_1310 ⟨Nat.le_of_succ_le hcr, z_le6 hsr⟩) hP hS hA (fun r_ _ H locs hr_ hP hS => ?_)
  rw [show r_ = td from hr_]
  refine lv_aload_n hx hb dL_law_1313 rfl (lv_at hl 2 rfl) ?_
  refine z_ciR (pre := ((wOr cI cJ cZ a px py td) ++ ((wFi cI cJ cZ a ld sl bd pw dt st uc sv tl so lm n nd) ++ ((wSa cI cJ cZ a ss rg hw ax fu si au ns) ++ ((wJo cI cJ cZ a jk jd js jt jn) ++ ((wEx cI cJ cZ a ef es el ev et eo) ++ (wOu cI cJ cZ a ou))))))) (wc := (wMo cI cJ cZ a th td nd n ld sl bd pw dt st uc sv tl so ag ns ss rg hw ax fu si au px pg py)) (w1 := (wMo cI cJ cZ a 0 td nd n ld sl bd pw dt st uc sv tl so ag ns ss rg hw ax fu si au px pg py)) (va_runV (As := []) (rest := [.int td]) ⟨hx, hb, hml, hown, hts⟩ (c_X5_day l D cI cJ cZ a H.size th td nd n ld sl bd pw dt st uc sv tl so ag ns ss rg hw ax fu si au px pg py) (cwV 0 hts gL_law_X5_day rfl rfl rfl (by decide +kernel) ⟨Nat.le_of_ble_eq_true rfl, Nat.le_of_ble_eq_true rfl⟩) (z_pv hK (zP_R hP) (zD_R hD) (q0 := 0) (ci := 5) rfl rfl zT_b zT_m) rfl rfl hl.1 rfl (lv_room (Nat.le_of_ble_eq_true rfl)) dL_law_1314 ⟨Nat.le_of_succ_le hcr, z_le6 hsr⟩) hP hD hS hA (adrM.trans adrM.symm) (fun r_ H locs hr_ hP hS => ?_)
  have hP : va_P D vwCl (((wOr cI cJ cZ a px py td) ++ ((wFi cI cJ cZ a ld sl bd pw dt st uc sv tl so lm n nd) ++ ((wSa cI cJ cZ a ss rg hw ax fu si au ns) ++ ((wJo cI cJ cZ a jk jd js jt jn) ++ ((wEx cI cJ cZ a ef es el ev et eo) ++ (wOu cI cJ cZ a ou)))))) ++ (wMo cI cJ cZ a 0 td nd n ld sl bd pw dt st uc sv tl so ag ns ss rg hw ax fu si au px pg py)) H := hP
  have hD : va_D A (((wOr cI cJ cZ a px py td) ++ ((wFi cI cJ cZ a ld sl bd pw dt st uc sv tl so lm n nd) ++ ((wSa cI cJ cZ a ss rg hw ax fu si au ns) ++ ((wJo cI cJ cZ a jk jd js jt jn) ++ ((wEx cI cJ cZ a ef es el ev et eo) ++ (wOu cI cJ cZ a ou)))))) ++ (wMo cI cJ cZ a 0 td nd n ld sl bd pw dt st uc sv tl so ag ns ss rg hw ax fu si au px pg py)) := zD_law hD
  rw [show r_ = td from hr_]
  refine lv_icmp_eq (tgt := 1941) hx hb dL_law_1317 (by decide) (fun _ => ?_) (fun c9 => absurd rfl c9)
  refine W.widen (k := cells + 1) (n := slots + 6) (Nat.le_add_right _ _) (Nat.le_add_right _ _) ?_
  exact kk H locs ls ⟨px, py, td, ld, sl, bd, pw, dt, st, uc, sv, tl, so, lm, n, nd, ss, rg, hw, ax, fu, si, au, ns, jk, jd, js, jt, jn, ef, es, el, ev, et, eo, 0, pg, ag, ou, hR.mono, hP, hD⟩ hS (lv_sub hl [0, 1, 2, 3, 4] rfl)
set_option maxHeartbeats 8000000 in
set_option maxRecDepth 100000 in
theorem law_filingOf (p : Program) (l : Launch) (e : Env) (s : State) (m : MethodId) (below : List Frame) (meth : Method) (c : Code) (b L : Nat) (xs : Nat → Int32) (D : va_G) (cI cJ cZ : ClassId) (a : Nat → Nat) (A : Nat → Prop) (kR : Nat) (H : Heap) (locs : List Loc) (cells slots : Nat) (Q : State → Prop) (ls : Array Slot) (hZ : ZLw D cI cJ cZ a A kR H) : ZGo p l e s m below meth c b L xs D cI cJ cZ a A kR H locs cells slots Q ls 1322 := by
  intro hx hb hml hown hts hX hbl hbA hA hK hE hflg hkL hL hk hS hl hcr hsr kk
  obtain ⟨px, py, td, ld, sl, bd, pw, dt, st, uc, sv, tl, so, lm, n, nd, ss, rg, hw, ax, fu, si, au, ns, jk, jd, js, jt, jn, ef, es, el, ev, et, eo, th, pg, ag, ou, hR, hP, hD⟩ := hZ
  obtain ⟨t, ht, ht5, hjk, hF9, hL9, hS9, hJ9⟩ := id hR
  have hn : n ≤ 40 := hF9.1
  have hs : ns ≤ 16 := hS9.1
  have hj : jn < 512 := Nat.lt_of_le_of_lt hjk hk
  have hax := R_hax hS9
  have hmy := R_hmy hS9
  have hkk := hJ9.1
  refine lv_aload_n hx hb dL_law_1322 rfl (lv_at hl 1 rfl) ?_
  refine lv_aload_n hx hb dL_law_1323 rfl (lv_at hl 0 rfl) ?_
  refine lv_iload hx hb dL_law_1324 (lv_at hl 4 rfl) ?_
  refine lv_iconst (v := 1) hx hb dL_law_1326 (by decide) ?_
  refine lv_iadd hx hb dL_law_1327 ?_
  refine z_sld hx hb hX hbl hbA hS hL ((5 * kR) + 1) (z_iadd rfl (by decide)) (by omega) dL_law_1328 ?_
  refine lv_aload_n hx hb dL_law_1329 rfl (lv_at hl 0 rfl) ?_
  refine lv_iload hx hb dL_law_1330 (lv_at hl 4 rfl) ?_
  refine lv_iconst (v := 2) hx hb dL_law_1332 (by decide) ?_
  refine lv_iadd hx hb dL_law_1333 ?_
  refine z_sld hx hb hX hbl hbA hS hL ((5 * kR) + 2) (z_iadd rfl (by decide)) (by omega) dL_law_1334 ?_
  refine lv_aload_n hx hb dL_law_1335 rfl (lv_at hl 3 rfl) ?_
  by_cases hE0 : E_filingOf (xs ((5 * kR) + 1)) (xs ((5 * kR) + 2)) n = 0
  · refine z_ciL (suf := (wMo cI cJ cZ a th td nd n ld sl bd pw dt st uc sv tl so ag ns ss rg hw ax fu si au px pg py)) (wc := ((wOr cI cJ cZ a px py td) ++ ((wFi cI cJ cZ a ld sl bd pw dt st uc sv tl so lm n nd) ++ ((wSa cI cJ cZ a ss rg hw ax fu si au ns) ++ ((wJo cI cJ cZ a jk jd js jt jn) ++ ((wEx cI cJ cZ a ef es el ev et eo) ++ (wOu cI cJ cZ a ou))))))) (w1 := ((wOr cI cJ cZ a px py td) ++ ((wFi cI cJ cZ a ld sl bd pw dt st uc sv tl so lm n nd) ++ ((wSa cI cJ cZ a ss rg hw ax fu si au ns) ++ ((wJo cI cJ cZ a jk jd js jt jn) ++ ((wEx cI cJ cZ a ef es el ev et eo) ++ (wOu cI cJ cZ a (F_sel (E_filingOf (xs ((5 * kR) + 1)) (xs ((5 * kR) + 2)) n) (vp_updL ou 0 ((F_fof ld sl bd pw dt st uc sv tl so (ix (xs ((5 * kR) + 1))) (ix (xs ((5 * kR) + 2)))).toInt64)) ou)))))))) (vx_runSW (As := [.ref (a 0), .int (xs ((5 * kR) + 1)), .int (xs ((5 * kR) + 2)), .ref (a 60)]) (rest := []) ⟨hx, hb, hml, hown, hts⟩ (c_L_filingOf l hflg D cI cJ cZ a H.size px py td ld sl bd pw dt st uc sv tl so lm n nd ss rg hw ax fu si au ns jk jd js jt jn ef es el ev et eo ou (xs ((5 * kR) + 1)) (xs ((5 * kR) + 2)) hn) (vx_cwSW 4 hts gL_law_L_filingOf rfl rfl rfl (by decide +kernel) ⟨Nat.le_of_ble_eq_true rfl, Nat.le_of_ble_eq_true rfl⟩) (z_ps hK (zP_L hP) (zD_L hD) ZX_b (ZX_m hE hS (zF_L hD hS hA))) rfl rfl hl.1 rfl (lv_room (Nat.le_of_ble_eq_true rfl)) dL_law_1336 ⟨hcr, hsr⟩) hP hD hS hA (adrC.trans adrC.symm) (fun r_ H locs hr_ hP hS => ?_)
    have hP : va_P D vwCl (((wOr cI cJ cZ a px py td) ++ ((wFi cI cJ cZ a ld sl bd pw dt st uc sv tl so lm n nd) ++ ((wSa cI cJ cZ a ss rg hw ax fu si au ns) ++ ((wJo cI cJ cZ a jk jd js jt jn) ++ ((wEx cI cJ cZ a ef es el ev et eo) ++ (wOu cI cJ cZ a (vp_updL ou 0 ((F_fof ld sl bd pw dt st uc sv tl so (ix (xs ((5 * kR) + 1))) (ix (xs ((5 * kR) + 2)))).toInt64)))))))) ++ (wMo cI cJ cZ a th td nd n ld sl bd pw dt st uc sv tl so ag ns ss rg hw ax fu si au px pg py)) H := by have h9 := hP; simp only [F_sel_yes hE0] at h9; exact h9
    have hD : va_D A (((wOr cI cJ cZ a px py td) ++ ((wFi cI cJ cZ a ld sl bd pw dt st uc sv tl so lm n nd) ++ ((wSa cI cJ cZ a ss rg hw ax fu si au ns) ++ ((wJo cI cJ cZ a jk jd js jt jn) ++ ((wEx cI cJ cZ a ef es el ev et eo) ++ (wOu cI cJ cZ a (vp_updL ou 0 ((F_fof ld sl bd pw dt st uc sv tl so (ix (xs ((5 * kR) + 1))) (ix (xs ((5 * kR) + 2)))).toInt64)))))))) ++ (wMo cI cJ cZ a th td nd n ld sl bd pw dt st uc sv tl so ag ns ss rg hw ax fu si au px pg py)) := zD_law hD
    obtain rfl : r_ = 0 := hr_.trans (by rw [hE0]; decide)
    have hp9 := (p_filingOf kR t px py td ld sl bd pw dt st uc sv tl so lm n nd ss rg hw ax fu si au ns jk jd js jt jn ef es el ev et eo ag pg (xs ((5 * kR) + 1)) (xs ((5 * kR) + 2)) hR ht hk hE0)
    refine lv_istore (lv' := [(5, .int 0), (0, .ref b), (1, .ref (a 0)), (2, .ref (a 30)), (3, .ref (a 60)), (4, .int (nI (5 * kR)))]) hx hb dL_law_1339 hl (by decide) rfl (fun ls hl => ?_)
    refine lv_aload_n hx hb dL_law_1341 rfl (lv_at hl 3 rfl) ?_
    refine lv_aload_n hx hb dL_law_1342 rfl (lv_at hl 1 rfl) ?_
    refine lv_iload hx hb dL_law_1343 (lv_at hl 5 rfl) ?_
    refine lv_iconst (v := 1) hx hb dL_law_1345 (by decide) ?_
    refine lv_iadd hx hb dL_law_1346 ?_
    refine z_sld hx hb hX hbl hbA hS hL ((5 * kR) + 1) (z_iadd rfl (by decide)) (by omega) dL_law_1347 ?_
    refine lv_aload_n hx hb dL_law_1348 rfl (lv_at hl 1 rfl) ?_
    refine lv_iload hx hb dL_law_1349 (lv_at hl 5 rfl) ?_
    refine lv_iconst (v := 2) hx hb dL_law_1351 (by decide) ?_
    refine lv_iadd hx hb dL_law_1352 ?_
    refine z_sld hx hb hX hbl hbA hS hL ((5 * kR) + 2) (z_iadd rfl (by decide)) (by omega) dL_law_1353 ?_
    refine z_ciR (pre := ((wOr cI cJ cZ a px py td) ++ ((wFi cI cJ cZ a ld sl bd pw dt st uc sv tl so lm n nd) ++ ((wSa cI cJ cZ a ss rg hw ax fu si au ns) ++ ((wJo cI cJ cZ a jk jd js jt jn) ++ ((wEx cI cJ cZ a ef es el ev et eo) ++ (wOu cI cJ cZ a (vp_updL ou 0 ((F_fof ld sl bd pw dt st uc sv tl so (ix (xs ((5 * kR) + 1))) (ix (xs ((5 * kR) + 2)))).toInt64))))))))) (wc := (wMo cI cJ cZ a th td nd n ld sl bd pw dt st uc sv tl so ag ns ss rg hw ax fu si au px pg py)) (w1 := (wMo cI cJ cZ a (nI (E_filingOf (xs ((5 * kR) + 1)) (xs ((5 * kR) + 2)) n)) td nd n ld sl bd pw dt st uc sv tl so ag ns ss rg hw ax fu si au px pg py)) (va_runV (As := [.int (xs ((5 * kR) + 1)), .int (xs ((5 * kR) + 2))]) (rest := []) ⟨hx, hb, hml, hown, hts⟩ (c_X5_filingOf l D cI cJ cZ a H.size th td nd n ld sl bd pw dt st uc sv tl so ag ns ss rg hw ax fu si au px pg py (xs ((5 * kR) + 1)) (xs ((5 * kR) + 2)) hn) (cwV 2 hts gL_law_X5_filingOf rfl rfl rfl (by decide +kernel) ⟨Nat.le_of_ble_eq_true rfl, Nat.le_of_ble_eq_true rfl⟩) (z_pv hK (zP_R hP) (zD_R hD) (q0 := 0) (ci := 5) rfl rfl zT_b zT_m) rfl rfl hl.1 rfl (lv_room (Nat.le_of_ble_eq_true rfl)) dL_law_1354 ⟨hcr, hsr⟩) hP hD hS hA (adrM.trans adrM.symm) (fun r_ H locs hr_ hP hS => ?_)
    have heq : E_filingOf (xs ((5 * kR) + 1)) (xs ((5 * kR) + 2)) n = E_filingOf (xs ((5 * kR) + 1)) (xs ((5 * kR) + 2)) n := rfl
    have hE1 : E_filingOf (xs ((5 * kR) + 1)) (xs ((5 * kR) + 2)) n = 0 := heq.trans hE0
    have hth : nI (E_filingOf (xs ((5 * kR) + 1)) (xs ((5 * kR) + 2)) n) = 0 := by rw [hE1]; decide
    have hP : va_P D vwCl (((wOr cI cJ cZ a px py td) ++ ((wFi cI cJ cZ a ld sl bd pw dt st uc sv tl so lm n nd) ++ ((wSa cI cJ cZ a ss rg hw ax fu si au ns) ++ ((wJo cI cJ cZ a jk jd js jt jn) ++ ((wEx cI cJ cZ a ef es el ev et eo) ++ (wOu cI cJ cZ a (vp_updL ou 0 ((F_fof ld sl bd pw dt st uc sv tl so (ix (xs ((5 * kR) + 1))) (ix (xs ((5 * kR) + 2)))).toInt64)))))))) ++ (wMo cI cJ cZ a 0 td nd n ld sl bd pw dt st uc sv tl so ag ns ss rg hw ax fu si au px pg py)) H := by have h9 := hP; simp only [hth, F_sel_yes hE1] at h9; exact h9
    have hD : va_D A (((wOr cI cJ cZ a px py td) ++ ((wFi cI cJ cZ a ld sl bd pw dt st uc sv tl so lm n nd) ++ ((wSa cI cJ cZ a ss rg hw ax fu si au ns) ++ ((wJo cI cJ cZ a jk jd js jt jn) ++ ((wEx cI cJ cZ a ef es el ev et eo) ++ (wOu cI cJ cZ a (vp_updL ou 0 ((F_fof ld sl bd pw dt st uc sv tl so (ix (xs ((5 * kR) + 1))) (ix (xs ((5 * kR) + 2)))).toInt64)))))))) ++ (wMo cI cJ cZ a 0 td nd n ld sl bd pw dt st uc sv tl so ag ns ss rg hw ax fu si au px pg py)) := zD_law hD
    obtain rfl : r_ = G_fof ld sl bd pw dt st uc sv tl so (ix (xs ((5 * kR) + 1))) (ix (xs ((5 * kR) + 2))) := hr_.trans (F_sel_yes hE1 _ _)
    refine lv_istore (lv' := [(6, .int (G_fof ld sl bd pw dt st uc sv tl so (ix (xs ((5 * kR) + 1))) (ix (xs ((5 * kR) + 2))))), (5, .int 0), (0, .ref b), (1, .ref (a 0)), (2, .ref (a 30)), (3, .ref (a 60)), (4, .int (nI (5 * kR)))]) hx hb dL_law_1357 hl (by decide) rfl (fun ls hl => ?_)
    refine lv_aload_n hx hb dL_law_1359 rfl (lv_at hl 4 rfl) ?_
    refine z_ri (va_runV (As := []) (rest := []) ⟨hx, hb, hml, hown, hts⟩ (c_X5_thrown l D cI cJ cZ a H.size 0 td nd n ld sl bd pw dt st uc sv tl so ag ns ss rg hw ax fu si au px pg py) (cwV 0 hts gL_law_X5_thrown rfl rfl rfl (by decide +kernel) ⟨Nat.le_of_ble_eq_true rfl, Nat.le_of_ble_eq_true rfl⟩) (z_pv hK (zP_R hP) (zD_R hD) (q0 := 0) (ci := 5) rfl rfl zT_b zT_m) rfl rfl hl.1 rfl (lv_room (Nat.le_of_ble_eq_true rfl)) dL_law_1360 ⟨hcr, hsr⟩) hP hS hA (fun r_ _ H locs hr_ hP hS => ?_)
    subst hr_
    refine lv_iload hx hb dL_law_1363 (lv_at hl 1 rfl) ?_
    refine lv_icmp_eq (tgt := 1370) hx hb dL_law_1365 (by decide) (fun _ => ?_) (fun c9 => absurd (by decide) c9)
    refine lv_iload hx hb dL_law_1370 (lv_at hl 1 rfl) ?_
    refine lv_if_ne (tgt := 1387) hx hb dL_law_1372 (by decide) (fun c9 => absurd (by decide) c9) (fun _ => ?_)
    refine lv_aload_n hx hb dL_law_1375 rfl (lv_at hl 5 rfl) ?_
    refine lv_iconst (v := 0) hx hb dL_law_1376 (by decide) ?_
    refine z_lald hx hb hK hP 29 1 rfl rfl 0 (by decide) (by decide) rfl dL_law_1377 ?_
    refine lv_iload hx hb dL_law_1378 (lv_at hl 0 rfl) ?_
    refine lv_i2l (v := (G_fof ld sl bd pw dt st uc sv tl so (ix (xs ((5 * kR) + 1))) (ix (xs ((5 * kR) + 2)))).toInt64) hx hb dL_law_1380 rfl ?_
    have hc9 : lg_cmp ((vp_updL ou 0 ((F_fof ld sl bd pw dt st uc sv tl so (ix (xs ((5 * kR) + 1))) (ix (xs ((5 * kR) + 2)))).toInt64)) 0) ((G_fof ld sl bd pw dt st uc sv tl so (ix (xs ((5 * kR) + 1))) (ix (xs ((5 * kR) + 2)))).toInt64) = 0 := z_cmp ((vp_updL_0 _ _).trans (by rw [hp9.1]))
    refine W.lcmp hx hb dL_law_1381 ?_
    refine lv_if_eq (tgt := 1387) hx hb dL_law_1382 (by decide) (fun _ => ?_) (fun c9 => absurd hc9 c9)
    refine lv_goto (tgt := 1941) hx hb dL_law_1387 (by decide) ?_
    exact kk H locs ls ⟨px, py, td, ld, sl, bd, pw, dt, st, uc, sv, tl, so, lm, n, nd, ss, rg, hw, ax, fu, si, au, ns, jk, jd, js, jt, jn, ef, es, el, ev, et, eo, 0, pg, ag, (vp_updL ou 0 ((F_fof ld sl bd pw dt st uc sv tl so (ix (xs ((5 * kR) + 1))) (ix (xs ((5 * kR) + 2)))).toInt64)), hp9.2, hP, hD⟩ hS (lv_sub hl [2, 3, 4, 5, 6] rfl)
  · refine z_ciL (suf := (wMo cI cJ cZ a th td nd n ld sl bd pw dt st uc sv tl so ag ns ss rg hw ax fu si au px pg py)) (wc := ((wOr cI cJ cZ a px py td) ++ ((wFi cI cJ cZ a ld sl bd pw dt st uc sv tl so lm n nd) ++ ((wSa cI cJ cZ a ss rg hw ax fu si au ns) ++ ((wJo cI cJ cZ a jk jd js jt jn) ++ ((wEx cI cJ cZ a ef es el ev et eo) ++ (wOu cI cJ cZ a ou))))))) (w1 := ((wOr cI cJ cZ a px py td) ++ ((wFi cI cJ cZ a ld sl bd pw dt st uc sv tl so lm n nd) ++ ((wSa cI cJ cZ a ss rg hw ax fu si au ns) ++ ((wJo cI cJ cZ a jk jd js jt jn) ++ ((wEx cI cJ cZ a ef es el ev et eo) ++ (wOu cI cJ cZ a (F_sel (E_filingOf (xs ((5 * kR) + 1)) (xs ((5 * kR) + 2)) n) (vp_updL ou 0 ((F_fof ld sl bd pw dt st uc sv tl so (ix (xs ((5 * kR) + 1))) (ix (xs ((5 * kR) + 2)))).toInt64)) ou)))))))) (vx_runSW (As := [.ref (a 0), .int (xs ((5 * kR) + 1)), .int (xs ((5 * kR) + 2)), .ref (a 60)]) (rest := []) ⟨hx, hb, hml, hown, hts⟩ (c_L_filingOf l hflg D cI cJ cZ a H.size px py td ld sl bd pw dt st uc sv tl so lm n nd ss rg hw ax fu si au ns jk jd js jt jn ef es el ev et eo ou (xs ((5 * kR) + 1)) (xs ((5 * kR) + 2)) hn) (vx_cwSW 4 hts gL_law_L_filingOf rfl rfl rfl (by decide +kernel) ⟨Nat.le_of_ble_eq_true rfl, Nat.le_of_ble_eq_true rfl⟩) (z_ps hK (zP_L hP) (zD_L hD) ZX_b (ZX_m hE hS (zF_L hD hS hA))) rfl rfl hl.1 rfl (lv_room (Nat.le_of_ble_eq_true rfl)) dL_law_1336 ⟨hcr, hsr⟩) hP hD hS hA (adrC.trans adrC.symm) (fun r_ H locs hr_ hP hS => ?_)
    have hP : va_P D vwCl (((wOr cI cJ cZ a px py td) ++ ((wFi cI cJ cZ a ld sl bd pw dt st uc sv tl so lm n nd) ++ ((wSa cI cJ cZ a ss rg hw ax fu si au ns) ++ ((wJo cI cJ cZ a jk jd js jt jn) ++ ((wEx cI cJ cZ a ef es el ev et eo) ++ (wOu cI cJ cZ a ou)))))) ++ (wMo cI cJ cZ a th td nd n ld sl bd pw dt st uc sv tl so ag ns ss rg hw ax fu si au px pg py)) H := by have h9 := hP; simp only [F_sel_no hE0] at h9; exact h9
    have hD : va_D A (((wOr cI cJ cZ a px py td) ++ ((wFi cI cJ cZ a ld sl bd pw dt st uc sv tl so lm n nd) ++ ((wSa cI cJ cZ a ss rg hw ax fu si au ns) ++ ((wJo cI cJ cZ a jk jd js jt jn) ++ ((wEx cI cJ cZ a ef es el ev et eo) ++ (wOu cI cJ cZ a ou)))))) ++ (wMo cI cJ cZ a th td nd n ld sl bd pw dt st uc sv tl so ag ns ss rg hw ax fu si au px pg py)) := zD_law hD
    subst hr_
    have hnz : ¬ (nI (E_filingOf (xs ((5 * kR) + 1)) (xs ((5 * kR) + 2)) n)) = 0 := z_nz hE0 (by unfold E_filingOf; (repeat' split); all_goals decide)
    refine lv_istore (lv' := [(5, .int (nI (E_filingOf (xs ((5 * kR) + 1)) (xs ((5 * kR) + 2)) n))), (0, .ref b), (1, .ref (a 0)), (2, .ref (a 30)), (3, .ref (a 60)), (4, .int (nI (5 * kR)))]) hx hb dL_law_1339 hl (by decide) rfl (fun ls hl => ?_)
    refine lv_aload_n hx hb dL_law_1341 rfl (lv_at hl 3 rfl) ?_
    refine lv_aload_n hx hb dL_law_1342 rfl (lv_at hl 1 rfl) ?_
    refine lv_iload hx hb dL_law_1343 (lv_at hl 5 rfl) ?_
    refine lv_iconst (v := 1) hx hb dL_law_1345 (by decide) ?_
    refine lv_iadd hx hb dL_law_1346 ?_
    refine z_sld hx hb hX hbl hbA hS hL ((5 * kR) + 1) (z_iadd rfl (by decide)) (by omega) dL_law_1347 ?_
    refine lv_aload_n hx hb dL_law_1348 rfl (lv_at hl 1 rfl) ?_
    refine lv_iload hx hb dL_law_1349 (lv_at hl 5 rfl) ?_
    refine lv_iconst (v := 2) hx hb dL_law_1351 (by decide) ?_
    refine lv_iadd hx hb dL_law_1352 ?_
    refine z_sld hx hb hX hbl hbA hS hL ((5 * kR) + 2) (z_iadd rfl (by decide)) (by omega) dL_law_1353 ?_
    refine z_ciR (pre := ((wOr cI cJ cZ a px py td) ++ ((wFi cI cJ cZ a ld sl bd pw dt st uc sv tl so lm n nd) ++ ((wSa cI cJ cZ a ss rg hw ax fu si au ns) ++ ((wJo cI cJ cZ a jk jd js jt jn) ++ ((wEx cI cJ cZ a ef es el ev et eo) ++ (wOu cI cJ cZ a ou))))))) (wc := (wMo cI cJ cZ a th td nd n ld sl bd pw dt st uc sv tl so ag ns ss rg hw ax fu si au px pg py)) (w1 := (wMo cI cJ cZ a (nI (E_filingOf (xs ((5 * kR) + 1)) (xs ((5 * kR) + 2)) n)) td nd n ld sl bd pw dt st uc sv tl so ag ns ss rg hw ax fu si au px pg py)) (va_runV (As := [.int (xs ((5 * kR) + 1)), .int (xs ((5 * kR) + 2))]) (rest := []) ⟨hx, hb, hml, hown, hts⟩ (c_X5_filingOf l D cI cJ cZ a H.size th td nd n ld sl bd pw dt st uc sv tl so ag ns ss rg hw ax fu si au px pg py (xs ((5 * kR) + 1)) (xs ((5 * kR) + 2)) hn) (cwV 2 hts gL_law_X5_filingOf rfl rfl rfl (by decide +kernel) ⟨Nat.le_of_ble_eq_true rfl, Nat.le_of_ble_eq_true rfl⟩) (z_pv hK (zP_R hP) (zD_R hD) (q0 := 0) (ci := 5) rfl rfl zT_b zT_m) rfl rfl hl.1 rfl (lv_room (Nat.le_of_ble_eq_true rfl)) dL_law_1354 ⟨hcr, hsr⟩) hP hD hS hA (adrM.trans adrM.symm) (fun r_ H locs hr_ hP hS => ?_)
    have heq : E_filingOf (xs ((5 * kR) + 1)) (xs ((5 * kR) + 2)) n = E_filingOf (xs ((5 * kR) + 1)) (xs ((5 * kR) + 2)) n := rfl
    have hE1 : ¬ E_filingOf (xs ((5 * kR) + 1)) (xs ((5 * kR) + 2)) n = 0 := fun h => hE0 (heq.symm.trans h)
    have hP : va_P D vwCl (((wOr cI cJ cZ a px py td) ++ ((wFi cI cJ cZ a ld sl bd pw dt st uc sv tl so lm n nd) ++ ((wSa cI cJ cZ a ss rg hw ax fu si au ns) ++ ((wJo cI cJ cZ a jk jd js jt jn) ++ ((wEx cI cJ cZ a ef es el ev et eo) ++ (wOu cI cJ cZ a ou)))))) ++ (wMo cI cJ cZ a (nI (E_filingOf (xs ((5 * kR) + 1)) (xs ((5 * kR) + 2)) n)) td nd n ld sl bd pw dt st uc sv tl so ag ns ss rg hw ax fu si au px pg py)) H := hP
    have hD : va_D A (((wOr cI cJ cZ a px py td) ++ ((wFi cI cJ cZ a ld sl bd pw dt st uc sv tl so lm n nd) ++ ((wSa cI cJ cZ a ss rg hw ax fu si au ns) ++ ((wJo cI cJ cZ a jk jd js jt jn) ++ ((wEx cI cJ cZ a ef es el ev et eo) ++ (wOu cI cJ cZ a ou)))))) ++ (wMo cI cJ cZ a (nI (E_filingOf (xs ((5 * kR) + 1)) (xs ((5 * kR) + 2)) n)) td nd n ld sl bd pw dt st uc sv tl so ag ns ss rg hw ax fu si au px pg py)) := zD_law hD
    obtain rfl : r_ = 0 := hr_.trans (F_sel_no hE1 _ _)
    refine lv_istore (lv' := [(6, .int 0), (5, .int (nI (E_filingOf (xs ((5 * kR) + 1)) (xs ((5 * kR) + 2)) n))), (0, .ref b), (1, .ref (a 0)), (2, .ref (a 30)), (3, .ref (a 60)), (4, .int (nI (5 * kR)))]) hx hb dL_law_1357 hl (by decide) rfl (fun ls hl => ?_)
    refine lv_aload_n hx hb dL_law_1359 rfl (lv_at hl 4 rfl) ?_
    refine z_ri (va_runV (As := []) (rest := []) ⟨hx, hb, hml, hown, hts⟩ (c_X5_thrown l D cI cJ cZ a H.size (nI (E_filingOf (xs ((5 * kR) + 1)) (xs ((5 * kR) + 2)) n)) td nd n ld sl bd pw dt st uc sv tl so ag ns ss rg hw ax fu si au px pg py) (cwV 0 hts gL_law_X5_thrown rfl rfl rfl (by decide +kernel) ⟨Nat.le_of_ble_eq_true rfl, Nat.le_of_ble_eq_true rfl⟩) (z_pv hK (zP_R hP) (zD_R hD) (q0 := 0) (ci := 5) rfl rfl zT_b zT_m) rfl rfl hl.1 rfl (lv_room (Nat.le_of_ble_eq_true rfl)) dL_law_1360 ⟨hcr, hsr⟩) hP hS hA (fun r_ _ H locs hr_ hP hS => ?_)
    subst hr_
    refine lv_iload hx hb dL_law_1363 (lv_at hl 1 rfl) ?_
    refine lv_icmp_eq (tgt := 1370) hx hb dL_law_1365 (by decide) (fun _ => ?_) (fun c9 => absurd rfl c9)
    refine lv_iload hx hb dL_law_1370 (lv_at hl 1 rfl) ?_
    refine lv_if_ne (tgt := 1387) hx hb dL_law_1372 (by decide) (fun _ => ?_) (fun c9 => absurd c9 hnz)
    refine lv_goto (tgt := 1941) hx hb dL_law_1387 (by decide) ?_
    exact kk H locs ls ⟨px, py, td, ld, sl, bd, pw, dt, st, uc, sv, tl, so, lm, n, nd, ss, rg, hw, ax, fu, si, au, ns, jk, jd, js, jt, jn, ef, es, el, ev, et, eo, nI (E_filingOf (xs ((5 * kR) + 1)) (xs ((5 * kR) + 2)) n), pg, ag, ou, hR.mono, hP, hD⟩ hS (lv_sub hl [2, 3, 4, 5, 6] rfl)
set_option maxHeartbeats 8000000 in
set_option maxRecDepth 100000 in
theorem law_stateAnew (p : Program) (l : Launch) (e : Env) (s : State) (m : MethodId) (below : List Frame) (meth : Method) (c : Code) (b L : Nat) (xs : Nat → Int32) (D : va_G) (cI cJ cZ : ClassId) (a : Nat → Nat) (A : Nat → Prop) (kR : Nat) (H : Heap) (locs : List Loc) (cells slots : Nat) (Q : State → Prop) (ls : Array Slot) (hZ : ZLw D cI cJ cZ a A kR H) : ZGo p l e s m below meth c b L xs D cI cJ cZ a A kR H locs cells slots Q ls 1390 := by
  intro hx hb hml hown hts hX hbl hbA hA hK hE hflg hkL hL hk hS hl hcr hsr kk
  obtain ⟨px, py, td, ld, sl, bd, pw, dt, st, uc, sv, tl, so, lm, n, nd, ss, rg, hw, ax, fu, si, au, ns, jk, jd, js, jt, jn, ef, es, el, ev, et, eo, th, pg, ag, ou, hR, hP, hD⟩ := hZ
  obtain ⟨t, ht, ht5, hjk, hF9, hL9, hS9, hJ9⟩ := id hR
  have hn : n ≤ 40 := hF9.1
  have hs : ns ≤ 16 := hS9.1
  have hj : jn < 512 := Nat.lt_of_le_of_lt hjk hk
  have hax := R_hax hS9
  have hmy := R_hmy hS9
  have hkk := hJ9.1
  refine lv_aload_n hx hb dL_law_1390 rfl (lv_at hl 1 rfl) ?_
  refine lv_aload_n hx hb dL_law_1391 rfl (lv_at hl 0 rfl) ?_
  refine lv_iload hx hb dL_law_1392 (lv_at hl 4 rfl) ?_
  refine lv_iconst (v := 1) hx hb dL_law_1394 (by decide) ?_
  refine lv_iadd hx hb dL_law_1395 ?_
  refine z_sld hx hb hX hbl hbA hS hL ((5 * kR) + 1) (z_iadd rfl (by decide)) (by omega) dL_law_1396 ?_
  refine lv_aload_n hx hb dL_law_1397 rfl (lv_at hl 3 rfl) ?_
  by_cases hE0 : E_one (xs ((5 * kR) + 1)) n = 0
  · refine z_ciL (suf := (wMo cI cJ cZ a th td nd n ld sl bd pw dt st uc sv tl so ag ns ss rg hw ax fu si au px pg py)) (wc := ((wOr cI cJ cZ a px py td) ++ ((wFi cI cJ cZ a ld sl bd pw dt st uc sv tl so lm n nd) ++ ((wSa cI cJ cZ a ss rg hw ax fu si au ns) ++ ((wJo cI cJ cZ a jk jd js jt jn) ++ ((wEx cI cJ cZ a ef es el ev et eo) ++ (wOu cI cJ cZ a ou))))))) (w1 := ((wOr cI cJ cZ a px py td) ++ ((wFi cI cJ cZ a ld sl bd pw dt st uc sv tl so lm n nd) ++ ((wSa cI cJ cZ a ss rg hw ax fu si au ns) ++ ((wJo cI cJ cZ a jk jd js jt jn) ++ ((wEx cI cJ cZ a (F_sel (E_one (xs ((5 * kR) + 1)) n) ((xs ((5 * kR) + 1))) ef) (F_sel (E_one (xs ((5 * kR) + 1)) n) ((F_reach td (F_exam (xs ((5 * kR) + 1)) (jK jk) jd js jt ((-1), el, (-1), et, eo) jn)).1) es) (F_sel (E_one (xs ((5 * kR) + 1)) n) ((F_reach td (F_exam (xs ((5 * kR) + 1)) (jK jk) jd js jt ((-1), el, (-1), et, eo) jn)).2.1) el) (F_sel (E_one (xs ((5 * kR) + 1)) n) ((F_reach td (F_exam (xs ((5 * kR) + 1)) (jK jk) jd js jt ((-1), el, (-1), et, eo) jn)).2.2.1) ev) (F_sel (E_one (xs ((5 * kR) + 1)) n) ((F_reach td (F_exam (xs ((5 * kR) + 1)) (jK jk) jd js jt ((-1), el, (-1), et, eo) jn)).2.2.2.1) et) (F_sel (E_one (xs ((5 * kR) + 1)) n) ((F_reach td (F_exam (xs ((5 * kR) + 1)) (jK jk) jd js jt ((-1), el, (-1), et, eo) jn)).2.2.2.2) eo)) ++ (wOu cI cJ cZ a (F_sel (E_one (xs ((5 * kR) + 1)) n) (vp_updL ou 0 (((F_reach td (F_exam (xs ((5 * kR) + 1)) (jK jk) jd js jt ((-1), el, (-1), et, eo) jn)).1).toInt64)) ou)))))))) (vx_runSW (As := [.ref (a 0), .int (xs ((5 * kR) + 1)), .ref (a 60)]) (rest := []) ⟨hx, hb, hml, hown, hts⟩ (c_L_stateAnew l hflg D cI cJ cZ a H.size px py td ld sl bd pw dt st uc sv tl so lm n nd ss rg hw ax fu si au ns jk jd js jt jn ef es el ev et eo ou (xs ((5 * kR) + 1)) hn (Nat.le_of_lt hj) (jK jk) hkk) (vx_cwSW 3 hts gL_law_L_stateAnew rfl rfl rfl (by decide +kernel) ⟨Nat.le_of_ble_eq_true rfl, Nat.le_of_ble_eq_true rfl⟩) (z_ps hK (zP_L hP) (zD_L hD) ZX_b (ZX_m hE hS (zF_L hD hS hA))) rfl rfl hl.1 rfl (lv_room (Nat.le_of_ble_eq_true rfl)) dL_law_1398 ⟨hcr, hsr⟩) hP hD hS hA (adrC.trans adrC.symm) (fun r_ H locs hr_ hP hS => ?_)
    have hP : va_P D vwCl (((wOr cI cJ cZ a px py td) ++ ((wFi cI cJ cZ a ld sl bd pw dt st uc sv tl so lm n nd) ++ ((wSa cI cJ cZ a ss rg hw ax fu si au ns) ++ ((wJo cI cJ cZ a jk jd js jt jn) ++ ((wEx cI cJ cZ a ((xs ((5 * kR) + 1))) ((F_reach td (F_exam (xs ((5 * kR) + 1)) (jK jk) jd js jt ((-1), el, (-1), et, eo) jn)).1) ((F_reach td (F_exam (xs ((5 * kR) + 1)) (jK jk) jd js jt ((-1), el, (-1), et, eo) jn)).2.1) ((F_reach td (F_exam (xs ((5 * kR) + 1)) (jK jk) jd js jt ((-1), el, (-1), et, eo) jn)).2.2.1) ((F_reach td (F_exam (xs ((5 * kR) + 1)) (jK jk) jd js jt ((-1), el, (-1), et, eo) jn)).2.2.2.1) ((F_reach td (F_exam (xs ((5 * kR) + 1)) (jK jk) jd js jt ((-1), el, (-1), et, eo) jn)).2.2.2.2)) ++ (wOu cI cJ cZ a (vp_updL ou 0 (((F_reach td (F_exam (xs ((5 * kR) + 1)) (jK jk) jd js jt ((-1), el, (-1), et, eo) jn)).1).toInt64)))))))) ++ (wMo cI cJ cZ a th td nd n ld sl bd pw dt st uc sv tl so ag ns ss rg hw ax fu si au px pg py)) H := by have h9 := hP; simp only [F_sel_yes hE0] at h9; exact h9
    have hD : va_D A (((wOr cI cJ cZ a px py td) ++ ((wFi cI cJ cZ a ld sl bd pw dt st uc sv tl so lm n nd) ++ ((wSa cI cJ cZ a ss rg hw ax fu si au ns) ++ ((wJo cI cJ cZ a jk jd js jt jn) ++ ((wEx cI cJ cZ a ((xs ((5 * kR) + 1))) ((F_reach td (F_exam (xs ((5 * kR) + 1)) (jK jk) jd js jt ((-1), el, (-1), et, eo) jn)).1) ((F_reach td (F_exam (xs ((5 * kR) + 1)) (jK jk) jd js jt ((-1), el, (-1), et, eo) jn)).2.1) ((F_reach td (F_exam (xs ((5 * kR) + 1)) (jK jk) jd js jt ((-1), el, (-1), et, eo) jn)).2.2.1) ((F_reach td (F_exam (xs ((5 * kR) + 1)) (jK jk) jd js jt ((-1), el, (-1), et, eo) jn)).2.2.2.1) ((F_reach td (F_exam (xs ((5 * kR) + 1)) (jK jk) jd js jt ((-1), el, (-1), et, eo) jn)).2.2.2.2)) ++ (wOu cI cJ cZ a (vp_updL ou 0 (((F_reach td (F_exam (xs ((5 * kR) + 1)) (jK jk) jd js jt ((-1), el, (-1), et, eo) jn)).1).toInt64)))))))) ++ (wMo cI cJ cZ a th td nd n ld sl bd pw dt st uc sv tl so ag ns ss rg hw ax fu si au px pg py)) := zD_law hD
    obtain rfl : r_ = 0 := hr_.trans (by rw [hE0]; decide)
    have hp9 := (p_stateAnew kR t px py td ld sl bd pw dt st uc sv tl so lm n nd ss rg hw ax fu si au ns jk jd js jt jn ef es el ev et eo ag pg (xs ((5 * kR) + 1)) hR ht hk hE0)
    refine lv_istore (lv' := [(5, .int 0), (0, .ref b), (1, .ref (a 0)), (2, .ref (a 30)), (3, .ref (a 60)), (4, .int (nI (5 * kR)))]) hx hb dL_law_1401 hl (by decide) rfl (fun ls hl => ?_)
    refine lv_aload_n hx hb dL_law_1403 rfl (lv_at hl 3 rfl) ?_
    refine lv_aload_n hx hb dL_law_1404 rfl (lv_at hl 1 rfl) ?_
    refine lv_iload hx hb dL_law_1405 (lv_at hl 5 rfl) ?_
    refine lv_iconst (v := 1) hx hb dL_law_1407 (by decide) ?_
    refine lv_iadd hx hb dL_law_1408 ?_
    refine z_sld hx hb hX hbl hbA hS hL ((5 * kR) + 1) (z_iadd rfl (by decide)) (by omega) dL_law_1409 ?_
    refine z_ciR (pre := ((wOr cI cJ cZ a px py td) ++ ((wFi cI cJ cZ a ld sl bd pw dt st uc sv tl so lm n nd) ++ ((wSa cI cJ cZ a ss rg hw ax fu si au ns) ++ ((wJo cI cJ cZ a jk jd js jt jn) ++ ((wEx cI cJ cZ a ((xs ((5 * kR) + 1))) ((F_reach td (F_exam (xs ((5 * kR) + 1)) (jK jk) jd js jt ((-1), el, (-1), et, eo) jn)).1) ((F_reach td (F_exam (xs ((5 * kR) + 1)) (jK jk) jd js jt ((-1), el, (-1), et, eo) jn)).2.1) ((F_reach td (F_exam (xs ((5 * kR) + 1)) (jK jk) jd js jt ((-1), el, (-1), et, eo) jn)).2.2.1) ((F_reach td (F_exam (xs ((5 * kR) + 1)) (jK jk) jd js jt ((-1), el, (-1), et, eo) jn)).2.2.2.1) ((F_reach td (F_exam (xs ((5 * kR) + 1)) (jK jk) jd js jt ((-1), el, (-1), et, eo) jn)).2.2.2.2)) ++ (wOu cI cJ cZ a (vp_updL ou 0 (((F_reach td (F_exam (xs ((5 * kR) + 1)) (jK jk) jd js jt ((-1), el, (-1), et, eo) jn)).1).toInt64))))))))) (wc := (wMo cI cJ cZ a th td nd n ld sl bd pw dt st uc sv tl so ag ns ss rg hw ax fu si au px pg py)) (w1 := (wMo cI cJ cZ a (nI (E_one (xs ((5 * kR) + 1)) n)) td nd n ld sl bd pw dt st uc sv tl so ag ns ss rg hw ax fu si au px pg py)) (va_runV (As := [.int (xs ((5 * kR) + 1))]) (rest := []) ⟨hx, hb, hml, hown, hts⟩ (c_X5_stateAnew l D cI cJ cZ a H.size th td nd n ld sl bd pw dt st uc sv tl so ag ns ss rg hw ax fu si au px pg py (xs ((5 * kR) + 1)) hn) (cwV 1 hts gL_law_X5_stateAnew rfl rfl rfl (by decide +kernel) ⟨Nat.le_of_ble_eq_true rfl, Nat.le_of_ble_eq_true rfl⟩) (z_pv hK (zP_R hP) (zD_R hD) (q0 := 0) (ci := 5) rfl rfl zT_b zT_m) rfl rfl hl.1 rfl (lv_room (Nat.le_of_ble_eq_true rfl)) dL_law_1410 ⟨hcr, hsr⟩) hP hD hS hA (adrM.trans adrM.symm) (fun r_ H locs hr_ hP hS => ?_)
    have heq : E_one (xs ((5 * kR) + 1)) n = E_one (xs ((5 * kR) + 1)) n := rfl
    have hE1 : E_one (xs ((5 * kR) + 1)) n = 0 := heq.trans hE0
    have hth : nI (E_one (xs ((5 * kR) + 1)) n) = 0 := by rw [hE1]; decide
    have hP : va_P D vwCl (((wOr cI cJ cZ a px py td) ++ ((wFi cI cJ cZ a ld sl bd pw dt st uc sv tl so lm n nd) ++ ((wSa cI cJ cZ a ss rg hw ax fu si au ns) ++ ((wJo cI cJ cZ a jk jd js jt jn) ++ ((wEx cI cJ cZ a ((xs ((5 * kR) + 1))) ((F_reach td (F_exam (xs ((5 * kR) + 1)) (jK jk) jd js jt ((-1), el, (-1), et, eo) jn)).1) ((F_reach td (F_exam (xs ((5 * kR) + 1)) (jK jk) jd js jt ((-1), el, (-1), et, eo) jn)).2.1) ((F_reach td (F_exam (xs ((5 * kR) + 1)) (jK jk) jd js jt ((-1), el, (-1), et, eo) jn)).2.2.1) ((F_reach td (F_exam (xs ((5 * kR) + 1)) (jK jk) jd js jt ((-1), el, (-1), et, eo) jn)).2.2.2.1) ((F_reach td (F_exam (xs ((5 * kR) + 1)) (jK jk) jd js jt ((-1), el, (-1), et, eo) jn)).2.2.2.2)) ++ (wOu cI cJ cZ a (vp_updL ou 0 (((F_reach td (F_exam (xs ((5 * kR) + 1)) (jK jk) jd js jt ((-1), el, (-1), et, eo) jn)).1).toInt64)))))))) ++ (wMo cI cJ cZ a 0 td nd n ld sl bd pw dt st uc sv tl so ag ns ss rg hw ax fu si au px pg py)) H := by have h9 := hP; simp only [hth, F_sel_yes hE1] at h9; exact h9
    have hD : va_D A (((wOr cI cJ cZ a px py td) ++ ((wFi cI cJ cZ a ld sl bd pw dt st uc sv tl so lm n nd) ++ ((wSa cI cJ cZ a ss rg hw ax fu si au ns) ++ ((wJo cI cJ cZ a jk jd js jt jn) ++ ((wEx cI cJ cZ a ((xs ((5 * kR) + 1))) ((F_reach td (F_exam (xs ((5 * kR) + 1)) (jK jk) jd js jt ((-1), el, (-1), et, eo) jn)).1) ((F_reach td (F_exam (xs ((5 * kR) + 1)) (jK jk) jd js jt ((-1), el, (-1), et, eo) jn)).2.1) ((F_reach td (F_exam (xs ((5 * kR) + 1)) (jK jk) jd js jt ((-1), el, (-1), et, eo) jn)).2.2.1) ((F_reach td (F_exam (xs ((5 * kR) + 1)) (jK jk) jd js jt ((-1), el, (-1), et, eo) jn)).2.2.2.1) ((F_reach td (F_exam (xs ((5 * kR) + 1)) (jK jk) jd js jt ((-1), el, (-1), et, eo) jn)).2.2.2.2)) ++ (wOu cI cJ cZ a (vp_updL ou 0 (((F_reach td (F_exam (xs ((5 * kR) + 1)) (jK jk) jd js jt ((-1), el, (-1), et, eo) jn)).1).toInt64)))))))) ++ (wMo cI cJ cZ a 0 td nd n ld sl bd pw dt st uc sv tl so ag ns ss rg hw ax fu si au px pg py)) := zD_law hD
    obtain rfl : r_ = st (ix (xs ((5 * kR) + 1))) := hr_.trans (F_sel_yes hE1 _ _)
    refine lv_istore (lv' := [(6, .int (st (ix (xs ((5 * kR) + 1))))), (5, .int 0), (0, .ref b), (1, .ref (a 0)), (2, .ref (a 30)), (3, .ref (a 60)), (4, .int (nI (5 * kR)))]) hx hb dL_law_1413 hl (by decide) rfl (fun ls hl => ?_)
    refine lv_aload_n hx hb dL_law_1415 rfl (lv_at hl 4 rfl) ?_
    refine z_ri (va_runV (As := []) (rest := []) ⟨hx, hb, hml, hown, hts⟩ (c_X5_thrown l D cI cJ cZ a H.size 0 td nd n ld sl bd pw dt st uc sv tl so ag ns ss rg hw ax fu si au px pg py) (cwV 0 hts gL_law_X5_thrown rfl rfl rfl (by decide +kernel) ⟨Nat.le_of_ble_eq_true rfl, Nat.le_of_ble_eq_true rfl⟩) (z_pv hK (zP_R hP) (zD_R hD) (q0 := 0) (ci := 5) rfl rfl zT_b zT_m) rfl rfl hl.1 rfl (lv_room (Nat.le_of_ble_eq_true rfl)) dL_law_1416 ⟨hcr, hsr⟩) hP hS hA (fun r_ _ H locs hr_ hP hS => ?_)
    subst hr_
    refine lv_iload hx hb dL_law_1419 (lv_at hl 1 rfl) ?_
    refine lv_icmp_eq (tgt := 1426) hx hb dL_law_1421 (by decide) (fun _ => ?_) (fun c9 => absurd (by decide) c9)
    refine lv_iload hx hb dL_law_1426 (lv_at hl 1 rfl) ?_
    refine lv_if_ne (tgt := 1443) hx hb dL_law_1428 (by decide) (fun c9 => absurd (by decide) c9) (fun _ => ?_)
    refine lv_aload_n hx hb dL_law_1431 rfl (lv_at hl 5 rfl) ?_
    refine lv_iconst (v := 0) hx hb dL_law_1432 (by decide) ?_
    refine z_lald hx hb hK hP 29 1 rfl rfl 0 (by decide) (by decide) rfl dL_law_1433 ?_
    refine lv_iload hx hb dL_law_1434 (lv_at hl 0 rfl) ?_
    refine lv_i2l (v := (st (ix (xs ((5 * kR) + 1)))).toInt64) hx hb dL_law_1436 rfl ?_
    have hc9 : lg_cmp ((vp_updL ou 0 (((F_reach td (F_exam (xs ((5 * kR) + 1)) (jK jk) jd js jt ((-1), el, (-1), et, eo) jn)).1).toInt64)) 0) ((st (ix (xs ((5 * kR) + 1)))).toInt64) = 0 := z_cmp ((vp_updL_0 _ _).trans (by rw [hp9.1]))
    refine W.lcmp hx hb dL_law_1437 ?_
    refine lv_if_eq (tgt := 1443) hx hb dL_law_1438 (by decide) (fun _ => ?_) (fun c9 => absurd hc9 c9)
    refine lv_goto (tgt := 1941) hx hb dL_law_1443 (by decide) ?_
    exact kk H locs ls ⟨px, py, td, ld, sl, bd, pw, dt, st, uc, sv, tl, so, lm, n, nd, ss, rg, hw, ax, fu, si, au, ns, jk, jd, js, jt, jn, ((xs ((5 * kR) + 1))), ((F_reach td (F_exam (xs ((5 * kR) + 1)) (jK jk) jd js jt ((-1), el, (-1), et, eo) jn)).1), ((F_reach td (F_exam (xs ((5 * kR) + 1)) (jK jk) jd js jt ((-1), el, (-1), et, eo) jn)).2.1), ((F_reach td (F_exam (xs ((5 * kR) + 1)) (jK jk) jd js jt ((-1), el, (-1), et, eo) jn)).2.2.1), ((F_reach td (F_exam (xs ((5 * kR) + 1)) (jK jk) jd js jt ((-1), el, (-1), et, eo) jn)).2.2.2.1), ((F_reach td (F_exam (xs ((5 * kR) + 1)) (jK jk) jd js jt ((-1), el, (-1), et, eo) jn)).2.2.2.2), 0, pg, ag, (vp_updL ou 0 (((F_reach td (F_exam (xs ((5 * kR) + 1)) (jK jk) jd js jt ((-1), el, (-1), et, eo) jn)).1).toInt64)), hp9.2, hP, hD⟩ hS (lv_sub hl [2, 3, 4, 5, 6] rfl)
  · refine z_ciL (suf := (wMo cI cJ cZ a th td nd n ld sl bd pw dt st uc sv tl so ag ns ss rg hw ax fu si au px pg py)) (wc := ((wOr cI cJ cZ a px py td) ++ ((wFi cI cJ cZ a ld sl bd pw dt st uc sv tl so lm n nd) ++ ((wSa cI cJ cZ a ss rg hw ax fu si au ns) ++ ((wJo cI cJ cZ a jk jd js jt jn) ++ ((wEx cI cJ cZ a ef es el ev et eo) ++ (wOu cI cJ cZ a ou))))))) (w1 := ((wOr cI cJ cZ a px py td) ++ ((wFi cI cJ cZ a ld sl bd pw dt st uc sv tl so lm n nd) ++ ((wSa cI cJ cZ a ss rg hw ax fu si au ns) ++ ((wJo cI cJ cZ a jk jd js jt jn) ++ ((wEx cI cJ cZ a (F_sel (E_one (xs ((5 * kR) + 1)) n) ((xs ((5 * kR) + 1))) ef) (F_sel (E_one (xs ((5 * kR) + 1)) n) ((F_reach td (F_exam (xs ((5 * kR) + 1)) (jK jk) jd js jt ((-1), el, (-1), et, eo) jn)).1) es) (F_sel (E_one (xs ((5 * kR) + 1)) n) ((F_reach td (F_exam (xs ((5 * kR) + 1)) (jK jk) jd js jt ((-1), el, (-1), et, eo) jn)).2.1) el) (F_sel (E_one (xs ((5 * kR) + 1)) n) ((F_reach td (F_exam (xs ((5 * kR) + 1)) (jK jk) jd js jt ((-1), el, (-1), et, eo) jn)).2.2.1) ev) (F_sel (E_one (xs ((5 * kR) + 1)) n) ((F_reach td (F_exam (xs ((5 * kR) + 1)) (jK jk) jd js jt ((-1), el, (-1), et, eo) jn)).2.2.2.1) et) (F_sel (E_one (xs ((5 * kR) + 1)) n) ((F_reach td (F_exam (xs ((5 * kR) + 1)) (jK jk) jd js jt ((-1), el, (-1), et, eo) jn)).2.2.2.2) eo)) ++ (wOu cI cJ cZ a (F_sel (E_one (xs ((5 * kR) + 1)) n) (vp_updL ou 0 (((F_reach td (F_exam (xs ((5 * kR) + 1)) (jK jk) jd js jt ((-1), el, (-1), et, eo) jn)).1).toInt64)) ou)))))))) (vx_runSW (As := [.ref (a 0), .int (xs ((5 * kR) + 1)), .ref (a 60)]) (rest := []) ⟨hx, hb, hml, hown, hts⟩ (c_L_stateAnew l hflg D cI cJ cZ a H.size px py td ld sl bd pw dt st uc sv tl so lm n nd ss rg hw ax fu si au ns jk jd js jt jn ef es el ev et eo ou (xs ((5 * kR) + 1)) hn (Nat.le_of_lt hj) (jK jk) hkk) (vx_cwSW 3 hts gL_law_L_stateAnew rfl rfl rfl (by decide +kernel) ⟨Nat.le_of_ble_eq_true rfl, Nat.le_of_ble_eq_true rfl⟩) (z_ps hK (zP_L hP) (zD_L hD) ZX_b (ZX_m hE hS (zF_L hD hS hA))) rfl rfl hl.1 rfl (lv_room (Nat.le_of_ble_eq_true rfl)) dL_law_1398 ⟨hcr, hsr⟩) hP hD hS hA (adrC.trans adrC.symm) (fun r_ H locs hr_ hP hS => ?_)
    have hP : va_P D vwCl (((wOr cI cJ cZ a px py td) ++ ((wFi cI cJ cZ a ld sl bd pw dt st uc sv tl so lm n nd) ++ ((wSa cI cJ cZ a ss rg hw ax fu si au ns) ++ ((wJo cI cJ cZ a jk jd js jt jn) ++ ((wEx cI cJ cZ a ef es el ev et eo) ++ (wOu cI cJ cZ a ou)))))) ++ (wMo cI cJ cZ a th td nd n ld sl bd pw dt st uc sv tl so ag ns ss rg hw ax fu si au px pg py)) H := by have h9 := hP; simp only [F_sel_no hE0] at h9; exact h9
    have hD : va_D A (((wOr cI cJ cZ a px py td) ++ ((wFi cI cJ cZ a ld sl bd pw dt st uc sv tl so lm n nd) ++ ((wSa cI cJ cZ a ss rg hw ax fu si au ns) ++ ((wJo cI cJ cZ a jk jd js jt jn) ++ ((wEx cI cJ cZ a ef es el ev et eo) ++ (wOu cI cJ cZ a ou)))))) ++ (wMo cI cJ cZ a th td nd n ld sl bd pw dt st uc sv tl so ag ns ss rg hw ax fu si au px pg py)) := zD_law hD
    subst hr_
    have hnz : ¬ (nI (E_one (xs ((5 * kR) + 1)) n)) = 0 := z_nz hE0 (by unfold E_one; (repeat' split); all_goals decide)
    refine lv_istore (lv' := [(5, .int (nI (E_one (xs ((5 * kR) + 1)) n))), (0, .ref b), (1, .ref (a 0)), (2, .ref (a 30)), (3, .ref (a 60)), (4, .int (nI (5 * kR)))]) hx hb dL_law_1401 hl (by decide) rfl (fun ls hl => ?_)
    refine lv_aload_n hx hb dL_law_1403 rfl (lv_at hl 3 rfl) ?_
    refine lv_aload_n hx hb dL_law_1404 rfl (lv_at hl 1 rfl) ?_
    refine lv_iload hx hb dL_law_1405 (lv_at hl 5 rfl) ?_
    refine lv_iconst (v := 1) hx hb dL_law_1407 (by decide) ?_
    refine lv_iadd hx hb dL_law_1408 ?_
    refine z_sld hx hb hX hbl hbA hS hL ((5 * kR) + 1) (z_iadd rfl (by decide)) (by omega) dL_law_1409 ?_
    refine z_ciR (pre := ((wOr cI cJ cZ a px py td) ++ ((wFi cI cJ cZ a ld sl bd pw dt st uc sv tl so lm n nd) ++ ((wSa cI cJ cZ a ss rg hw ax fu si au ns) ++ ((wJo cI cJ cZ a jk jd js jt jn) ++ ((wEx cI cJ cZ a ef es el ev et eo) ++ (wOu cI cJ cZ a ou))))))) (wc := (wMo cI cJ cZ a th td nd n ld sl bd pw dt st uc sv tl so ag ns ss rg hw ax fu si au px pg py)) (w1 := (wMo cI cJ cZ a (nI (E_one (xs ((5 * kR) + 1)) n)) td nd n ld sl bd pw dt st uc sv tl so ag ns ss rg hw ax fu si au px pg py)) (va_runV (As := [.int (xs ((5 * kR) + 1))]) (rest := []) ⟨hx, hb, hml, hown, hts⟩ (c_X5_stateAnew l D cI cJ cZ a H.size th td nd n ld sl bd pw dt st uc sv tl so ag ns ss rg hw ax fu si au px pg py (xs ((5 * kR) + 1)) hn) (cwV 1 hts gL_law_X5_stateAnew rfl rfl rfl (by decide +kernel) ⟨Nat.le_of_ble_eq_true rfl, Nat.le_of_ble_eq_true rfl⟩) (z_pv hK (zP_R hP) (zD_R hD) (q0 := 0) (ci := 5) rfl rfl zT_b zT_m) rfl rfl hl.1 rfl (lv_room (Nat.le_of_ble_eq_true rfl)) dL_law_1410 ⟨hcr, hsr⟩) hP hD hS hA (adrM.trans adrM.symm) (fun r_ H locs hr_ hP hS => ?_)
    have heq : E_one (xs ((5 * kR) + 1)) n = E_one (xs ((5 * kR) + 1)) n := rfl
    have hE1 : ¬ E_one (xs ((5 * kR) + 1)) n = 0 := fun h => hE0 (heq.symm.trans h)
    have hP : va_P D vwCl (((wOr cI cJ cZ a px py td) ++ ((wFi cI cJ cZ a ld sl bd pw dt st uc sv tl so lm n nd) ++ ((wSa cI cJ cZ a ss rg hw ax fu si au ns) ++ ((wJo cI cJ cZ a jk jd js jt jn) ++ ((wEx cI cJ cZ a ef es el ev et eo) ++ (wOu cI cJ cZ a ou)))))) ++ (wMo cI cJ cZ a (nI (E_one (xs ((5 * kR) + 1)) n)) td nd n ld sl bd pw dt st uc sv tl so ag ns ss rg hw ax fu si au px pg py)) H := hP
    have hD : va_D A (((wOr cI cJ cZ a px py td) ++ ((wFi cI cJ cZ a ld sl bd pw dt st uc sv tl so lm n nd) ++ ((wSa cI cJ cZ a ss rg hw ax fu si au ns) ++ ((wJo cI cJ cZ a jk jd js jt jn) ++ ((wEx cI cJ cZ a ef es el ev et eo) ++ (wOu cI cJ cZ a ou)))))) ++ (wMo cI cJ cZ a (nI (E_one (xs ((5 * kR) + 1)) n)) td nd n ld sl bd pw dt st uc sv tl so ag ns ss rg hw ax fu si au px pg py)) := zD_law hD
    obtain rfl : r_ = 0 := hr_.trans (F_sel_no hE1 _ _)
    refine lv_istore (lv' := [(6, .int 0), (5, .int (nI (E_one (xs ((5 * kR) + 1)) n))), (0, .ref b), (1, .ref (a 0)), (2, .ref (a 30)), (3, .ref (a 60)), (4, .int (nI (5 * kR)))]) hx hb dL_law_1413 hl (by decide) rfl (fun ls hl => ?_)
    refine lv_aload_n hx hb dL_law_1415 rfl (lv_at hl 4 rfl) ?_
    refine z_ri (va_runV (As := []) (rest := []) ⟨hx, hb, hml, hown, hts⟩ (c_X5_thrown l D cI cJ cZ a H.size (nI (E_one (xs ((5 * kR) + 1)) n)) td nd n ld sl bd pw dt st uc sv tl so ag ns ss rg hw ax fu si au px pg py) (cwV 0 hts gL_law_X5_thrown rfl rfl rfl (by decide +kernel) ⟨Nat.le_of_ble_eq_true rfl, Nat.le_of_ble_eq_true rfl⟩) (z_pv hK (zP_R hP) (zD_R hD) (q0 := 0) (ci := 5) rfl rfl zT_b zT_m) rfl rfl hl.1 rfl (lv_room (Nat.le_of_ble_eq_true rfl)) dL_law_1416 ⟨hcr, hsr⟩) hP hS hA (fun r_ _ H locs hr_ hP hS => ?_)
    subst hr_
    refine lv_iload hx hb dL_law_1419 (lv_at hl 1 rfl) ?_
    refine lv_icmp_eq (tgt := 1426) hx hb dL_law_1421 (by decide) (fun _ => ?_) (fun c9 => absurd rfl c9)
    refine lv_iload hx hb dL_law_1426 (lv_at hl 1 rfl) ?_
    refine lv_if_ne (tgt := 1443) hx hb dL_law_1428 (by decide) (fun _ => ?_) (fun c9 => absurd c9 hnz)
    refine lv_goto (tgt := 1941) hx hb dL_law_1443 (by decide) ?_
    exact kk H locs ls ⟨px, py, td, ld, sl, bd, pw, dt, st, uc, sv, tl, so, lm, n, nd, ss, rg, hw, ax, fu, si, au, ns, jk, jd, js, jt, jn, ef, es, el, ev, et, eo, nI (E_one (xs ((5 * kR) + 1)) n), pg, ag, ou, hR.mono, hP, hD⟩ hS (lv_sub hl [2, 3, 4, 5, 6] rfl)
set_option maxHeartbeats 8000000 in
set_option maxRecDepth 100000 in
theorem law_harm (p : Program) (l : Launch) (e : Env) (s : State) (m : MethodId) (below : List Frame) (meth : Method) (c : Code) (b L : Nat) (xs : Nat → Int32) (D : va_G) (cI cJ cZ : ClassId) (a : Nat → Nat) (A : Nat → Prop) (kR : Nat) (H : Heap) (locs : List Loc) (cells slots : Nat) (Q : State → Prop) (ls : Array Slot) (hZ : ZLw D cI cJ cZ a A kR H) : ZGo p l e s m below meth c b L xs D cI cJ cZ a A kR H locs cells slots Q ls 1446 := by
  intro hx hb hml hown hts hX hbl hbA hA hK hE hflg hkL hL hk hS hl hcr hsr kk
  obtain ⟨px, py, td, ld, sl, bd, pw, dt, st, uc, sv, tl, so, lm, n, nd, ss, rg, hw, ax, fu, si, au, ns, jk, jd, js, jt, jn, ef, es, el, ev, et, eo, th, pg, ag, ou, hR, hP, hD⟩ := hZ
  obtain ⟨t, ht, ht5, hjk, hF9, hL9, hS9, hJ9⟩ := id hR
  have hn : n ≤ 40 := hF9.1
  have hs : ns ≤ 16 := hS9.1
  have hj : jn < 512 := Nat.lt_of_le_of_lt hjk hk
  have hax := R_hax hS9
  have hmy := R_hmy hS9
  have hkk := hJ9.1
  refine lv_aload_n hx hb dL_law_1446 rfl (lv_at hl 1 rfl) ?_
  refine lv_aload_n hx hb dL_law_1447 rfl (lv_at hl 0 rfl) ?_
  refine lv_iload hx hb dL_law_1448 (lv_at hl 4 rfl) ?_
  refine lv_iconst (v := 1) hx hb dL_law_1450 (by decide) ?_
  refine lv_iadd hx hb dL_law_1451 ?_
  refine z_sld hx hb hX hbl hbA hS hL ((5 * kR) + 1) (z_iadd rfl (by decide)) (by omega) dL_law_1452 ?_
  refine lv_aload_n hx hb dL_law_1453 rfl (lv_at hl 0 rfl) ?_
  refine lv_iload hx hb dL_law_1454 (lv_at hl 4 rfl) ?_
  refine lv_iconst (v := 2) hx hb dL_law_1456 (by decide) ?_
  refine lv_iadd hx hb dL_law_1457 ?_
  refine z_sld hx hb hX hbl hbA hS hL ((5 * kR) + 2) (z_iadd rfl (by decide)) (by omega) dL_law_1458 ?_
  refine lv_aload_n hx hb dL_law_1459 rfl (lv_at hl 3 rfl) ?_
  by_cases hE0 : E_two (xs ((5 * kR) + 1)) (xs ((5 * kR) + 2)) n = 0
  · refine z_ciL (suf := (wMo cI cJ cZ a th td nd n ld sl bd pw dt st uc sv tl so ag ns ss rg hw ax fu si au px pg py)) (wc := ((wOr cI cJ cZ a px py td) ++ ((wFi cI cJ cZ a ld sl bd pw dt st uc sv tl so lm n nd) ++ ((wSa cI cJ cZ a ss rg hw ax fu si au ns) ++ ((wJo cI cJ cZ a jk jd js jt jn) ++ ((wEx cI cJ cZ a ef es el ev et eo) ++ (wOu cI cJ cZ a ou))))))) (w1 := ((wOr cI cJ cZ a px py td) ++ ((wFi cI cJ cZ a ld sl bd pw dt st uc sv tl so lm n nd) ++ ((wSa cI cJ cZ a ss rg hw ax fu si au ns) ++ ((wJo cI cJ cZ a jk jd js jt jn) ++ ((wEx cI cJ cZ a ef es el ev et eo) ++ (wOu cI cJ cZ a (F_sel (E_two (xs ((5 * kR) + 1)) (xs ((5 * kR) + 2)) n) (vp_updL ou 0 ((F_harmTo bd st sl pw (ix (xs ((5 * kR) + 1))) (ix (xs ((5 * kR) + 2)))).toInt64)) ou)))))))) (vx_runSW (As := [.ref (a 0), .int (xs ((5 * kR) + 1)), .int (xs ((5 * kR) + 2)), .ref (a 60)]) (rest := []) ⟨hx, hb, hml, hown, hts⟩ (c_L_harm l hflg D cI cJ cZ a H.size px py td ld sl bd pw dt st uc sv tl so lm n nd ss rg hw ax fu si au ns jk jd js jt jn ef es el ev et eo ou (xs ((5 * kR) + 1)) (xs ((5 * kR) + 2)) hn) (vx_cwSW 4 hts gL_law_L_harm rfl rfl rfl (by decide +kernel) ⟨Nat.le_of_ble_eq_true rfl, Nat.le_of_ble_eq_true rfl⟩) (z_ps hK (zP_L hP) (zD_L hD) ZX_b (ZX_m hE hS (zF_L hD hS hA))) rfl rfl hl.1 rfl (lv_room (Nat.le_of_ble_eq_true rfl)) dL_law_1460 ⟨hcr, hsr⟩) hP hD hS hA (adrC.trans adrC.symm) (fun r_ H locs hr_ hP hS => ?_)
    have hP : va_P D vwCl (((wOr cI cJ cZ a px py td) ++ ((wFi cI cJ cZ a ld sl bd pw dt st uc sv tl so lm n nd) ++ ((wSa cI cJ cZ a ss rg hw ax fu si au ns) ++ ((wJo cI cJ cZ a jk jd js jt jn) ++ ((wEx cI cJ cZ a ef es el ev et eo) ++ (wOu cI cJ cZ a (vp_updL ou 0 ((F_harmTo bd st sl pw (ix (xs ((5 * kR) + 1))) (ix (xs ((5 * kR) + 2)))).toInt64)))))))) ++ (wMo cI cJ cZ a th td nd n ld sl bd pw dt st uc sv tl so ag ns ss rg hw ax fu si au px pg py)) H := by have h9 := hP; simp only [F_sel_yes hE0] at h9; exact h9
    have hD : va_D A (((wOr cI cJ cZ a px py td) ++ ((wFi cI cJ cZ a ld sl bd pw dt st uc sv tl so lm n nd) ++ ((wSa cI cJ cZ a ss rg hw ax fu si au ns) ++ ((wJo cI cJ cZ a jk jd js jt jn) ++ ((wEx cI cJ cZ a ef es el ev et eo) ++ (wOu cI cJ cZ a (vp_updL ou 0 ((F_harmTo bd st sl pw (ix (xs ((5 * kR) + 1))) (ix (xs ((5 * kR) + 2)))).toInt64)))))))) ++ (wMo cI cJ cZ a th td nd n ld sl bd pw dt st uc sv tl so ag ns ss rg hw ax fu si au px pg py)) := zD_law hD
    obtain rfl : r_ = 0 := hr_.trans (by rw [hE0]; decide)
    have hp9 := (p_harm kR t px py td ld sl bd pw dt st uc sv tl so lm n nd ss rg hw ax fu si au ns jk jd js jt jn ef es el ev et eo ag pg (xs ((5 * kR) + 1)) (xs ((5 * kR) + 2)) hR ht hk hE0)
    refine lv_istore (lv' := [(5, .int 0), (0, .ref b), (1, .ref (a 0)), (2, .ref (a 30)), (3, .ref (a 60)), (4, .int (nI (5 * kR)))]) hx hb dL_law_1463 hl (by decide) rfl (fun ls hl => ?_)
    refine lv_aload_n hx hb dL_law_1465 rfl (lv_at hl 3 rfl) ?_
    refine lv_aload_n hx hb dL_law_1466 rfl (lv_at hl 1 rfl) ?_
    refine lv_iload hx hb dL_law_1467 (lv_at hl 5 rfl) ?_
    refine lv_iconst (v := 1) hx hb dL_law_1469 (by decide) ?_
    refine lv_iadd hx hb dL_law_1470 ?_
    refine z_sld hx hb hX hbl hbA hS hL ((5 * kR) + 1) (z_iadd rfl (by decide)) (by omega) dL_law_1471 ?_
    refine lv_aload_n hx hb dL_law_1472 rfl (lv_at hl 1 rfl) ?_
    refine lv_iload hx hb dL_law_1473 (lv_at hl 5 rfl) ?_
    refine lv_iconst (v := 2) hx hb dL_law_1475 (by decide) ?_
    refine lv_iadd hx hb dL_law_1476 ?_
    refine z_sld hx hb hX hbl hbA hS hL ((5 * kR) + 2) (z_iadd rfl (by decide)) (by omega) dL_law_1477 ?_
    refine z_ciR (pre := ((wOr cI cJ cZ a px py td) ++ ((wFi cI cJ cZ a ld sl bd pw dt st uc sv tl so lm n nd) ++ ((wSa cI cJ cZ a ss rg hw ax fu si au ns) ++ ((wJo cI cJ cZ a jk jd js jt jn) ++ ((wEx cI cJ cZ a ef es el ev et eo) ++ (wOu cI cJ cZ a (vp_updL ou 0 ((F_harmTo bd st sl pw (ix (xs ((5 * kR) + 1))) (ix (xs ((5 * kR) + 2)))).toInt64))))))))) (wc := (wMo cI cJ cZ a th td nd n ld sl bd pw dt st uc sv tl so ag ns ss rg hw ax fu si au px pg py)) (w1 := (wMo cI cJ cZ a (nI (E_two (xs ((5 * kR) + 1)) (xs ((5 * kR) + 2)) n)) td nd n ld sl bd pw dt st uc sv tl so ag ns ss rg hw ax fu si au px pg py)) (va_runV (As := [.int (xs ((5 * kR) + 1)), .int (xs ((5 * kR) + 2))]) (rest := []) ⟨hx, hb, hml, hown, hts⟩ (c_X5_harm l D cI cJ cZ a H.size th td nd n ld sl bd pw dt st uc sv tl so ag ns ss rg hw ax fu si au px pg py (xs ((5 * kR) + 1)) (xs ((5 * kR) + 2)) hn) (cwV 2 hts gL_law_X5_harm rfl rfl rfl (by decide +kernel) ⟨Nat.le_of_ble_eq_true rfl, Nat.le_of_ble_eq_true rfl⟩) (z_pv hK (zP_R hP) (zD_R hD) (q0 := 0) (ci := 5) rfl rfl zT_b zT_m) rfl rfl hl.1 rfl (lv_room (Nat.le_of_ble_eq_true rfl)) dL_law_1478 ⟨hcr, hsr⟩) hP hD hS hA (adrM.trans adrM.symm) (fun r_ H locs hr_ hP hS => ?_)
    have heq : E_two (xs ((5 * kR) + 1)) (xs ((5 * kR) + 2)) n = E_two (xs ((5 * kR) + 1)) (xs ((5 * kR) + 2)) n := rfl
    have hE1 : E_two (xs ((5 * kR) + 1)) (xs ((5 * kR) + 2)) n = 0 := heq.trans hE0
    have hth : nI (E_two (xs ((5 * kR) + 1)) (xs ((5 * kR) + 2)) n) = 0 := by rw [hE1]; decide
    have hP : va_P D vwCl (((wOr cI cJ cZ a px py td) ++ ((wFi cI cJ cZ a ld sl bd pw dt st uc sv tl so lm n nd) ++ ((wSa cI cJ cZ a ss rg hw ax fu si au ns) ++ ((wJo cI cJ cZ a jk jd js jt jn) ++ ((wEx cI cJ cZ a ef es el ev et eo) ++ (wOu cI cJ cZ a (vp_updL ou 0 ((F_harmTo bd st sl pw (ix (xs ((5 * kR) + 1))) (ix (xs ((5 * kR) + 2)))).toInt64)))))))) ++ (wMo cI cJ cZ a 0 td nd n ld sl bd pw dt st uc sv tl so ag ns ss rg hw ax fu si au px pg py)) H := by have h9 := hP; simp only [hth, F_sel_yes hE1] at h9; exact h9
    have hD : va_D A (((wOr cI cJ cZ a px py td) ++ ((wFi cI cJ cZ a ld sl bd pw dt st uc sv tl so lm n nd) ++ ((wSa cI cJ cZ a ss rg hw ax fu si au ns) ++ ((wJo cI cJ cZ a jk jd js jt jn) ++ ((wEx cI cJ cZ a ef es el ev et eo) ++ (wOu cI cJ cZ a (vp_updL ou 0 ((F_harmTo bd st sl pw (ix (xs ((5 * kR) + 1))) (ix (xs ((5 * kR) + 2)))).toInt64)))))))) ++ (wMo cI cJ cZ a 0 td nd n ld sl bd pw dt st uc sv tl so ag ns ss rg hw ax fu si au px pg py)) := zD_law hD
    obtain rfl : r_ = G_harmOf bd st sl pw (ix (xs ((5 * kR) + 1))) (ix (xs ((5 * kR) + 2))) := hr_.trans (F_sel_yes hE1 _ _)
    refine lv_istore (lv' := [(6, .int (G_harmOf bd st sl pw (ix (xs ((5 * kR) + 1))) (ix (xs ((5 * kR) + 2))))), (5, .int 0), (0, .ref b), (1, .ref (a 0)), (2, .ref (a 30)), (3, .ref (a 60)), (4, .int (nI (5 * kR)))]) hx hb dL_law_1481 hl (by decide) rfl (fun ls hl => ?_)
    refine lv_aload_n hx hb dL_law_1483 rfl (lv_at hl 4 rfl) ?_
    refine z_ri (va_runV (As := []) (rest := []) ⟨hx, hb, hml, hown, hts⟩ (c_X5_thrown l D cI cJ cZ a H.size 0 td nd n ld sl bd pw dt st uc sv tl so ag ns ss rg hw ax fu si au px pg py) (cwV 0 hts gL_law_X5_thrown rfl rfl rfl (by decide +kernel) ⟨Nat.le_of_ble_eq_true rfl, Nat.le_of_ble_eq_true rfl⟩) (z_pv hK (zP_R hP) (zD_R hD) (q0 := 0) (ci := 5) rfl rfl zT_b zT_m) rfl rfl hl.1 rfl (lv_room (Nat.le_of_ble_eq_true rfl)) dL_law_1484 ⟨hcr, hsr⟩) hP hS hA (fun r_ _ H locs hr_ hP hS => ?_)
    subst hr_
    refine lv_iload hx hb dL_law_1487 (lv_at hl 1 rfl) ?_
    refine lv_icmp_eq (tgt := 1494) hx hb dL_law_1489 (by decide) (fun _ => ?_) (fun c9 => absurd (by decide) c9)
    refine lv_iload hx hb dL_law_1494 (lv_at hl 1 rfl) ?_
    refine lv_if_ne (tgt := 1511) hx hb dL_law_1496 (by decide) (fun c9 => absurd (by decide) c9) (fun _ => ?_)
    refine lv_aload_n hx hb dL_law_1499 rfl (lv_at hl 5 rfl) ?_
    refine lv_iconst (v := 0) hx hb dL_law_1500 (by decide) ?_
    refine z_lald hx hb hK hP 29 1 rfl rfl 0 (by decide) (by decide) rfl dL_law_1501 ?_
    refine lv_iload hx hb dL_law_1502 (lv_at hl 0 rfl) ?_
    refine lv_i2l (v := (G_harmOf bd st sl pw (ix (xs ((5 * kR) + 1))) (ix (xs ((5 * kR) + 2)))).toInt64) hx hb dL_law_1504 rfl ?_
    have hc9 : lg_cmp ((vp_updL ou 0 ((F_harmTo bd st sl pw (ix (xs ((5 * kR) + 1))) (ix (xs ((5 * kR) + 2)))).toInt64)) 0) ((G_harmOf bd st sl pw (ix (xs ((5 * kR) + 1))) (ix (xs ((5 * kR) + 2)))).toInt64) = 0 := z_cmp ((vp_updL_0 _ _).trans (by rw [hp9.1]))
    refine W.lcmp hx hb dL_law_1505 ?_
    refine lv_if_eq (tgt := 1511) hx hb dL_law_1506 (by decide) (fun _ => ?_) (fun c9 => absurd hc9 c9)
    refine lv_goto (tgt := 1941) hx hb dL_law_1511 (by decide) ?_
    exact kk H locs ls ⟨px, py, td, ld, sl, bd, pw, dt, st, uc, sv, tl, so, lm, n, nd, ss, rg, hw, ax, fu, si, au, ns, jk, jd, js, jt, jn, ef, es, el, ev, et, eo, 0, pg, ag, (vp_updL ou 0 ((F_harmTo bd st sl pw (ix (xs ((5 * kR) + 1))) (ix (xs ((5 * kR) + 2)))).toInt64)), hp9.2, hP, hD⟩ hS (lv_sub hl [2, 3, 4, 5, 6] rfl)
  · refine z_ciL (suf := (wMo cI cJ cZ a th td nd n ld sl bd pw dt st uc sv tl so ag ns ss rg hw ax fu si au px pg py)) (wc := ((wOr cI cJ cZ a px py td) ++ ((wFi cI cJ cZ a ld sl bd pw dt st uc sv tl so lm n nd) ++ ((wSa cI cJ cZ a ss rg hw ax fu si au ns) ++ ((wJo cI cJ cZ a jk jd js jt jn) ++ ((wEx cI cJ cZ a ef es el ev et eo) ++ (wOu cI cJ cZ a ou))))))) (w1 := ((wOr cI cJ cZ a px py td) ++ ((wFi cI cJ cZ a ld sl bd pw dt st uc sv tl so lm n nd) ++ ((wSa cI cJ cZ a ss rg hw ax fu si au ns) ++ ((wJo cI cJ cZ a jk jd js jt jn) ++ ((wEx cI cJ cZ a ef es el ev et eo) ++ (wOu cI cJ cZ a (F_sel (E_two (xs ((5 * kR) + 1)) (xs ((5 * kR) + 2)) n) (vp_updL ou 0 ((F_harmTo bd st sl pw (ix (xs ((5 * kR) + 1))) (ix (xs ((5 * kR) + 2)))).toInt64)) ou)))))))) (vx_runSW (As := [.ref (a 0), .int (xs ((5 * kR) + 1)), .int (xs ((5 * kR) + 2)), .ref (a 60)]) (rest := []) ⟨hx, hb, hml, hown, hts⟩ (c_L_harm l hflg D cI cJ cZ a H.size px py td ld sl bd pw dt st uc sv tl so lm n nd ss rg hw ax fu si au ns jk jd js jt jn ef es el ev et eo ou (xs ((5 * kR) + 1)) (xs ((5 * kR) + 2)) hn) (vx_cwSW 4 hts gL_law_L_harm rfl rfl rfl (by decide +kernel) ⟨Nat.le_of_ble_eq_true rfl, Nat.le_of_ble_eq_true rfl⟩) (z_ps hK (zP_L hP) (zD_L hD) ZX_b (ZX_m hE hS (zF_L hD hS hA))) rfl rfl hl.1 rfl (lv_room (Nat.le_of_ble_eq_true rfl)) dL_law_1460 ⟨hcr, hsr⟩) hP hD hS hA (adrC.trans adrC.symm) (fun r_ H locs hr_ hP hS => ?_)
    have hP : va_P D vwCl (((wOr cI cJ cZ a px py td) ++ ((wFi cI cJ cZ a ld sl bd pw dt st uc sv tl so lm n nd) ++ ((wSa cI cJ cZ a ss rg hw ax fu si au ns) ++ ((wJo cI cJ cZ a jk jd js jt jn) ++ ((wEx cI cJ cZ a ef es el ev et eo) ++ (wOu cI cJ cZ a ou)))))) ++ (wMo cI cJ cZ a th td nd n ld sl bd pw dt st uc sv tl so ag ns ss rg hw ax fu si au px pg py)) H := by have h9 := hP; simp only [F_sel_no hE0] at h9; exact h9
    have hD : va_D A (((wOr cI cJ cZ a px py td) ++ ((wFi cI cJ cZ a ld sl bd pw dt st uc sv tl so lm n nd) ++ ((wSa cI cJ cZ a ss rg hw ax fu si au ns) ++ ((wJo cI cJ cZ a jk jd js jt jn) ++ ((wEx cI cJ cZ a ef es el ev et eo) ++ (wOu cI cJ cZ a ou)))))) ++ (wMo cI cJ cZ a th td nd n ld sl bd pw dt st uc sv tl so ag ns ss rg hw ax fu si au px pg py)) := zD_law hD
    subst hr_
    have hnz : ¬ (nI (E_two (xs ((5 * kR) + 1)) (xs ((5 * kR) + 2)) n)) = 0 := z_nz hE0 (by unfold E_two; (repeat' split); all_goals decide)
    refine lv_istore (lv' := [(5, .int (nI (E_two (xs ((5 * kR) + 1)) (xs ((5 * kR) + 2)) n))), (0, .ref b), (1, .ref (a 0)), (2, .ref (a 30)), (3, .ref (a 60)), (4, .int (nI (5 * kR)))]) hx hb dL_law_1463 hl (by decide) rfl (fun ls hl => ?_)
    refine lv_aload_n hx hb dL_law_1465 rfl (lv_at hl 3 rfl) ?_
    refine lv_aload_n hx hb dL_law_1466 rfl (lv_at hl 1 rfl) ?_
    refine lv_iload hx hb dL_law_1467 (lv_at hl 5 rfl) ?_
    refine lv_iconst (v := 1) hx hb dL_law_1469 (by decide) ?_
    refine lv_iadd hx hb dL_law_1470 ?_
    refine z_sld hx hb hX hbl hbA hS hL ((5 * kR) + 1) (z_iadd rfl (by decide)) (by omega) dL_law_1471 ?_
    refine lv_aload_n hx hb dL_law_1472 rfl (lv_at hl 1 rfl) ?_
    refine lv_iload hx hb dL_law_1473 (lv_at hl 5 rfl) ?_
    refine lv_iconst (v := 2) hx hb dL_law_1475 (by decide) ?_
    refine lv_iadd hx hb dL_law_1476 ?_
    refine z_sld hx hb hX hbl hbA hS hL ((5 * kR) + 2) (z_iadd rfl (by decide)) (by omega) dL_law_1477 ?_
    refine z_ciR (pre := ((wOr cI cJ cZ a px py td) ++ ((wFi cI cJ cZ a ld sl bd pw dt st uc sv tl so lm n nd) ++ ((wSa cI cJ cZ a ss rg hw ax fu si au ns) ++ ((wJo cI cJ cZ a jk jd js jt jn) ++ ((wEx cI cJ cZ a ef es el ev et eo) ++ (wOu cI cJ cZ a ou))))))) (wc := (wMo cI cJ cZ a th td nd n ld sl bd pw dt st uc sv tl so ag ns ss rg hw ax fu si au px pg py)) (w1 := (wMo cI cJ cZ a (nI (E_two (xs ((5 * kR) + 1)) (xs ((5 * kR) + 2)) n)) td nd n ld sl bd pw dt st uc sv tl so ag ns ss rg hw ax fu si au px pg py)) (va_runV (As := [.int (xs ((5 * kR) + 1)), .int (xs ((5 * kR) + 2))]) (rest := []) ⟨hx, hb, hml, hown, hts⟩ (c_X5_harm l D cI cJ cZ a H.size th td nd n ld sl bd pw dt st uc sv tl so ag ns ss rg hw ax fu si au px pg py (xs ((5 * kR) + 1)) (xs ((5 * kR) + 2)) hn) (cwV 2 hts gL_law_X5_harm rfl rfl rfl (by decide +kernel) ⟨Nat.le_of_ble_eq_true rfl, Nat.le_of_ble_eq_true rfl⟩) (z_pv hK (zP_R hP) (zD_R hD) (q0 := 0) (ci := 5) rfl rfl zT_b zT_m) rfl rfl hl.1 rfl (lv_room (Nat.le_of_ble_eq_true rfl)) dL_law_1478 ⟨hcr, hsr⟩) hP hD hS hA (adrM.trans adrM.symm) (fun r_ H locs hr_ hP hS => ?_)
    have heq : E_two (xs ((5 * kR) + 1)) (xs ((5 * kR) + 2)) n = E_two (xs ((5 * kR) + 1)) (xs ((5 * kR) + 2)) n := rfl
    have hE1 : ¬ E_two (xs ((5 * kR) + 1)) (xs ((5 * kR) + 2)) n = 0 := fun h => hE0 (heq.symm.trans h)
    have hP : va_P D vwCl (((wOr cI cJ cZ a px py td) ++ ((wFi cI cJ cZ a ld sl bd pw dt st uc sv tl so lm n nd) ++ ((wSa cI cJ cZ a ss rg hw ax fu si au ns) ++ ((wJo cI cJ cZ a jk jd js jt jn) ++ ((wEx cI cJ cZ a ef es el ev et eo) ++ (wOu cI cJ cZ a ou)))))) ++ (wMo cI cJ cZ a (nI (E_two (xs ((5 * kR) + 1)) (xs ((5 * kR) + 2)) n)) td nd n ld sl bd pw dt st uc sv tl so ag ns ss rg hw ax fu si au px pg py)) H := hP
    have hD : va_D A (((wOr cI cJ cZ a px py td) ++ ((wFi cI cJ cZ a ld sl bd pw dt st uc sv tl so lm n nd) ++ ((wSa cI cJ cZ a ss rg hw ax fu si au ns) ++ ((wJo cI cJ cZ a jk jd js jt jn) ++ ((wEx cI cJ cZ a ef es el ev et eo) ++ (wOu cI cJ cZ a ou)))))) ++ (wMo cI cJ cZ a (nI (E_two (xs ((5 * kR) + 1)) (xs ((5 * kR) + 2)) n)) td nd n ld sl bd pw dt st uc sv tl so ag ns ss rg hw ax fu si au px pg py)) := zD_law hD
    obtain rfl : r_ = 0 := hr_.trans (F_sel_no hE1 _ _)
    refine lv_istore (lv' := [(6, .int 0), (5, .int (nI (E_two (xs ((5 * kR) + 1)) (xs ((5 * kR) + 2)) n))), (0, .ref b), (1, .ref (a 0)), (2, .ref (a 30)), (3, .ref (a 60)), (4, .int (nI (5 * kR)))]) hx hb dL_law_1481 hl (by decide) rfl (fun ls hl => ?_)
    refine lv_aload_n hx hb dL_law_1483 rfl (lv_at hl 4 rfl) ?_
    refine z_ri (va_runV (As := []) (rest := []) ⟨hx, hb, hml, hown, hts⟩ (c_X5_thrown l D cI cJ cZ a H.size (nI (E_two (xs ((5 * kR) + 1)) (xs ((5 * kR) + 2)) n)) td nd n ld sl bd pw dt st uc sv tl so ag ns ss rg hw ax fu si au px pg py) (cwV 0 hts gL_law_X5_thrown rfl rfl rfl (by decide +kernel) ⟨Nat.le_of_ble_eq_true rfl, Nat.le_of_ble_eq_true rfl⟩) (z_pv hK (zP_R hP) (zD_R hD) (q0 := 0) (ci := 5) rfl rfl zT_b zT_m) rfl rfl hl.1 rfl (lv_room (Nat.le_of_ble_eq_true rfl)) dL_law_1484 ⟨hcr, hsr⟩) hP hS hA (fun r_ _ H locs hr_ hP hS => ?_)
    subst hr_
    refine lv_iload hx hb dL_law_1487 (lv_at hl 1 rfl) ?_
    refine lv_icmp_eq (tgt := 1494) hx hb dL_law_1489 (by decide) (fun _ => ?_) (fun c9 => absurd rfl c9)
    refine lv_iload hx hb dL_law_1494 (lv_at hl 1 rfl) ?_
    refine lv_if_ne (tgt := 1511) hx hb dL_law_1496 (by decide) (fun _ => ?_) (fun c9 => absurd c9 hnz)
    refine lv_goto (tgt := 1941) hx hb dL_law_1511 (by decide) ?_
    exact kk H locs ls ⟨px, py, td, ld, sl, bd, pw, dt, st, uc, sv, tl, so, lm, n, nd, ss, rg, hw, ax, fu, si, au, ns, jk, jd, js, jt, jn, ef, es, el, ev, et, eo, nI (E_two (xs ((5 * kR) + 1)) (xs ((5 * kR) + 2)) n), pg, ag, ou, hR.mono, hP, hD⟩ hS (lv_sub hl [2, 3, 4, 5, 6] rfl)
set_option maxHeartbeats 8000000 in
set_option maxRecDepth 100000 in
theorem law_allowed (p : Program) (l : Launch) (e : Env) (s : State) (m : MethodId) (below : List Frame) (meth : Method) (c : Code) (b L : Nat) (xs : Nat → Int32) (D : va_G) (cI cJ cZ : ClassId) (a : Nat → Nat) (A : Nat → Prop) (kR : Nat) (H : Heap) (locs : List Loc) (cells slots : Nat) (Q : State → Prop) (ls : Array Slot) (hZ : ZLw D cI cJ cZ a A kR H) : ZGo p l e s m below meth c b L xs D cI cJ cZ a A kR H locs cells slots Q ls 1514 := by
  intro hx hb hml hown hts hX hbl hbA hA hK hE hflg hkL hL hk hS hl hcr hsr kk
  obtain ⟨px, py, td, ld, sl, bd, pw, dt, st, uc, sv, tl, so, lm, n, nd, ss, rg, hw, ax, fu, si, au, ns, jk, jd, js, jt, jn, ef, es, el, ev, et, eo, th, pg, ag, ou, hR, hP, hD⟩ := hZ
  obtain ⟨t, ht, ht5, hjk, hF9, hL9, hS9, hJ9⟩ := id hR
  have hn : n ≤ 40 := hF9.1
  have hs : ns ≤ 16 := hS9.1
  have hj : jn < 512 := Nat.lt_of_le_of_lt hjk hk
  have hax := R_hax hS9
  have hmy := R_hmy hS9
  have hkk := hJ9.1
  refine lv_aload_n hx hb dL_law_1514 rfl (lv_at hl 1 rfl) ?_
  refine lv_aload_n hx hb dL_law_1515 rfl (lv_at hl 0 rfl) ?_
  refine lv_iload hx hb dL_law_1516 (lv_at hl 4 rfl) ?_
  refine lv_iconst (v := 1) hx hb dL_law_1518 (by decide) ?_
  refine lv_iadd hx hb dL_law_1519 ?_
  refine z_sld hx hb hX hbl hbA hS hL ((5 * kR) + 1) (z_iadd rfl (by decide)) (by omega) dL_law_1520 ?_
  refine lv_aload_n hx hb dL_law_1521 rfl (lv_at hl 0 rfl) ?_
  refine lv_iload hx hb dL_law_1522 (lv_at hl 4 rfl) ?_
  refine lv_iconst (v := 2) hx hb dL_law_1524 (by decide) ?_
  refine lv_iadd hx hb dL_law_1525 ?_
  refine z_sld hx hb hX hbl hbA hS hL ((5 * kR) + 2) (z_iadd rfl (by decide)) (by omega) dL_law_1526 ?_
  refine lv_aload_n hx hb dL_law_1527 rfl (lv_at hl 3 rfl) ?_
  by_cases hE0 : E_two (xs ((5 * kR) + 1)) (xs ((5 * kR) + 2)) n = 0
  · refine z_ciL (suf := (wMo cI cJ cZ a th td nd n ld sl bd pw dt st uc sv tl so ag ns ss rg hw ax fu si au px pg py)) (wc := ((wOr cI cJ cZ a px py td) ++ ((wFi cI cJ cZ a ld sl bd pw dt st uc sv tl so lm n nd) ++ ((wSa cI cJ cZ a ss rg hw ax fu si au ns) ++ ((wJo cI cJ cZ a jk jd js jt jn) ++ ((wEx cI cJ cZ a ef es el ev et eo) ++ (wOu cI cJ cZ a ou))))))) (w1 := ((wOr cI cJ cZ a px py td) ++ ((wFi cI cJ cZ a ld sl bd pw dt st uc sv tl so lm n nd) ++ ((wSa cI cJ cZ a ss rg hw ax fu si au ns) ++ ((wJo cI cJ cZ a jk jd js jt jn) ++ ((wEx cI cJ cZ a ef es el ev et eo) ++ (wOu cI cJ cZ a (F_sel (E_two (xs ((5 * kR) + 1)) (xs ((5 * kR) + 2)) n) (vp_updL ou 0 ((F_allow dt st lm (ix (xs ((5 * kR) + 1))) (ix (xs ((5 * kR) + 2)))).toInt64)) ou)))))))) (vx_runSW (As := [.ref (a 0), .int (xs ((5 * kR) + 1)), .int (xs ((5 * kR) + 2)), .ref (a 60)]) (rest := []) ⟨hx, hb, hml, hown, hts⟩ (c_L_allowed l hflg D cI cJ cZ a H.size px py td ld sl bd pw dt st uc sv tl so lm n nd ss rg hw ax fu si au ns jk jd js jt jn ef es el ev et eo ou (xs ((5 * kR) + 1)) (xs ((5 * kR) + 2)) hn) (vx_cwSW 4 hts gL_law_L_allowed rfl rfl rfl (by decide +kernel) ⟨Nat.le_of_ble_eq_true rfl, Nat.le_of_ble_eq_true rfl⟩) (z_ps hK (zP_L hP) (zD_L hD) ZX_b (ZX_m hE hS (zF_L hD hS hA))) rfl rfl hl.1 rfl (lv_room (Nat.le_of_ble_eq_true rfl)) dL_law_1528 ⟨hcr, hsr⟩) hP hD hS hA (adrC.trans adrC.symm) (fun r_ H locs hr_ hP hS => ?_)
    have hP : va_P D vwCl (((wOr cI cJ cZ a px py td) ++ ((wFi cI cJ cZ a ld sl bd pw dt st uc sv tl so lm n nd) ++ ((wSa cI cJ cZ a ss rg hw ax fu si au ns) ++ ((wJo cI cJ cZ a jk jd js jt jn) ++ ((wEx cI cJ cZ a ef es el ev et eo) ++ (wOu cI cJ cZ a (vp_updL ou 0 ((F_allow dt st lm (ix (xs ((5 * kR) + 1))) (ix (xs ((5 * kR) + 2)))).toInt64)))))))) ++ (wMo cI cJ cZ a th td nd n ld sl bd pw dt st uc sv tl so ag ns ss rg hw ax fu si au px pg py)) H := by have h9 := hP; simp only [F_sel_yes hE0] at h9; exact h9
    have hD : va_D A (((wOr cI cJ cZ a px py td) ++ ((wFi cI cJ cZ a ld sl bd pw dt st uc sv tl so lm n nd) ++ ((wSa cI cJ cZ a ss rg hw ax fu si au ns) ++ ((wJo cI cJ cZ a jk jd js jt jn) ++ ((wEx cI cJ cZ a ef es el ev et eo) ++ (wOu cI cJ cZ a (vp_updL ou 0 ((F_allow dt st lm (ix (xs ((5 * kR) + 1))) (ix (xs ((5 * kR) + 2)))).toInt64)))))))) ++ (wMo cI cJ cZ a th td nd n ld sl bd pw dt st uc sv tl so ag ns ss rg hw ax fu si au px pg py)) := zD_law hD
    obtain rfl : r_ = 0 := hr_.trans (by rw [hE0]; decide)
    have hp9 := (p_allowed kR t px py td ld sl bd pw dt st uc sv tl so lm n nd ss rg hw ax fu si au ns jk jd js jt jn ef es el ev et eo ag pg (xs ((5 * kR) + 1)) (xs ((5 * kR) + 2)) hR ht hk hE0)
    refine lv_istore (lv' := [(5, .int 0), (0, .ref b), (1, .ref (a 0)), (2, .ref (a 30)), (3, .ref (a 60)), (4, .int (nI (5 * kR)))]) hx hb dL_law_1531 hl (by decide) rfl (fun ls hl => ?_)
    refine lv_aload_n hx hb dL_law_1533 rfl (lv_at hl 3 rfl) ?_
    refine lv_aload_n hx hb dL_law_1534 rfl (lv_at hl 1 rfl) ?_
    refine lv_iload hx hb dL_law_1535 (lv_at hl 5 rfl) ?_
    refine lv_iconst (v := 1) hx hb dL_law_1537 (by decide) ?_
    refine lv_iadd hx hb dL_law_1538 ?_
    refine z_sld hx hb hX hbl hbA hS hL ((5 * kR) + 1) (z_iadd rfl (by decide)) (by omega) dL_law_1539 ?_
    refine lv_aload_n hx hb dL_law_1540 rfl (lv_at hl 1 rfl) ?_
    refine lv_iload hx hb dL_law_1541 (lv_at hl 5 rfl) ?_
    refine lv_iconst (v := 2) hx hb dL_law_1543 (by decide) ?_
    refine lv_iadd hx hb dL_law_1544 ?_
    refine z_sld hx hb hX hbl hbA hS hL ((5 * kR) + 2) (z_iadd rfl (by decide)) (by omega) dL_law_1545 ?_
    refine z_ciR (pre := ((wOr cI cJ cZ a px py td) ++ ((wFi cI cJ cZ a ld sl bd pw dt st uc sv tl so lm n nd) ++ ((wSa cI cJ cZ a ss rg hw ax fu si au ns) ++ ((wJo cI cJ cZ a jk jd js jt jn) ++ ((wEx cI cJ cZ a ef es el ev et eo) ++ (wOu cI cJ cZ a (vp_updL ou 0 ((F_allow dt st lm (ix (xs ((5 * kR) + 1))) (ix (xs ((5 * kR) + 2)))).toInt64))))))))) (wc := (wMo cI cJ cZ a th td nd n ld sl bd pw dt st uc sv tl so ag ns ss rg hw ax fu si au px pg py)) (w1 := (wMo cI cJ cZ a (nI (E_two (xs ((5 * kR) + 1)) (xs ((5 * kR) + 2)) n)) td nd n ld sl bd pw dt st uc sv tl so ag ns ss rg hw ax fu si au px pg py)) (va_runV (As := [.int (xs ((5 * kR) + 1)), .int (xs ((5 * kR) + 2))]) (rest := []) ⟨hx, hb, hml, hown, hts⟩ (c_X5_allowed l D cI cJ cZ a H.size th td nd n ld sl bd pw dt st uc sv tl so ag ns ss rg hw ax fu si au px pg py (xs ((5 * kR) + 1)) (xs ((5 * kR) + 2)) hn) (cwV 2 hts gL_law_X5_allowed rfl rfl rfl (by decide +kernel) ⟨Nat.le_of_ble_eq_true rfl, Nat.le_of_ble_eq_true rfl⟩) (z_pv hK (zP_R hP) (zD_R hD) (q0 := 0) (ci := 5) rfl rfl zT_b zT_m) rfl rfl hl.1 rfl (lv_room (Nat.le_of_ble_eq_true rfl)) dL_law_1546 ⟨hcr, hsr⟩) hP hD hS hA (adrM.trans adrM.symm) (fun r_ H locs hr_ hP hS => ?_)
    have heq : E_two (xs ((5 * kR) + 1)) (xs ((5 * kR) + 2)) n = E_two (xs ((5 * kR) + 1)) (xs ((5 * kR) + 2)) n := rfl
    have hE1 : E_two (xs ((5 * kR) + 1)) (xs ((5 * kR) + 2)) n = 0 := heq.trans hE0
    have hth : nI (E_two (xs ((5 * kR) + 1)) (xs ((5 * kR) + 2)) n) = 0 := by rw [hE1]; decide
    have hP : va_P D vwCl (((wOr cI cJ cZ a px py td) ++ ((wFi cI cJ cZ a ld sl bd pw dt st uc sv tl so lm n nd) ++ ((wSa cI cJ cZ a ss rg hw ax fu si au ns) ++ ((wJo cI cJ cZ a jk jd js jt jn) ++ ((wEx cI cJ cZ a ef es el ev et eo) ++ (wOu cI cJ cZ a (vp_updL ou 0 ((F_allow dt st lm (ix (xs ((5 * kR) + 1))) (ix (xs ((5 * kR) + 2)))).toInt64)))))))) ++ (wMo cI cJ cZ a 0 td nd n ld sl bd pw dt st uc sv tl so ag ns ss rg hw ax fu si au px pg py)) H := by have h9 := hP; simp only [hth, F_sel_yes hE1] at h9; exact h9
    have hD : va_D A (((wOr cI cJ cZ a px py td) ++ ((wFi cI cJ cZ a ld sl bd pw dt st uc sv tl so lm n nd) ++ ((wSa cI cJ cZ a ss rg hw ax fu si au ns) ++ ((wJo cI cJ cZ a jk jd js jt jn) ++ ((wEx cI cJ cZ a ef es el ev et eo) ++ (wOu cI cJ cZ a (vp_updL ou 0 ((F_allow dt st lm (ix (xs ((5 * kR) + 1))) (ix (xs ((5 * kR) + 2)))).toInt64)))))))) ++ (wMo cI cJ cZ a 0 td nd n ld sl bd pw dt st uc sv tl so ag ns ss rg hw ax fu si au px pg py)) := zD_law hD
    obtain rfl : r_ = G_allow dt st ag (ix (xs ((5 * kR) + 1))) (ix (xs ((5 * kR) + 2))) := hr_.trans (F_sel_yes hE1 _ _)
    refine lv_istore (lv' := [(6, .int (G_allow dt st ag (ix (xs ((5 * kR) + 1))) (ix (xs ((5 * kR) + 2))))), (5, .int 0), (0, .ref b), (1, .ref (a 0)), (2, .ref (a 30)), (3, .ref (a 60)), (4, .int (nI (5 * kR)))]) hx hb dL_law_1549 hl (by decide) rfl (fun ls hl => ?_)
    refine lv_aload_n hx hb dL_law_1551 rfl (lv_at hl 4 rfl) ?_
    refine z_ri (va_runV (As := []) (rest := []) ⟨hx, hb, hml, hown, hts⟩ (c_X5_thrown l D cI cJ cZ a H.size 0 td nd n ld sl bd pw dt st uc sv tl so ag ns ss rg hw ax fu si au px pg py) (cwV 0 hts gL_law_X5_thrown rfl rfl rfl (by decide +kernel) ⟨Nat.le_of_ble_eq_true rfl, Nat.le_of_ble_eq_true rfl⟩) (z_pv hK (zP_R hP) (zD_R hD) (q0 := 0) (ci := 5) rfl rfl zT_b zT_m) rfl rfl hl.1 rfl (lv_room (Nat.le_of_ble_eq_true rfl)) dL_law_1552 ⟨hcr, hsr⟩) hP hS hA (fun r_ _ H locs hr_ hP hS => ?_)
    subst hr_
    refine lv_iload hx hb dL_law_1555 (lv_at hl 1 rfl) ?_
    refine lv_icmp_eq (tgt := 1562) hx hb dL_law_1557 (by decide) (fun _ => ?_) (fun c9 => absurd (by decide) c9)
    refine lv_iload hx hb dL_law_1562 (lv_at hl 1 rfl) ?_
    refine lv_if_ne (tgt := 1579) hx hb dL_law_1564 (by decide) (fun c9 => absurd (by decide) c9) (fun _ => ?_)
    refine lv_aload_n hx hb dL_law_1567 rfl (lv_at hl 5 rfl) ?_
    refine lv_iconst (v := 0) hx hb dL_law_1568 (by decide) ?_
    refine z_lald hx hb hK hP 29 1 rfl rfl 0 (by decide) (by decide) rfl dL_law_1569 ?_
    refine lv_iload hx hb dL_law_1570 (lv_at hl 0 rfl) ?_
    refine lv_i2l (v := (G_allow dt st ag (ix (xs ((5 * kR) + 1))) (ix (xs ((5 * kR) + 2)))).toInt64) hx hb dL_law_1572 rfl ?_
    have hc9 : lg_cmp ((vp_updL ou 0 ((F_allow dt st lm (ix (xs ((5 * kR) + 1))) (ix (xs ((5 * kR) + 2)))).toInt64)) 0) ((G_allow dt st ag (ix (xs ((5 * kR) + 1))) (ix (xs ((5 * kR) + 2)))).toInt64) = 0 := z_cmp ((vp_updL_0 _ _).trans (by rw [hp9.1]))
    refine W.lcmp hx hb dL_law_1573 ?_
    refine lv_if_eq (tgt := 1579) hx hb dL_law_1574 (by decide) (fun _ => ?_) (fun c9 => absurd hc9 c9)
    refine lv_goto (tgt := 1941) hx hb dL_law_1579 (by decide) ?_
    exact kk H locs ls ⟨px, py, td, ld, sl, bd, pw, dt, st, uc, sv, tl, so, lm, n, nd, ss, rg, hw, ax, fu, si, au, ns, jk, jd, js, jt, jn, ef, es, el, ev, et, eo, 0, pg, ag, (vp_updL ou 0 ((F_allow dt st lm (ix (xs ((5 * kR) + 1))) (ix (xs ((5 * kR) + 2)))).toInt64)), hp9.2, hP, hD⟩ hS (lv_sub hl [2, 3, 4, 5, 6] rfl)
  · refine z_ciL (suf := (wMo cI cJ cZ a th td nd n ld sl bd pw dt st uc sv tl so ag ns ss rg hw ax fu si au px pg py)) (wc := ((wOr cI cJ cZ a px py td) ++ ((wFi cI cJ cZ a ld sl bd pw dt st uc sv tl so lm n nd) ++ ((wSa cI cJ cZ a ss rg hw ax fu si au ns) ++ ((wJo cI cJ cZ a jk jd js jt jn) ++ ((wEx cI cJ cZ a ef es el ev et eo) ++ (wOu cI cJ cZ a ou))))))) (w1 := ((wOr cI cJ cZ a px py td) ++ ((wFi cI cJ cZ a ld sl bd pw dt st uc sv tl so lm n nd) ++ ((wSa cI cJ cZ a ss rg hw ax fu si au ns) ++ ((wJo cI cJ cZ a jk jd js jt jn) ++ ((wEx cI cJ cZ a ef es el ev et eo) ++ (wOu cI cJ cZ a (F_sel (E_two (xs ((5 * kR) + 1)) (xs ((5 * kR) + 2)) n) (vp_updL ou 0 ((F_allow dt st lm (ix (xs ((5 * kR) + 1))) (ix (xs ((5 * kR) + 2)))).toInt64)) ou)))))))) (vx_runSW (As := [.ref (a 0), .int (xs ((5 * kR) + 1)), .int (xs ((5 * kR) + 2)), .ref (a 60)]) (rest := []) ⟨hx, hb, hml, hown, hts⟩ (c_L_allowed l hflg D cI cJ cZ a H.size px py td ld sl bd pw dt st uc sv tl so lm n nd ss rg hw ax fu si au ns jk jd js jt jn ef es el ev et eo ou (xs ((5 * kR) + 1)) (xs ((5 * kR) + 2)) hn) (vx_cwSW 4 hts gL_law_L_allowed rfl rfl rfl (by decide +kernel) ⟨Nat.le_of_ble_eq_true rfl, Nat.le_of_ble_eq_true rfl⟩) (z_ps hK (zP_L hP) (zD_L hD) ZX_b (ZX_m hE hS (zF_L hD hS hA))) rfl rfl hl.1 rfl (lv_room (Nat.le_of_ble_eq_true rfl)) dL_law_1528 ⟨hcr, hsr⟩) hP hD hS hA (adrC.trans adrC.symm) (fun r_ H locs hr_ hP hS => ?_)
    have hP : va_P D vwCl (((wOr cI cJ cZ a px py td) ++ ((wFi cI cJ cZ a ld sl bd pw dt st uc sv tl so lm n nd) ++ ((wSa cI cJ cZ a ss rg hw ax fu si au ns) ++ ((wJo cI cJ cZ a jk jd js jt jn) ++ ((wEx cI cJ cZ a ef es el ev et eo) ++ (wOu cI cJ cZ a ou)))))) ++ (wMo cI cJ cZ a th td nd n ld sl bd pw dt st uc sv tl so ag ns ss rg hw ax fu si au px pg py)) H := by have h9 := hP; simp only [F_sel_no hE0] at h9; exact h9
    have hD : va_D A (((wOr cI cJ cZ a px py td) ++ ((wFi cI cJ cZ a ld sl bd pw dt st uc sv tl so lm n nd) ++ ((wSa cI cJ cZ a ss rg hw ax fu si au ns) ++ ((wJo cI cJ cZ a jk jd js jt jn) ++ ((wEx cI cJ cZ a ef es el ev et eo) ++ (wOu cI cJ cZ a ou)))))) ++ (wMo cI cJ cZ a th td nd n ld sl bd pw dt st uc sv tl so ag ns ss rg hw ax fu si au px pg py)) := zD_law hD
    subst hr_
    have hnz : ¬ (nI (E_two (xs ((5 * kR) + 1)) (xs ((5 * kR) + 2)) n)) = 0 := z_nz hE0 (by unfold E_two; (repeat' split); all_goals decide)
    refine lv_istore (lv' := [(5, .int (nI (E_two (xs ((5 * kR) + 1)) (xs ((5 * kR) + 2)) n))), (0, .ref b), (1, .ref (a 0)), (2, .ref (a 30)), (3, .ref (a 60)), (4, .int (nI (5 * kR)))]) hx hb dL_law_1531 hl (by decide) rfl (fun ls hl => ?_)
    refine lv_aload_n hx hb dL_law_1533 rfl (lv_at hl 3 rfl) ?_
    refine lv_aload_n hx hb dL_law_1534 rfl (lv_at hl 1 rfl) ?_
    refine lv_iload hx hb dL_law_1535 (lv_at hl 5 rfl) ?_
    refine lv_iconst (v := 1) hx hb dL_law_1537 (by decide) ?_
    refine lv_iadd hx hb dL_law_1538 ?_
    refine z_sld hx hb hX hbl hbA hS hL ((5 * kR) + 1) (z_iadd rfl (by decide)) (by omega) dL_law_1539 ?_
    refine lv_aload_n hx hb dL_law_1540 rfl (lv_at hl 1 rfl) ?_
    refine lv_iload hx hb dL_law_1541 (lv_at hl 5 rfl) ?_
    refine lv_iconst (v := 2) hx hb dL_law_1543 (by decide) ?_
    refine lv_iadd hx hb dL_law_1544 ?_
    refine z_sld hx hb hX hbl hbA hS hL ((5 * kR) + 2) (z_iadd rfl (by decide)) (by omega) dL_law_1545 ?_
    refine z_ciR (pre := ((wOr cI cJ cZ a px py td) ++ ((wFi cI cJ cZ a ld sl bd pw dt st uc sv tl so lm n nd) ++ ((wSa cI cJ cZ a ss rg hw ax fu si au ns) ++ ((wJo cI cJ cZ a jk jd js jt jn) ++ ((wEx cI cJ cZ a ef es el ev et eo) ++ (wOu cI cJ cZ a ou))))))) (wc := (wMo cI cJ cZ a th td nd n ld sl bd pw dt st uc sv tl so ag ns ss rg hw ax fu si au px pg py)) (w1 := (wMo cI cJ cZ a (nI (E_two (xs ((5 * kR) + 1)) (xs ((5 * kR) + 2)) n)) td nd n ld sl bd pw dt st uc sv tl so ag ns ss rg hw ax fu si au px pg py)) (va_runV (As := [.int (xs ((5 * kR) + 1)), .int (xs ((5 * kR) + 2))]) (rest := []) ⟨hx, hb, hml, hown, hts⟩ (c_X5_allowed l D cI cJ cZ a H.size th td nd n ld sl bd pw dt st uc sv tl so ag ns ss rg hw ax fu si au px pg py (xs ((5 * kR) + 1)) (xs ((5 * kR) + 2)) hn) (cwV 2 hts gL_law_X5_allowed rfl rfl rfl (by decide +kernel) ⟨Nat.le_of_ble_eq_true rfl, Nat.le_of_ble_eq_true rfl⟩) (z_pv hK (zP_R hP) (zD_R hD) (q0 := 0) (ci := 5) rfl rfl zT_b zT_m) rfl rfl hl.1 rfl (lv_room (Nat.le_of_ble_eq_true rfl)) dL_law_1546 ⟨hcr, hsr⟩) hP hD hS hA (adrM.trans adrM.symm) (fun r_ H locs hr_ hP hS => ?_)
    have heq : E_two (xs ((5 * kR) + 1)) (xs ((5 * kR) + 2)) n = E_two (xs ((5 * kR) + 1)) (xs ((5 * kR) + 2)) n := rfl
    have hE1 : ¬ E_two (xs ((5 * kR) + 1)) (xs ((5 * kR) + 2)) n = 0 := fun h => hE0 (heq.symm.trans h)
    have hP : va_P D vwCl (((wOr cI cJ cZ a px py td) ++ ((wFi cI cJ cZ a ld sl bd pw dt st uc sv tl so lm n nd) ++ ((wSa cI cJ cZ a ss rg hw ax fu si au ns) ++ ((wJo cI cJ cZ a jk jd js jt jn) ++ ((wEx cI cJ cZ a ef es el ev et eo) ++ (wOu cI cJ cZ a ou)))))) ++ (wMo cI cJ cZ a (nI (E_two (xs ((5 * kR) + 1)) (xs ((5 * kR) + 2)) n)) td nd n ld sl bd pw dt st uc sv tl so ag ns ss rg hw ax fu si au px pg py)) H := hP
    have hD : va_D A (((wOr cI cJ cZ a px py td) ++ ((wFi cI cJ cZ a ld sl bd pw dt st uc sv tl so lm n nd) ++ ((wSa cI cJ cZ a ss rg hw ax fu si au ns) ++ ((wJo cI cJ cZ a jk jd js jt jn) ++ ((wEx cI cJ cZ a ef es el ev et eo) ++ (wOu cI cJ cZ a ou)))))) ++ (wMo cI cJ cZ a (nI (E_two (xs ((5 * kR) + 1)) (xs ((5 * kR) + 2)) n)) td nd n ld sl bd pw dt st uc sv tl so ag ns ss rg hw ax fu si au px pg py)) := zD_law hD
    obtain rfl : r_ = 0 := hr_.trans (F_sel_no hE1 _ _)
    refine lv_istore (lv' := [(6, .int 0), (5, .int (nI (E_two (xs ((5 * kR) + 1)) (xs ((5 * kR) + 2)) n))), (0, .ref b), (1, .ref (a 0)), (2, .ref (a 30)), (3, .ref (a 60)), (4, .int (nI (5 * kR)))]) hx hb dL_law_1549 hl (by decide) rfl (fun ls hl => ?_)
    refine lv_aload_n hx hb dL_law_1551 rfl (lv_at hl 4 rfl) ?_
    refine z_ri (va_runV (As := []) (rest := []) ⟨hx, hb, hml, hown, hts⟩ (c_X5_thrown l D cI cJ cZ a H.size (nI (E_two (xs ((5 * kR) + 1)) (xs ((5 * kR) + 2)) n)) td nd n ld sl bd pw dt st uc sv tl so ag ns ss rg hw ax fu si au px pg py) (cwV 0 hts gL_law_X5_thrown rfl rfl rfl (by decide +kernel) ⟨Nat.le_of_ble_eq_true rfl, Nat.le_of_ble_eq_true rfl⟩) (z_pv hK (zP_R hP) (zD_R hD) (q0 := 0) (ci := 5) rfl rfl zT_b zT_m) rfl rfl hl.1 rfl (lv_room (Nat.le_of_ble_eq_true rfl)) dL_law_1552 ⟨hcr, hsr⟩) hP hS hA (fun r_ _ H locs hr_ hP hS => ?_)
    subst hr_
    refine lv_iload hx hb dL_law_1555 (lv_at hl 1 rfl) ?_
    refine lv_icmp_eq (tgt := 1562) hx hb dL_law_1557 (by decide) (fun _ => ?_) (fun c9 => absurd rfl c9)
    refine lv_iload hx hb dL_law_1562 (lv_at hl 1 rfl) ?_
    refine lv_if_ne (tgt := 1579) hx hb dL_law_1564 (by decide) (fun _ => ?_) (fun c9 => absurd c9 hnz)
    refine lv_goto (tgt := 1941) hx hb dL_law_1579 (by decide) ?_
    exact kk H locs ls ⟨px, py, td, ld, sl, bd, pw, dt, st, uc, sv, tl, so, lm, n, nd, ss, rg, hw, ax, fu, si, au, ns, jk, jd, js, jt, jn, ef, es, el, ev, et, eo, nI (E_two (xs ((5 * kR) + 1)) (xs ((5 * kR) + 2)) n), pg, ag, ou, hR.mono, hP, hD⟩ hS (lv_sub hl [2, 3, 4, 5, 6] rfl)
set_option maxHeartbeats 8000000 in
set_option maxRecDepth 100000 in
theorem law_needs (p : Program) (l : Launch) (e : Env) (s : State) (m : MethodId) (below : List Frame) (meth : Method) (c : Code) (b L : Nat) (xs : Nat → Int32) (D : va_G) (cI cJ cZ : ClassId) (a : Nat → Nat) (A : Nat → Prop) (kR : Nat) (H : Heap) (locs : List Loc) (cells slots : Nat) (Q : State → Prop) (ls : Array Slot) (hZ : ZLw D cI cJ cZ a A kR H) : ZGo p l e s m below meth c b L xs D cI cJ cZ a A kR H locs cells slots Q ls 1582 := by
  intro hx hb hml hown hts hX hbl hbA hA hK hE hflg hkL hL hk hS hl hcr hsr kk
  obtain ⟨px, py, td, ld, sl, bd, pw, dt, st, uc, sv, tl, so, lm, n, nd, ss, rg, hw, ax, fu, si, au, ns, jk, jd, js, jt, jn, ef, es, el, ev, et, eo, th, pg, ag, ou, hR, hP, hD⟩ := hZ
  obtain ⟨t, ht, ht5, hjk, hF9, hL9, hS9, hJ9⟩ := id hR
  have hn : n ≤ 40 := hF9.1
  have hs : ns ≤ 16 := hS9.1
  have hj : jn < 512 := Nat.lt_of_le_of_lt hjk hk
  have hax := R_hax hS9
  have hmy := R_hmy hS9
  have hkk := hJ9.1
  refine lv_aload_n hx hb dL_law_1582 rfl (lv_at hl 1 rfl) ?_
  refine lv_aload_n hx hb dL_law_1583 rfl (lv_at hl 0 rfl) ?_
  refine lv_iload hx hb dL_law_1584 (lv_at hl 4 rfl) ?_
  refine lv_iconst (v := 1) hx hb dL_law_1586 (by decide) ?_
  refine lv_iadd hx hb dL_law_1587 ?_
  refine z_sld hx hb hX hbl hbA hS hL ((5 * kR) + 1) (z_iadd rfl (by decide)) (by omega) dL_law_1588 ?_
  refine lv_aload_n hx hb dL_law_1589 rfl (lv_at hl 3 rfl) ?_
  by_cases hE0 : E_one (xs ((5 * kR) + 1)) n = 0
  · refine z_ciL (suf := (wMo cI cJ cZ a th td nd n ld sl bd pw dt st uc sv tl so ag ns ss rg hw ax fu si au px pg py)) (wc := ((wOr cI cJ cZ a px py td) ++ ((wFi cI cJ cZ a ld sl bd pw dt st uc sv tl so lm n nd) ++ ((wSa cI cJ cZ a ss rg hw ax fu si au ns) ++ ((wJo cI cJ cZ a jk jd js jt jn) ++ ((wEx cI cJ cZ a ef es el ev et eo) ++ (wOu cI cJ cZ a ou))))))) (w1 := ((wOr cI cJ cZ a px py td) ++ ((wFi cI cJ cZ a ld sl bd pw dt st uc sv tl so lm n nd) ++ ((wSa cI cJ cZ a ss rg hw ax fu si au ns) ++ ((wJo cI cJ cZ a jk jd js jt jn) ++ ((wEx cI cJ cZ a ef es el ev et eo) ++ (wOu cI cJ cZ a (F_sel (E_one (xs ((5 * kR) + 1)) n) (vp_updL ou 0 ((F_cnt (fun k => F_over bd st sl pw dt lm (ix (xs ((5 * kR) + 1))) k) n).toInt64)) ou)))))))) (vx_runSW (As := [.ref (a 0), .int (xs ((5 * kR) + 1)), .ref (a 60)]) (rest := []) ⟨hx, hb, hml, hown, hts⟩ (c_L_needs l hflg D cI cJ cZ a H.size px py td ld sl bd pw dt st uc sv tl so lm n nd ss rg hw ax fu si au ns jk jd js jt jn ef es el ev et eo ou (xs ((5 * kR) + 1)) hn) (vx_cwSW 3 hts gL_law_L_needs rfl rfl rfl (by decide +kernel) ⟨Nat.le_of_ble_eq_true rfl, Nat.le_of_ble_eq_true rfl⟩) (z_ps hK (zP_L hP) (zD_L hD) ZX_b (ZX_m hE hS (zF_L hD hS hA))) rfl rfl hl.1 rfl (lv_room (Nat.le_of_ble_eq_true rfl)) dL_law_1590 ⟨hcr, hsr⟩) hP hD hS hA (adrC.trans adrC.symm) (fun r_ H locs hr_ hP hS => ?_)
    have hP : va_P D vwCl (((wOr cI cJ cZ a px py td) ++ ((wFi cI cJ cZ a ld sl bd pw dt st uc sv tl so lm n nd) ++ ((wSa cI cJ cZ a ss rg hw ax fu si au ns) ++ ((wJo cI cJ cZ a jk jd js jt jn) ++ ((wEx cI cJ cZ a ef es el ev et eo) ++ (wOu cI cJ cZ a (vp_updL ou 0 ((F_cnt (fun k => F_over bd st sl pw dt lm (ix (xs ((5 * kR) + 1))) k) n).toInt64)))))))) ++ (wMo cI cJ cZ a th td nd n ld sl bd pw dt st uc sv tl so ag ns ss rg hw ax fu si au px pg py)) H := by have h9 := hP; simp only [F_sel_yes hE0] at h9; exact h9
    have hD : va_D A (((wOr cI cJ cZ a px py td) ++ ((wFi cI cJ cZ a ld sl bd pw dt st uc sv tl so lm n nd) ++ ((wSa cI cJ cZ a ss rg hw ax fu si au ns) ++ ((wJo cI cJ cZ a jk jd js jt jn) ++ ((wEx cI cJ cZ a ef es el ev et eo) ++ (wOu cI cJ cZ a (vp_updL ou 0 ((F_cnt (fun k => F_over bd st sl pw dt lm (ix (xs ((5 * kR) + 1))) k) n).toInt64)))))))) ++ (wMo cI cJ cZ a th td nd n ld sl bd pw dt st uc sv tl so ag ns ss rg hw ax fu si au px pg py)) := zD_law hD
    obtain rfl : r_ = 0 := hr_.trans (by rw [hE0]; decide)
    have hp9 := (p_needs kR t px py td ld sl bd pw dt st uc sv tl so lm n nd ss rg hw ax fu si au ns jk jd js jt jn ef es el ev et eo ag pg (xs ((5 * kR) + 1)) hR ht hk hE0)
    refine lv_istore (lv' := [(5, .int 0), (0, .ref b), (1, .ref (a 0)), (2, .ref (a 30)), (3, .ref (a 60)), (4, .int (nI (5 * kR)))]) hx hb dL_law_1593 hl (by decide) rfl (fun ls hl => ?_)
    refine lv_aload_n hx hb dL_law_1595 rfl (lv_at hl 3 rfl) ?_
    refine lv_aload_n hx hb dL_law_1596 rfl (lv_at hl 1 rfl) ?_
    refine lv_iload hx hb dL_law_1597 (lv_at hl 5 rfl) ?_
    refine lv_iconst (v := 1) hx hb dL_law_1599 (by decide) ?_
    refine lv_iadd hx hb dL_law_1600 ?_
    refine z_sld hx hb hX hbl hbA hS hL ((5 * kR) + 1) (z_iadd rfl (by decide)) (by omega) dL_law_1601 ?_
    refine z_ciR (pre := ((wOr cI cJ cZ a px py td) ++ ((wFi cI cJ cZ a ld sl bd pw dt st uc sv tl so lm n nd) ++ ((wSa cI cJ cZ a ss rg hw ax fu si au ns) ++ ((wJo cI cJ cZ a jk jd js jt jn) ++ ((wEx cI cJ cZ a ef es el ev et eo) ++ (wOu cI cJ cZ a (vp_updL ou 0 ((F_cnt (fun k => F_over bd st sl pw dt lm (ix (xs ((5 * kR) + 1))) k) n).toInt64))))))))) (wc := (wMo cI cJ cZ a th td nd n ld sl bd pw dt st uc sv tl so ag ns ss rg hw ax fu si au px pg py)) (w1 := (wMo cI cJ cZ a (nI (E_one (xs ((5 * kR) + 1)) n)) td nd n ld sl bd pw dt st uc sv tl so ag ns ss rg hw ax fu si au px pg py)) (va_runV (As := [.int (xs ((5 * kR) + 1))]) (rest := []) ⟨hx, hb, hml, hown, hts⟩ (c_X5_needs l D cI cJ cZ a H.size th td nd n ld sl bd pw dt st uc sv tl so ag ns ss rg hw ax fu si au px pg py (xs ((5 * kR) + 1)) hn) (cwV 1 hts gL_law_X5_needs rfl rfl rfl (by decide +kernel) ⟨Nat.le_of_ble_eq_true rfl, Nat.le_of_ble_eq_true rfl⟩) (z_pv hK (zP_R hP) (zD_R hD) (q0 := 0) (ci := 5) rfl rfl zT_b zT_m) rfl rfl hl.1 rfl (lv_room (Nat.le_of_ble_eq_true rfl)) dL_law_1602 ⟨hcr, hsr⟩) hP hD hS hA (adrM.trans adrM.symm) (fun r_ H locs hr_ hP hS => ?_)
    have heq : E_one (xs ((5 * kR) + 1)) n = E_one (xs ((5 * kR) + 1)) n := rfl
    have hE1 : E_one (xs ((5 * kR) + 1)) n = 0 := heq.trans hE0
    have hth : nI (E_one (xs ((5 * kR) + 1)) n) = 0 := by rw [hE1]; decide
    have hP : va_P D vwCl (((wOr cI cJ cZ a px py td) ++ ((wFi cI cJ cZ a ld sl bd pw dt st uc sv tl so lm n nd) ++ ((wSa cI cJ cZ a ss rg hw ax fu si au ns) ++ ((wJo cI cJ cZ a jk jd js jt jn) ++ ((wEx cI cJ cZ a ef es el ev et eo) ++ (wOu cI cJ cZ a (vp_updL ou 0 ((F_cnt (fun k => F_over bd st sl pw dt lm (ix (xs ((5 * kR) + 1))) k) n).toInt64)))))))) ++ (wMo cI cJ cZ a 0 td nd n ld sl bd pw dt st uc sv tl so ag ns ss rg hw ax fu si au px pg py)) H := by have h9 := hP; simp only [hth, F_sel_yes hE1] at h9; exact h9
    have hD : va_D A (((wOr cI cJ cZ a px py td) ++ ((wFi cI cJ cZ a ld sl bd pw dt st uc sv tl so lm n nd) ++ ((wSa cI cJ cZ a ss rg hw ax fu si au ns) ++ ((wJo cI cJ cZ a jk jd js jt jn) ++ ((wEx cI cJ cZ a ef es el ev et eo) ++ (wOu cI cJ cZ a (vp_updL ou 0 ((F_cnt (fun k => F_over bd st sl pw dt lm (ix (xs ((5 * kR) + 1))) k) n).toInt64)))))))) ++ (wMo cI cJ cZ a 0 td nd n ld sl bd pw dt st uc sv tl so ag ns ss rg hw ax fu si au px pg py)) := zD_law hD
    obtain rfl : r_ = G_needs bd st sl pw dt ag (ix (xs ((5 * kR) + 1))) n := hr_.trans (F_sel_yes hE1 _ _)
    refine lv_istore (lv' := [(6, .int (G_needs bd st sl pw dt ag (ix (xs ((5 * kR) + 1))) n)), (5, .int 0), (0, .ref b), (1, .ref (a 0)), (2, .ref (a 30)), (3, .ref (a 60)), (4, .int (nI (5 * kR)))]) hx hb dL_law_1605 hl (by decide) rfl (fun ls hl => ?_)
    refine lv_aload_n hx hb dL_law_1607 rfl (lv_at hl 4 rfl) ?_
    refine z_ri (va_runV (As := []) (rest := []) ⟨hx, hb, hml, hown, hts⟩ (c_X5_thrown l D cI cJ cZ a H.size 0 td nd n ld sl bd pw dt st uc sv tl so ag ns ss rg hw ax fu si au px pg py) (cwV 0 hts gL_law_X5_thrown rfl rfl rfl (by decide +kernel) ⟨Nat.le_of_ble_eq_true rfl, Nat.le_of_ble_eq_true rfl⟩) (z_pv hK (zP_R hP) (zD_R hD) (q0 := 0) (ci := 5) rfl rfl zT_b zT_m) rfl rfl hl.1 rfl (lv_room (Nat.le_of_ble_eq_true rfl)) dL_law_1608 ⟨hcr, hsr⟩) hP hS hA (fun r_ _ H locs hr_ hP hS => ?_)
    subst hr_
    refine lv_iload hx hb dL_law_1611 (lv_at hl 1 rfl) ?_
    refine lv_icmp_eq (tgt := 1618) hx hb dL_law_1613 (by decide) (fun _ => ?_) (fun c9 => absurd (by decide) c9)
    refine lv_iload hx hb dL_law_1618 (lv_at hl 1 rfl) ?_
    refine lv_if_ne (tgt := 1635) hx hb dL_law_1620 (by decide) (fun c9 => absurd (by decide) c9) (fun _ => ?_)
    refine lv_aload_n hx hb dL_law_1623 rfl (lv_at hl 5 rfl) ?_
    refine lv_iconst (v := 0) hx hb dL_law_1624 (by decide) ?_
    refine z_lald hx hb hK hP 29 1 rfl rfl 0 (by decide) (by decide) rfl dL_law_1625 ?_
    refine lv_iload hx hb dL_law_1626 (lv_at hl 0 rfl) ?_
    refine lv_i2l (v := (G_needs bd st sl pw dt ag (ix (xs ((5 * kR) + 1))) n).toInt64) hx hb dL_law_1628 rfl ?_
    have hc9 : lg_cmp ((vp_updL ou 0 ((F_cnt (fun k => F_over bd st sl pw dt lm (ix (xs ((5 * kR) + 1))) k) n).toInt64)) 0) ((G_needs bd st sl pw dt ag (ix (xs ((5 * kR) + 1))) n).toInt64) = 0 := z_cmp ((vp_updL_0 _ _).trans (by rw [hp9.1]))
    refine W.lcmp hx hb dL_law_1629 ?_
    refine lv_if_eq (tgt := 1635) hx hb dL_law_1630 (by decide) (fun _ => ?_) (fun c9 => absurd hc9 c9)
    refine lv_goto (tgt := 1941) hx hb dL_law_1635 (by decide) ?_
    exact kk H locs ls ⟨px, py, td, ld, sl, bd, pw, dt, st, uc, sv, tl, so, lm, n, nd, ss, rg, hw, ax, fu, si, au, ns, jk, jd, js, jt, jn, ef, es, el, ev, et, eo, 0, pg, ag, (vp_updL ou 0 ((F_cnt (fun k => F_over bd st sl pw dt lm (ix (xs ((5 * kR) + 1))) k) n).toInt64)), hp9.2, hP, hD⟩ hS (lv_sub hl [2, 3, 4, 5, 6] rfl)
  · refine z_ciL (suf := (wMo cI cJ cZ a th td nd n ld sl bd pw dt st uc sv tl so ag ns ss rg hw ax fu si au px pg py)) (wc := ((wOr cI cJ cZ a px py td) ++ ((wFi cI cJ cZ a ld sl bd pw dt st uc sv tl so lm n nd) ++ ((wSa cI cJ cZ a ss rg hw ax fu si au ns) ++ ((wJo cI cJ cZ a jk jd js jt jn) ++ ((wEx cI cJ cZ a ef es el ev et eo) ++ (wOu cI cJ cZ a ou))))))) (w1 := ((wOr cI cJ cZ a px py td) ++ ((wFi cI cJ cZ a ld sl bd pw dt st uc sv tl so lm n nd) ++ ((wSa cI cJ cZ a ss rg hw ax fu si au ns) ++ ((wJo cI cJ cZ a jk jd js jt jn) ++ ((wEx cI cJ cZ a ef es el ev et eo) ++ (wOu cI cJ cZ a (F_sel (E_one (xs ((5 * kR) + 1)) n) (vp_updL ou 0 ((F_cnt (fun k => F_over bd st sl pw dt lm (ix (xs ((5 * kR) + 1))) k) n).toInt64)) ou)))))))) (vx_runSW (As := [.ref (a 0), .int (xs ((5 * kR) + 1)), .ref (a 60)]) (rest := []) ⟨hx, hb, hml, hown, hts⟩ (c_L_needs l hflg D cI cJ cZ a H.size px py td ld sl bd pw dt st uc sv tl so lm n nd ss rg hw ax fu si au ns jk jd js jt jn ef es el ev et eo ou (xs ((5 * kR) + 1)) hn) (vx_cwSW 3 hts gL_law_L_needs rfl rfl rfl (by decide +kernel) ⟨Nat.le_of_ble_eq_true rfl, Nat.le_of_ble_eq_true rfl⟩) (z_ps hK (zP_L hP) (zD_L hD) ZX_b (ZX_m hE hS (zF_L hD hS hA))) rfl rfl hl.1 rfl (lv_room (Nat.le_of_ble_eq_true rfl)) dL_law_1590 ⟨hcr, hsr⟩) hP hD hS hA (adrC.trans adrC.symm) (fun r_ H locs hr_ hP hS => ?_)
    have hP : va_P D vwCl (((wOr cI cJ cZ a px py td) ++ ((wFi cI cJ cZ a ld sl bd pw dt st uc sv tl so lm n nd) ++ ((wSa cI cJ cZ a ss rg hw ax fu si au ns) ++ ((wJo cI cJ cZ a jk jd js jt jn) ++ ((wEx cI cJ cZ a ef es el ev et eo) ++ (wOu cI cJ cZ a ou)))))) ++ (wMo cI cJ cZ a th td nd n ld sl bd pw dt st uc sv tl so ag ns ss rg hw ax fu si au px pg py)) H := by have h9 := hP; simp only [F_sel_no hE0] at h9; exact h9
    have hD : va_D A (((wOr cI cJ cZ a px py td) ++ ((wFi cI cJ cZ a ld sl bd pw dt st uc sv tl so lm n nd) ++ ((wSa cI cJ cZ a ss rg hw ax fu si au ns) ++ ((wJo cI cJ cZ a jk jd js jt jn) ++ ((wEx cI cJ cZ a ef es el ev et eo) ++ (wOu cI cJ cZ a ou)))))) ++ (wMo cI cJ cZ a th td nd n ld sl bd pw dt st uc sv tl so ag ns ss rg hw ax fu si au px pg py)) := zD_law hD
    subst hr_
    have hnz : ¬ (nI (E_one (xs ((5 * kR) + 1)) n)) = 0 := z_nz hE0 (by unfold E_one; (repeat' split); all_goals decide)
    refine lv_istore (lv' := [(5, .int (nI (E_one (xs ((5 * kR) + 1)) n))), (0, .ref b), (1, .ref (a 0)), (2, .ref (a 30)), (3, .ref (a 60)), (4, .int (nI (5 * kR)))]) hx hb dL_law_1593 hl (by decide) rfl (fun ls hl => ?_)
    refine lv_aload_n hx hb dL_law_1595 rfl (lv_at hl 3 rfl) ?_
    refine lv_aload_n hx hb dL_law_1596 rfl (lv_at hl 1 rfl) ?_
    refine lv_iload hx hb dL_law_1597 (lv_at hl 5 rfl) ?_
    refine lv_iconst (v := 1) hx hb dL_law_1599 (by decide) ?_
    refine lv_iadd hx hb dL_law_1600 ?_
    refine z_sld hx hb hX hbl hbA hS hL ((5 * kR) + 1) (z_iadd rfl (by decide)) (by omega) dL_law_1601 ?_
    refine z_ciR (pre := ((wOr cI cJ cZ a px py td) ++ ((wFi cI cJ cZ a ld sl bd pw dt st uc sv tl so lm n nd) ++ ((wSa cI cJ cZ a ss rg hw ax fu si au ns) ++ ((wJo cI cJ cZ a jk jd js jt jn) ++ ((wEx cI cJ cZ a ef es el ev et eo) ++ (wOu cI cJ cZ a ou))))))) (wc := (wMo cI cJ cZ a th td nd n ld sl bd pw dt st uc sv tl so ag ns ss rg hw ax fu si au px pg py)) (w1 := (wMo cI cJ cZ a (nI (E_one (xs ((5 * kR) + 1)) n)) td nd n ld sl bd pw dt st uc sv tl so ag ns ss rg hw ax fu si au px pg py)) (va_runV (As := [.int (xs ((5 * kR) + 1))]) (rest := []) ⟨hx, hb, hml, hown, hts⟩ (c_X5_needs l D cI cJ cZ a H.size th td nd n ld sl bd pw dt st uc sv tl so ag ns ss rg hw ax fu si au px pg py (xs ((5 * kR) + 1)) hn) (cwV 1 hts gL_law_X5_needs rfl rfl rfl (by decide +kernel) ⟨Nat.le_of_ble_eq_true rfl, Nat.le_of_ble_eq_true rfl⟩) (z_pv hK (zP_R hP) (zD_R hD) (q0 := 0) (ci := 5) rfl rfl zT_b zT_m) rfl rfl hl.1 rfl (lv_room (Nat.le_of_ble_eq_true rfl)) dL_law_1602 ⟨hcr, hsr⟩) hP hD hS hA (adrM.trans adrM.symm) (fun r_ H locs hr_ hP hS => ?_)
    have heq : E_one (xs ((5 * kR) + 1)) n = E_one (xs ((5 * kR) + 1)) n := rfl
    have hE1 : ¬ E_one (xs ((5 * kR) + 1)) n = 0 := fun h => hE0 (heq.symm.trans h)
    have hP : va_P D vwCl (((wOr cI cJ cZ a px py td) ++ ((wFi cI cJ cZ a ld sl bd pw dt st uc sv tl so lm n nd) ++ ((wSa cI cJ cZ a ss rg hw ax fu si au ns) ++ ((wJo cI cJ cZ a jk jd js jt jn) ++ ((wEx cI cJ cZ a ef es el ev et eo) ++ (wOu cI cJ cZ a ou)))))) ++ (wMo cI cJ cZ a (nI (E_one (xs ((5 * kR) + 1)) n)) td nd n ld sl bd pw dt st uc sv tl so ag ns ss rg hw ax fu si au px pg py)) H := hP
    have hD : va_D A (((wOr cI cJ cZ a px py td) ++ ((wFi cI cJ cZ a ld sl bd pw dt st uc sv tl so lm n nd) ++ ((wSa cI cJ cZ a ss rg hw ax fu si au ns) ++ ((wJo cI cJ cZ a jk jd js jt jn) ++ ((wEx cI cJ cZ a ef es el ev et eo) ++ (wOu cI cJ cZ a ou)))))) ++ (wMo cI cJ cZ a (nI (E_one (xs ((5 * kR) + 1)) n)) td nd n ld sl bd pw dt st uc sv tl so ag ns ss rg hw ax fu si au px pg py)) := zD_law hD
    obtain rfl : r_ = 0 := hr_.trans (F_sel_no hE1 _ _)
    refine lv_istore (lv' := [(6, .int 0), (5, .int (nI (E_one (xs ((5 * kR) + 1)) n))), (0, .ref b), (1, .ref (a 0)), (2, .ref (a 30)), (3, .ref (a 60)), (4, .int (nI (5 * kR)))]) hx hb dL_law_1605 hl (by decide) rfl (fun ls hl => ?_)
    refine lv_aload_n hx hb dL_law_1607 rfl (lv_at hl 4 rfl) ?_
    refine z_ri (va_runV (As := []) (rest := []) ⟨hx, hb, hml, hown, hts⟩ (c_X5_thrown l D cI cJ cZ a H.size (nI (E_one (xs ((5 * kR) + 1)) n)) td nd n ld sl bd pw dt st uc sv tl so ag ns ss rg hw ax fu si au px pg py) (cwV 0 hts gL_law_X5_thrown rfl rfl rfl (by decide +kernel) ⟨Nat.le_of_ble_eq_true rfl, Nat.le_of_ble_eq_true rfl⟩) (z_pv hK (zP_R hP) (zD_R hD) (q0 := 0) (ci := 5) rfl rfl zT_b zT_m) rfl rfl hl.1 rfl (lv_room (Nat.le_of_ble_eq_true rfl)) dL_law_1608 ⟨hcr, hsr⟩) hP hS hA (fun r_ _ H locs hr_ hP hS => ?_)
    subst hr_
    refine lv_iload hx hb dL_law_1611 (lv_at hl 1 rfl) ?_
    refine lv_icmp_eq (tgt := 1618) hx hb dL_law_1613 (by decide) (fun _ => ?_) (fun c9 => absurd rfl c9)
    refine lv_iload hx hb dL_law_1618 (lv_at hl 1 rfl) ?_
    refine lv_if_ne (tgt := 1635) hx hb dL_law_1620 (by decide) (fun _ => ?_) (fun c9 => absurd c9 hnz)
    refine lv_goto (tgt := 1941) hx hb dL_law_1635 (by decide) ?_
    exact kk H locs ls ⟨px, py, td, ld, sl, bd, pw, dt, st, uc, sv, tl, so, lm, n, nd, ss, rg, hw, ax, fu, si, au, ns, jk, jd, js, jt, jn, ef, es, el, ev, et, eo, nI (E_one (xs ((5 * kR) + 1)) n), pg, ag, ou, hR.mono, hP, hD⟩ hS (lv_sub hl [2, 3, 4, 5, 6] rfl)
set_option maxHeartbeats 8000000 in
set_option maxRecDepth 100000 in
theorem law_bears (p : Program) (l : Launch) (e : Env) (s : State) (m : MethodId) (below : List Frame) (meth : Method) (c : Code) (b L : Nat) (xs : Nat → Int32) (D : va_G) (cI cJ cZ : ClassId) (a : Nat → Nat) (A : Nat → Prop) (kR : Nat) (H : Heap) (locs : List Loc) (cells slots : Nat) (Q : State → Prop) (ls : Array Slot) (hZ : ZLw D cI cJ cZ a A kR H) : ZGo p l e s m below meth c b L xs D cI cJ cZ a A kR H locs cells slots Q ls 1638 := by
  intro hx hb hml hown hts hX hbl hbA hA hK hE hflg hkL hL hk hS hl hcr hsr kk
  obtain ⟨px, py, td, ld, sl, bd, pw, dt, st, uc, sv, tl, so, lm, n, nd, ss, rg, hw, ax, fu, si, au, ns, jk, jd, js, jt, jn, ef, es, el, ev, et, eo, th, pg, ag, ou, hR, hP, hD⟩ := hZ
  obtain ⟨t, ht, ht5, hjk, hF9, hL9, hS9, hJ9⟩ := id hR
  have hn : n ≤ 40 := hF9.1
  have hs : ns ≤ 16 := hS9.1
  have hj : jn < 512 := Nat.lt_of_le_of_lt hjk hk
  have hax := R_hax hS9
  have hmy := R_hmy hS9
  have hkk := hJ9.1
  refine lv_aload_n hx hb dL_law_1638 rfl (lv_at hl 1 rfl) ?_
  refine lv_aload_n hx hb dL_law_1639 rfl (lv_at hl 0 rfl) ?_
  refine lv_iload hx hb dL_law_1640 (lv_at hl 4 rfl) ?_
  refine lv_iconst (v := 1) hx hb dL_law_1642 (by decide) ?_
  refine lv_iadd hx hb dL_law_1643 ?_
  refine z_sld hx hb hX hbl hbA hS hL ((5 * kR) + 1) (z_iadd rfl (by decide)) (by omega) dL_law_1644 ?_
  refine lv_aload_n hx hb dL_law_1645 rfl (lv_at hl 3 rfl) ?_
  by_cases hE0 : E_one (xs ((5 * kR) + 1)) n = 0
  · refine z_ciL (suf := (wMo cI cJ cZ a th td nd n ld sl bd pw dt st uc sv tl so ag ns ss rg hw ax fu si au px pg py)) (wc := ((wOr cI cJ cZ a px py td) ++ ((wFi cI cJ cZ a ld sl bd pw dt st uc sv tl so lm n nd) ++ ((wSa cI cJ cZ a ss rg hw ax fu si au ns) ++ ((wJo cI cJ cZ a jk jd js jt jn) ++ ((wEx cI cJ cZ a ef es el ev et eo) ++ (wOu cI cJ cZ a ou))))))) (w1 := ((wOr cI cJ cZ a px py td) ++ ((wFi cI cJ cZ a ld sl bd pw dt st uc sv tl so lm n nd) ++ ((wSa cI cJ cZ a ss rg hw ax fu si au ns) ++ ((wJo cI cJ cZ a jk jd js jt jn) ++ ((wEx cI cJ cZ a ef es el ev et eo) ++ (wOu cI cJ cZ a (F_sel (E_one (xs ((5 * kR) + 1)) n) (vp_updL ou 0 ((F_borne bd st sl pw dt (ix (xs ((5 * kR) + 1))) n).toInt64)) ou)))))))) (vx_runSW (As := [.ref (a 0), .int (xs ((5 * kR) + 1)), .ref (a 60)]) (rest := []) ⟨hx, hb, hml, hown, hts⟩ (c_L_bears l hflg D cI cJ cZ a H.size px py td ld sl bd pw dt st uc sv tl so lm n nd ss rg hw ax fu si au ns jk jd js jt jn ef es el ev et eo ou (xs ((5 * kR) + 1)) hn) (vx_cwSW 3 hts gL_law_L_bears rfl rfl rfl (by decide +kernel) ⟨Nat.le_of_ble_eq_true rfl, Nat.le_of_ble_eq_true rfl⟩) (z_ps hK (zP_L hP) (zD_L hD) ZX_b (ZX_m hE hS (zF_L hD hS hA))) rfl rfl hl.1 rfl (lv_room (Nat.le_of_ble_eq_true rfl)) dL_law_1646 ⟨hcr, hsr⟩) hP hD hS hA (adrC.trans adrC.symm) (fun r_ H locs hr_ hP hS => ?_)
    have hP : va_P D vwCl (((wOr cI cJ cZ a px py td) ++ ((wFi cI cJ cZ a ld sl bd pw dt st uc sv tl so lm n nd) ++ ((wSa cI cJ cZ a ss rg hw ax fu si au ns) ++ ((wJo cI cJ cZ a jk jd js jt jn) ++ ((wEx cI cJ cZ a ef es el ev et eo) ++ (wOu cI cJ cZ a (vp_updL ou 0 ((F_borne bd st sl pw dt (ix (xs ((5 * kR) + 1))) n).toInt64)))))))) ++ (wMo cI cJ cZ a th td nd n ld sl bd pw dt st uc sv tl so ag ns ss rg hw ax fu si au px pg py)) H := by have h9 := hP; simp only [F_sel_yes hE0] at h9; exact h9
    have hD : va_D A (((wOr cI cJ cZ a px py td) ++ ((wFi cI cJ cZ a ld sl bd pw dt st uc sv tl so lm n nd) ++ ((wSa cI cJ cZ a ss rg hw ax fu si au ns) ++ ((wJo cI cJ cZ a jk jd js jt jn) ++ ((wEx cI cJ cZ a ef es el ev et eo) ++ (wOu cI cJ cZ a (vp_updL ou 0 ((F_borne bd st sl pw dt (ix (xs ((5 * kR) + 1))) n).toInt64)))))))) ++ (wMo cI cJ cZ a th td nd n ld sl bd pw dt st uc sv tl so ag ns ss rg hw ax fu si au px pg py)) := zD_law hD
    obtain rfl : r_ = 0 := hr_.trans (by rw [hE0]; decide)
    have hp9 := (p_bears kR t px py td ld sl bd pw dt st uc sv tl so lm n nd ss rg hw ax fu si au ns jk jd js jt jn ef es el ev et eo ag pg (xs ((5 * kR) + 1)) hR ht hk hE0)
    refine lv_istore (lv' := [(5, .int 0), (0, .ref b), (1, .ref (a 0)), (2, .ref (a 30)), (3, .ref (a 60)), (4, .int (nI (5 * kR)))]) hx hb dL_law_1649 hl (by decide) rfl (fun ls hl => ?_)
    refine lv_aload_n hx hb dL_law_1651 rfl (lv_at hl 3 rfl) ?_
    refine lv_aload_n hx hb dL_law_1652 rfl (lv_at hl 1 rfl) ?_
    refine lv_iload hx hb dL_law_1653 (lv_at hl 5 rfl) ?_
    refine lv_iconst (v := 1) hx hb dL_law_1655 (by decide) ?_
    refine lv_iadd hx hb dL_law_1656 ?_
    refine z_sld hx hb hX hbl hbA hS hL ((5 * kR) + 1) (z_iadd rfl (by decide)) (by omega) dL_law_1657 ?_
    refine z_ciR (pre := ((wOr cI cJ cZ a px py td) ++ ((wFi cI cJ cZ a ld sl bd pw dt st uc sv tl so lm n nd) ++ ((wSa cI cJ cZ a ss rg hw ax fu si au ns) ++ ((wJo cI cJ cZ a jk jd js jt jn) ++ ((wEx cI cJ cZ a ef es el ev et eo) ++ (wOu cI cJ cZ a (vp_updL ou 0 ((F_borne bd st sl pw dt (ix (xs ((5 * kR) + 1))) n).toInt64))))))))) (wc := (wMo cI cJ cZ a th td nd n ld sl bd pw dt st uc sv tl so ag ns ss rg hw ax fu si au px pg py)) (w1 := (wMo cI cJ cZ a (nI (E_one (xs ((5 * kR) + 1)) n)) td nd n ld sl bd pw dt st uc sv tl so ag ns ss rg hw ax fu si au px pg py)) (va_runV (As := [.int (xs ((5 * kR) + 1))]) (rest := []) ⟨hx, hb, hml, hown, hts⟩ (c_X5_bears l D cI cJ cZ a H.size th td nd n ld sl bd pw dt st uc sv tl so ag ns ss rg hw ax fu si au px pg py (xs ((5 * kR) + 1)) hn) (cwV 1 hts gL_law_X5_bears rfl rfl rfl (by decide +kernel) ⟨Nat.le_of_ble_eq_true rfl, Nat.le_of_ble_eq_true rfl⟩) (z_pv hK (zP_R hP) (zD_R hD) (q0 := 0) (ci := 5) rfl rfl zT_b zT_m) rfl rfl hl.1 rfl (lv_room (Nat.le_of_ble_eq_true rfl)) dL_law_1658 ⟨hcr, hsr⟩) hP hD hS hA (adrM.trans adrM.symm) (fun r_ H locs hr_ hP hS => ?_)
    have heq : E_one (xs ((5 * kR) + 1)) n = E_one (xs ((5 * kR) + 1)) n := rfl
    have hE1 : E_one (xs ((5 * kR) + 1)) n = 0 := heq.trans hE0
    have hth : nI (E_one (xs ((5 * kR) + 1)) n) = 0 := by rw [hE1]; decide
    have hP : va_P D vwCl (((wOr cI cJ cZ a px py td) ++ ((wFi cI cJ cZ a ld sl bd pw dt st uc sv tl so lm n nd) ++ ((wSa cI cJ cZ a ss rg hw ax fu si au ns) ++ ((wJo cI cJ cZ a jk jd js jt jn) ++ ((wEx cI cJ cZ a ef es el ev et eo) ++ (wOu cI cJ cZ a (vp_updL ou 0 ((F_borne bd st sl pw dt (ix (xs ((5 * kR) + 1))) n).toInt64)))))))) ++ (wMo cI cJ cZ a 0 td nd n ld sl bd pw dt st uc sv tl so ag ns ss rg hw ax fu si au px pg py)) H := by have h9 := hP; simp only [hth, F_sel_yes hE1] at h9; exact h9
    have hD : va_D A (((wOr cI cJ cZ a px py td) ++ ((wFi cI cJ cZ a ld sl bd pw dt st uc sv tl so lm n nd) ++ ((wSa cI cJ cZ a ss rg hw ax fu si au ns) ++ ((wJo cI cJ cZ a jk jd js jt jn) ++ ((wEx cI cJ cZ a ef es el ev et eo) ++ (wOu cI cJ cZ a (vp_updL ou 0 ((F_borne bd st sl pw dt (ix (xs ((5 * kR) + 1))) n).toInt64)))))))) ++ (wMo cI cJ cZ a 0 td nd n ld sl bd pw dt st uc sv tl so ag ns ss rg hw ax fu si au px pg py)) := zD_law hD
    obtain rfl : r_ = G_bears bd st sl pw dt (ix (xs ((5 * kR) + 1))) n := hr_.trans (F_sel_yes hE1 _ _)
    refine lv_istore (lv' := [(6, .int (G_bears bd st sl pw dt (ix (xs ((5 * kR) + 1))) n)), (5, .int 0), (0, .ref b), (1, .ref (a 0)), (2, .ref (a 30)), (3, .ref (a 60)), (4, .int (nI (5 * kR)))]) hx hb dL_law_1661 hl (by decide) rfl (fun ls hl => ?_)
    refine lv_aload_n hx hb dL_law_1663 rfl (lv_at hl 4 rfl) ?_
    refine z_ri (va_runV (As := []) (rest := []) ⟨hx, hb, hml, hown, hts⟩ (c_X5_thrown l D cI cJ cZ a H.size 0 td nd n ld sl bd pw dt st uc sv tl so ag ns ss rg hw ax fu si au px pg py) (cwV 0 hts gL_law_X5_thrown rfl rfl rfl (by decide +kernel) ⟨Nat.le_of_ble_eq_true rfl, Nat.le_of_ble_eq_true rfl⟩) (z_pv hK (zP_R hP) (zD_R hD) (q0 := 0) (ci := 5) rfl rfl zT_b zT_m) rfl rfl hl.1 rfl (lv_room (Nat.le_of_ble_eq_true rfl)) dL_law_1664 ⟨hcr, hsr⟩) hP hS hA (fun r_ _ H locs hr_ hP hS => ?_)
    subst hr_
    refine lv_iload hx hb dL_law_1667 (lv_at hl 1 rfl) ?_
    refine lv_icmp_eq (tgt := 1674) hx hb dL_law_1669 (by decide) (fun _ => ?_) (fun c9 => absurd (by decide) c9)
    refine lv_iload hx hb dL_law_1674 (lv_at hl 1 rfl) ?_
    refine lv_if_ne (tgt := 1691) hx hb dL_law_1676 (by decide) (fun c9 => absurd (by decide) c9) (fun _ => ?_)
    refine lv_aload_n hx hb dL_law_1679 rfl (lv_at hl 5 rfl) ?_
    refine lv_iconst (v := 0) hx hb dL_law_1680 (by decide) ?_
    refine z_lald hx hb hK hP 29 1 rfl rfl 0 (by decide) (by decide) rfl dL_law_1681 ?_
    refine lv_iload hx hb dL_law_1682 (lv_at hl 0 rfl) ?_
    refine lv_i2l (v := (G_bears bd st sl pw dt (ix (xs ((5 * kR) + 1))) n).toInt64) hx hb dL_law_1684 rfl ?_
    have hc9 : lg_cmp ((vp_updL ou 0 ((F_borne bd st sl pw dt (ix (xs ((5 * kR) + 1))) n).toInt64)) 0) ((G_bears bd st sl pw dt (ix (xs ((5 * kR) + 1))) n).toInt64) = 0 := z_cmp ((vp_updL_0 _ _).trans (by rw [hp9.1]))
    refine W.lcmp hx hb dL_law_1685 ?_
    refine lv_if_eq (tgt := 1691) hx hb dL_law_1686 (by decide) (fun _ => ?_) (fun c9 => absurd hc9 c9)
    refine lv_goto (tgt := 1941) hx hb dL_law_1691 (by decide) ?_
    exact kk H locs ls ⟨px, py, td, ld, sl, bd, pw, dt, st, uc, sv, tl, so, lm, n, nd, ss, rg, hw, ax, fu, si, au, ns, jk, jd, js, jt, jn, ef, es, el, ev, et, eo, 0, pg, ag, (vp_updL ou 0 ((F_borne bd st sl pw dt (ix (xs ((5 * kR) + 1))) n).toInt64)), hp9.2, hP, hD⟩ hS (lv_sub hl [2, 3, 4, 5, 6] rfl)
  · refine z_ciL (suf := (wMo cI cJ cZ a th td nd n ld sl bd pw dt st uc sv tl so ag ns ss rg hw ax fu si au px pg py)) (wc := ((wOr cI cJ cZ a px py td) ++ ((wFi cI cJ cZ a ld sl bd pw dt st uc sv tl so lm n nd) ++ ((wSa cI cJ cZ a ss rg hw ax fu si au ns) ++ ((wJo cI cJ cZ a jk jd js jt jn) ++ ((wEx cI cJ cZ a ef es el ev et eo) ++ (wOu cI cJ cZ a ou))))))) (w1 := ((wOr cI cJ cZ a px py td) ++ ((wFi cI cJ cZ a ld sl bd pw dt st uc sv tl so lm n nd) ++ ((wSa cI cJ cZ a ss rg hw ax fu si au ns) ++ ((wJo cI cJ cZ a jk jd js jt jn) ++ ((wEx cI cJ cZ a ef es el ev et eo) ++ (wOu cI cJ cZ a (F_sel (E_one (xs ((5 * kR) + 1)) n) (vp_updL ou 0 ((F_borne bd st sl pw dt (ix (xs ((5 * kR) + 1))) n).toInt64)) ou)))))))) (vx_runSW (As := [.ref (a 0), .int (xs ((5 * kR) + 1)), .ref (a 60)]) (rest := []) ⟨hx, hb, hml, hown, hts⟩ (c_L_bears l hflg D cI cJ cZ a H.size px py td ld sl bd pw dt st uc sv tl so lm n nd ss rg hw ax fu si au ns jk jd js jt jn ef es el ev et eo ou (xs ((5 * kR) + 1)) hn) (vx_cwSW 3 hts gL_law_L_bears rfl rfl rfl (by decide +kernel) ⟨Nat.le_of_ble_eq_true rfl, Nat.le_of_ble_eq_true rfl⟩) (z_ps hK (zP_L hP) (zD_L hD) ZX_b (ZX_m hE hS (zF_L hD hS hA))) rfl rfl hl.1 rfl (lv_room (Nat.le_of_ble_eq_true rfl)) dL_law_1646 ⟨hcr, hsr⟩) hP hD hS hA (adrC.trans adrC.symm) (fun r_ H locs hr_ hP hS => ?_)
    have hP : va_P D vwCl (((wOr cI cJ cZ a px py td) ++ ((wFi cI cJ cZ a ld sl bd pw dt st uc sv tl so lm n nd) ++ ((wSa cI cJ cZ a ss rg hw ax fu si au ns) ++ ((wJo cI cJ cZ a jk jd js jt jn) ++ ((wEx cI cJ cZ a ef es el ev et eo) ++ (wOu cI cJ cZ a ou)))))) ++ (wMo cI cJ cZ a th td nd n ld sl bd pw dt st uc sv tl so ag ns ss rg hw ax fu si au px pg py)) H := by have h9 := hP; simp only [F_sel_no hE0] at h9; exact h9
    have hD : va_D A (((wOr cI cJ cZ a px py td) ++ ((wFi cI cJ cZ a ld sl bd pw dt st uc sv tl so lm n nd) ++ ((wSa cI cJ cZ a ss rg hw ax fu si au ns) ++ ((wJo cI cJ cZ a jk jd js jt jn) ++ ((wEx cI cJ cZ a ef es el ev et eo) ++ (wOu cI cJ cZ a ou)))))) ++ (wMo cI cJ cZ a th td nd n ld sl bd pw dt st uc sv tl so ag ns ss rg hw ax fu si au px pg py)) := zD_law hD
    subst hr_
    have hnz : ¬ (nI (E_one (xs ((5 * kR) + 1)) n)) = 0 := z_nz hE0 (by unfold E_one; (repeat' split); all_goals decide)
    refine lv_istore (lv' := [(5, .int (nI (E_one (xs ((5 * kR) + 1)) n))), (0, .ref b), (1, .ref (a 0)), (2, .ref (a 30)), (3, .ref (a 60)), (4, .int (nI (5 * kR)))]) hx hb dL_law_1649 hl (by decide) rfl (fun ls hl => ?_)
    refine lv_aload_n hx hb dL_law_1651 rfl (lv_at hl 3 rfl) ?_
    refine lv_aload_n hx hb dL_law_1652 rfl (lv_at hl 1 rfl) ?_
    refine lv_iload hx hb dL_law_1653 (lv_at hl 5 rfl) ?_
    refine lv_iconst (v := 1) hx hb dL_law_1655 (by decide) ?_
    refine lv_iadd hx hb dL_law_1656 ?_
    refine z_sld hx hb hX hbl hbA hS hL ((5 * kR) + 1) (z_iadd rfl (by decide)) (by omega) dL_law_1657 ?_
    refine z_ciR (pre := ((wOr cI cJ cZ a px py td) ++ ((wFi cI cJ cZ a ld sl bd pw dt st uc sv tl so lm n nd) ++ ((wSa cI cJ cZ a ss rg hw ax fu si au ns) ++ ((wJo cI cJ cZ a jk jd js jt jn) ++ ((wEx cI cJ cZ a ef es el ev et eo) ++ (wOu cI cJ cZ a ou))))))) (wc := (wMo cI cJ cZ a th td nd n ld sl bd pw dt st uc sv tl so ag ns ss rg hw ax fu si au px pg py)) (w1 := (wMo cI cJ cZ a (nI (E_one (xs ((5 * kR) + 1)) n)) td nd n ld sl bd pw dt st uc sv tl so ag ns ss rg hw ax fu si au px pg py)) (va_runV (As := [.int (xs ((5 * kR) + 1))]) (rest := []) ⟨hx, hb, hml, hown, hts⟩ (c_X5_bears l D cI cJ cZ a H.size th td nd n ld sl bd pw dt st uc sv tl so ag ns ss rg hw ax fu si au px pg py (xs ((5 * kR) + 1)) hn) (cwV 1 hts gL_law_X5_bears rfl rfl rfl (by decide +kernel) ⟨Nat.le_of_ble_eq_true rfl, Nat.le_of_ble_eq_true rfl⟩) (z_pv hK (zP_R hP) (zD_R hD) (q0 := 0) (ci := 5) rfl rfl zT_b zT_m) rfl rfl hl.1 rfl (lv_room (Nat.le_of_ble_eq_true rfl)) dL_law_1658 ⟨hcr, hsr⟩) hP hD hS hA (adrM.trans adrM.symm) (fun r_ H locs hr_ hP hS => ?_)
    have heq : E_one (xs ((5 * kR) + 1)) n = E_one (xs ((5 * kR) + 1)) n := rfl
    have hE1 : ¬ E_one (xs ((5 * kR) + 1)) n = 0 := fun h => hE0 (heq.symm.trans h)
    have hP : va_P D vwCl (((wOr cI cJ cZ a px py td) ++ ((wFi cI cJ cZ a ld sl bd pw dt st uc sv tl so lm n nd) ++ ((wSa cI cJ cZ a ss rg hw ax fu si au ns) ++ ((wJo cI cJ cZ a jk jd js jt jn) ++ ((wEx cI cJ cZ a ef es el ev et eo) ++ (wOu cI cJ cZ a ou)))))) ++ (wMo cI cJ cZ a (nI (E_one (xs ((5 * kR) + 1)) n)) td nd n ld sl bd pw dt st uc sv tl so ag ns ss rg hw ax fu si au px pg py)) H := hP
    have hD : va_D A (((wOr cI cJ cZ a px py td) ++ ((wFi cI cJ cZ a ld sl bd pw dt st uc sv tl so lm n nd) ++ ((wSa cI cJ cZ a ss rg hw ax fu si au ns) ++ ((wJo cI cJ cZ a jk jd js jt jn) ++ ((wEx cI cJ cZ a ef es el ev et eo) ++ (wOu cI cJ cZ a ou)))))) ++ (wMo cI cJ cZ a (nI (E_one (xs ((5 * kR) + 1)) n)) td nd n ld sl bd pw dt st uc sv tl so ag ns ss rg hw ax fu si au px pg py)) := zD_law hD
    obtain rfl : r_ = 0 := hr_.trans (F_sel_no hE1 _ _)
    refine lv_istore (lv' := [(6, .int 0), (5, .int (nI (E_one (xs ((5 * kR) + 1)) n))), (0, .ref b), (1, .ref (a 0)), (2, .ref (a 30)), (3, .ref (a 60)), (4, .int (nI (5 * kR)))]) hx hb dL_law_1661 hl (by decide) rfl (fun ls hl => ?_)
    refine lv_aload_n hx hb dL_law_1663 rfl (lv_at hl 4 rfl) ?_
    refine z_ri (va_runV (As := []) (rest := []) ⟨hx, hb, hml, hown, hts⟩ (c_X5_thrown l D cI cJ cZ a H.size (nI (E_one (xs ((5 * kR) + 1)) n)) td nd n ld sl bd pw dt st uc sv tl so ag ns ss rg hw ax fu si au px pg py) (cwV 0 hts gL_law_X5_thrown rfl rfl rfl (by decide +kernel) ⟨Nat.le_of_ble_eq_true rfl, Nat.le_of_ble_eq_true rfl⟩) (z_pv hK (zP_R hP) (zD_R hD) (q0 := 0) (ci := 5) rfl rfl zT_b zT_m) rfl rfl hl.1 rfl (lv_room (Nat.le_of_ble_eq_true rfl)) dL_law_1664 ⟨hcr, hsr⟩) hP hS hA (fun r_ _ H locs hr_ hP hS => ?_)
    subst hr_
    refine lv_iload hx hb dL_law_1667 (lv_at hl 1 rfl) ?_
    refine lv_icmp_eq (tgt := 1674) hx hb dL_law_1669 (by decide) (fun _ => ?_) (fun c9 => absurd rfl c9)
    refine lv_iload hx hb dL_law_1674 (lv_at hl 1 rfl) ?_
    refine lv_if_ne (tgt := 1691) hx hb dL_law_1676 (by decide) (fun _ => ?_) (fun c9 => absurd c9 hnz)
    refine lv_goto (tgt := 1941) hx hb dL_law_1691 (by decide) ?_
    exact kk H locs ls ⟨px, py, td, ld, sl, bd, pw, dt, st, uc, sv, tl, so, lm, n, nd, ss, rg, hw, ax, fu, si, au, ns, jk, jd, js, jt, jn, ef, es, el, ev, et, eo, nI (E_one (xs ((5 * kR) + 1)) n), pg, ag, ou, hR.mono, hP, hD⟩ hS (lv_sub hl [2, 3, 4, 5, 6] rfl)
set_option maxHeartbeats 8000000 in
set_option maxRecDepth 100000 in
theorem law_first (p : Program) (l : Launch) (e : Env) (s : State) (m : MethodId) (below : List Frame) (meth : Method) (c : Code) (b L : Nat) (xs : Nat → Int32) (D : va_G) (cI cJ cZ : ClassId) (a : Nat → Nat) (A : Nat → Prop) (kR : Nat) (H : Heap) (locs : List Loc) (cells slots : Nat) (Q : State → Prop) (ls : Array Slot) (hZ : ZLw D cI cJ cZ a A kR H) : ZGo p l e s m below meth c b L xs D cI cJ cZ a A kR H locs cells slots Q ls 1694 := by
  intro hx hb hml hown hts hX hbl hbA hA hK hE hflg hkL hL hk hS hl hcr hsr kk
  obtain ⟨px, py, td, ld, sl, bd, pw, dt, st, uc, sv, tl, so, lm, n, nd, ss, rg, hw, ax, fu, si, au, ns, jk, jd, js, jt, jn, ef, es, el, ev, et, eo, th, pg, ag, ou, hR, hP, hD⟩ := hZ
  obtain ⟨t, ht, ht5, hjk, hF9, hL9, hS9, hJ9⟩ := id hR
  have hn : n ≤ 40 := hF9.1
  have hs : ns ≤ 16 := hS9.1
  have hj : jn < 512 := Nat.lt_of_le_of_lt hjk hk
  have hax := R_hax hS9
  have hmy := R_hmy hS9
  have hkk := hJ9.1
  refine lv_aload_n hx hb dL_law_1694 rfl (lv_at hl 1 rfl) ?_
  refine lv_aload_n hx hb dL_law_1695 rfl (lv_at hl 0 rfl) ?_
  refine lv_iload hx hb dL_law_1696 (lv_at hl 4 rfl) ?_
  refine lv_iconst (v := 1) hx hb dL_law_1698 (by decide) ?_
  refine lv_iadd hx hb dL_law_1699 ?_
  refine z_sld hx hb hX hbl hbA hS hL ((5 * kR) + 1) (z_iadd rfl (by decide)) (by omega) dL_law_1700 ?_
  refine lv_aload_n hx hb dL_law_1701 rfl (lv_at hl 0 rfl) ?_
  refine lv_iload hx hb dL_law_1702 (lv_at hl 4 rfl) ?_
  refine lv_iconst (v := 2) hx hb dL_law_1704 (by decide) ?_
  refine lv_iadd hx hb dL_law_1705 ?_
  refine z_sld hx hb hX hbl hbA hS hL ((5 * kR) + 2) (z_iadd rfl (by decide)) (by omega) dL_law_1706 ?_
  refine lv_aload_n hx hb dL_law_1707 rfl (lv_at hl 3 rfl) ?_
  by_cases hE0 : E_first (xs ((5 * kR) + 1)) (xs ((5 * kR) + 2)) = 0
  · refine z_ciL (suf := (wMo cI cJ cZ a th td nd n ld sl bd pw dt st uc sv tl so ag ns ss rg hw ax fu si au px pg py)) (wc := ((wOr cI cJ cZ a px py td) ++ ((wFi cI cJ cZ a ld sl bd pw dt st uc sv tl so lm n nd) ++ ((wSa cI cJ cZ a ss rg hw ax fu si au ns) ++ ((wJo cI cJ cZ a jk jd js jt jn) ++ ((wEx cI cJ cZ a ef es el ev et eo) ++ (wOu cI cJ cZ a ou))))))) (w1 := ((wOr cI cJ cZ a px py td) ++ ((wFi cI cJ cZ a ld sl bd pw dt st uc sv tl so lm n nd) ++ ((wSa cI cJ cZ a ss rg hw ax fu si au ns) ++ ((wJo cI cJ cZ a jk jd js jt jn) ++ ((wEx cI cJ cZ a ef es el ev et eo) ++ (wOu cI cJ cZ a (F_sel (E_first (xs ((5 * kR) + 1)) (xs ((5 * kR) + 2))) (vp_updL ou 0 ((F_fst bd st sl dt (xs ((5 * kR) + 1)) (xs ((5 * kR) + 2)) n).toInt64)) ou)))))))) (vx_runSW (As := [.ref (a 0), .int (xs ((5 * kR) + 1)), .int (xs ((5 * kR) + 2)), .ref (a 60)]) (rest := []) ⟨hx, hb, hml, hown, hts⟩ (c_L_first l hflg D cI cJ cZ a H.size px py td ld sl bd pw dt st uc sv tl so lm n nd ss rg hw ax fu si au ns jk jd js jt jn ef es el ev et eo ou (xs ((5 * kR) + 1)) (xs ((5 * kR) + 2)) hn) (vx_cwSW 4 hts gL_law_L_first rfl rfl rfl (by decide +kernel) ⟨Nat.le_of_ble_eq_true rfl, Nat.le_of_ble_eq_true rfl⟩) (z_ps hK (zP_L hP) (zD_L hD) ZX_b (ZX_m hE hS (zF_L hD hS hA))) rfl rfl hl.1 rfl (lv_room (Nat.le_of_ble_eq_true rfl)) dL_law_1708 ⟨hcr, hsr⟩) hP hD hS hA (adrC.trans adrC.symm) (fun r_ H locs hr_ hP hS => ?_)
    have hP : va_P D vwCl (((wOr cI cJ cZ a px py td) ++ ((wFi cI cJ cZ a ld sl bd pw dt st uc sv tl so lm n nd) ++ ((wSa cI cJ cZ a ss rg hw ax fu si au ns) ++ ((wJo cI cJ cZ a jk jd js jt jn) ++ ((wEx cI cJ cZ a ef es el ev et eo) ++ (wOu cI cJ cZ a (vp_updL ou 0 ((F_fst bd st sl dt (xs ((5 * kR) + 1)) (xs ((5 * kR) + 2)) n).toInt64)))))))) ++ (wMo cI cJ cZ a th td nd n ld sl bd pw dt st uc sv tl so ag ns ss rg hw ax fu si au px pg py)) H := by have h9 := hP; simp only [F_sel_yes hE0] at h9; exact h9
    have hD : va_D A (((wOr cI cJ cZ a px py td) ++ ((wFi cI cJ cZ a ld sl bd pw dt st uc sv tl so lm n nd) ++ ((wSa cI cJ cZ a ss rg hw ax fu si au ns) ++ ((wJo cI cJ cZ a jk jd js jt jn) ++ ((wEx cI cJ cZ a ef es el ev et eo) ++ (wOu cI cJ cZ a (vp_updL ou 0 ((F_fst bd st sl dt (xs ((5 * kR) + 1)) (xs ((5 * kR) + 2)) n).toInt64)))))))) ++ (wMo cI cJ cZ a th td nd n ld sl bd pw dt st uc sv tl so ag ns ss rg hw ax fu si au px pg py)) := zD_law hD
    obtain rfl : r_ = 0 := hr_.trans (by rw [hE0]; decide)
    have hp9 := (p_first kR t px py td ld sl bd pw dt st uc sv tl so lm n nd ss rg hw ax fu si au ns jk jd js jt jn ef es el ev et eo ag pg (xs ((5 * kR) + 1)) (xs ((5 * kR) + 2)) hR ht hk hE0)
    refine lv_istore (lv' := [(5, .int 0), (0, .ref b), (1, .ref (a 0)), (2, .ref (a 30)), (3, .ref (a 60)), (4, .int (nI (5 * kR)))]) hx hb dL_law_1711 hl (by decide) rfl (fun ls hl => ?_)
    refine lv_aload_n hx hb dL_law_1713 rfl (lv_at hl 3 rfl) ?_
    refine lv_aload_n hx hb dL_law_1714 rfl (lv_at hl 1 rfl) ?_
    refine lv_iload hx hb dL_law_1715 (lv_at hl 5 rfl) ?_
    refine lv_iconst (v := 1) hx hb dL_law_1717 (by decide) ?_
    refine lv_iadd hx hb dL_law_1718 ?_
    refine z_sld hx hb hX hbl hbA hS hL ((5 * kR) + 1) (z_iadd rfl (by decide)) (by omega) dL_law_1719 ?_
    refine lv_aload_n hx hb dL_law_1720 rfl (lv_at hl 1 rfl) ?_
    refine lv_iload hx hb dL_law_1721 (lv_at hl 5 rfl) ?_
    refine lv_iconst (v := 2) hx hb dL_law_1723 (by decide) ?_
    refine lv_iadd hx hb dL_law_1724 ?_
    refine z_sld hx hb hX hbl hbA hS hL ((5 * kR) + 2) (z_iadd rfl (by decide)) (by omega) dL_law_1725 ?_
    refine z_ciR (pre := ((wOr cI cJ cZ a px py td) ++ ((wFi cI cJ cZ a ld sl bd pw dt st uc sv tl so lm n nd) ++ ((wSa cI cJ cZ a ss rg hw ax fu si au ns) ++ ((wJo cI cJ cZ a jk jd js jt jn) ++ ((wEx cI cJ cZ a ef es el ev et eo) ++ (wOu cI cJ cZ a (vp_updL ou 0 ((F_fst bd st sl dt (xs ((5 * kR) + 1)) (xs ((5 * kR) + 2)) n).toInt64))))))))) (wc := (wMo cI cJ cZ a th td nd n ld sl bd pw dt st uc sv tl so ag ns ss rg hw ax fu si au px pg py)) (w1 := (wMo cI cJ cZ a (nI (E_first (xs ((5 * kR) + 1)) (xs ((5 * kR) + 2)))) td nd n ld sl bd pw dt st uc sv tl so ag ns ss rg hw ax fu si au px pg py)) (va_runV (As := [.int (xs ((5 * kR) + 1)), .int (xs ((5 * kR) + 2))]) (rest := []) ⟨hx, hb, hml, hown, hts⟩ (c_X5_first l D cI cJ cZ a H.size th td nd n ld sl bd pw dt st uc sv tl so ag ns ss rg hw ax fu si au px pg py (xs ((5 * kR) + 1)) (xs ((5 * kR) + 2)) hn) (cwV 2 hts gL_law_X5_first rfl rfl rfl (by decide +kernel) ⟨Nat.le_of_ble_eq_true rfl, Nat.le_of_ble_eq_true rfl⟩) (z_pv hK (zP_R hP) (zD_R hD) (q0 := 0) (ci := 5) rfl rfl zT_b zT_m) rfl rfl hl.1 rfl (lv_room (Nat.le_of_ble_eq_true rfl)) dL_law_1726 ⟨hcr, hsr⟩) hP hD hS hA (adrM.trans adrM.symm) (fun r_ H locs hr_ hP hS => ?_)
    have heq : E_first (xs ((5 * kR) + 1)) (xs ((5 * kR) + 2)) = E_first (xs ((5 * kR) + 1)) (xs ((5 * kR) + 2)) := rfl
    have hE1 : E_first (xs ((5 * kR) + 1)) (xs ((5 * kR) + 2)) = 0 := heq.trans hE0
    have hth : nI (E_first (xs ((5 * kR) + 1)) (xs ((5 * kR) + 2))) = 0 := by rw [hE1]; decide
    have hP : va_P D vwCl (((wOr cI cJ cZ a px py td) ++ ((wFi cI cJ cZ a ld sl bd pw dt st uc sv tl so lm n nd) ++ ((wSa cI cJ cZ a ss rg hw ax fu si au ns) ++ ((wJo cI cJ cZ a jk jd js jt jn) ++ ((wEx cI cJ cZ a ef es el ev et eo) ++ (wOu cI cJ cZ a (vp_updL ou 0 ((F_fst bd st sl dt (xs ((5 * kR) + 1)) (xs ((5 * kR) + 2)) n).toInt64)))))))) ++ (wMo cI cJ cZ a 0 td nd n ld sl bd pw dt st uc sv tl so ag ns ss rg hw ax fu si au px pg py)) H := by have h9 := hP; simp only [hth, F_sel_yes hE1] at h9; exact h9
    have hD : va_D A (((wOr cI cJ cZ a px py td) ++ ((wFi cI cJ cZ a ld sl bd pw dt st uc sv tl so lm n nd) ++ ((wSa cI cJ cZ a ss rg hw ax fu si au ns) ++ ((wJo cI cJ cZ a jk jd js jt jn) ++ ((wEx cI cJ cZ a ef es el ev et eo) ++ (wOu cI cJ cZ a (vp_updL ou 0 ((F_fst bd st sl dt (xs ((5 * kR) + 1)) (xs ((5 * kR) + 2)) n).toInt64)))))))) ++ (wMo cI cJ cZ a 0 td nd n ld sl bd pw dt st uc sv tl so ag ns ss rg hw ax fu si au px pg py)) := zD_law hD
    obtain rfl : r_ = G_fst bd st sl dt (xs ((5 * kR) + 1)) (xs ((5 * kR) + 2)) n := hr_.trans (F_sel_yes hE1 _ _)
    refine lv_istore (lv' := [(6, .int (G_fst bd st sl dt (xs ((5 * kR) + 1)) (xs ((5 * kR) + 2)) n)), (5, .int 0), (0, .ref b), (1, .ref (a 0)), (2, .ref (a 30)), (3, .ref (a 60)), (4, .int (nI (5 * kR)))]) hx hb dL_law_1729 hl (by decide) rfl (fun ls hl => ?_)
    refine lv_aload_n hx hb dL_law_1731 rfl (lv_at hl 4 rfl) ?_
    refine z_ri (va_runV (As := []) (rest := []) ⟨hx, hb, hml, hown, hts⟩ (c_X5_thrown l D cI cJ cZ a H.size 0 td nd n ld sl bd pw dt st uc sv tl so ag ns ss rg hw ax fu si au px pg py) (cwV 0 hts gL_law_X5_thrown rfl rfl rfl (by decide +kernel) ⟨Nat.le_of_ble_eq_true rfl, Nat.le_of_ble_eq_true rfl⟩) (z_pv hK (zP_R hP) (zD_R hD) (q0 := 0) (ci := 5) rfl rfl zT_b zT_m) rfl rfl hl.1 rfl (lv_room (Nat.le_of_ble_eq_true rfl)) dL_law_1732 ⟨hcr, hsr⟩) hP hS hA (fun r_ _ H locs hr_ hP hS => ?_)
    subst hr_
    refine lv_iload hx hb dL_law_1735 (lv_at hl 1 rfl) ?_
    refine lv_icmp_eq (tgt := 1742) hx hb dL_law_1737 (by decide) (fun _ => ?_) (fun c9 => absurd (by decide) c9)
    refine lv_iload hx hb dL_law_1742 (lv_at hl 1 rfl) ?_
    refine lv_if_ne (tgt := 1759) hx hb dL_law_1744 (by decide) (fun c9 => absurd (by decide) c9) (fun _ => ?_)
    refine lv_aload_n hx hb dL_law_1747 rfl (lv_at hl 5 rfl) ?_
    refine lv_iconst (v := 0) hx hb dL_law_1748 (by decide) ?_
    refine z_lald hx hb hK hP 29 1 rfl rfl 0 (by decide) (by decide) rfl dL_law_1749 ?_
    refine lv_iload hx hb dL_law_1750 (lv_at hl 0 rfl) ?_
    refine lv_i2l (v := (G_fst bd st sl dt (xs ((5 * kR) + 1)) (xs ((5 * kR) + 2)) n).toInt64) hx hb dL_law_1752 rfl ?_
    have hc9 : lg_cmp ((vp_updL ou 0 ((F_fst bd st sl dt (xs ((5 * kR) + 1)) (xs ((5 * kR) + 2)) n).toInt64)) 0) ((G_fst bd st sl dt (xs ((5 * kR) + 1)) (xs ((5 * kR) + 2)) n).toInt64) = 0 := z_cmp ((vp_updL_0 _ _).trans (by rw [hp9.1]))
    refine W.lcmp hx hb dL_law_1753 ?_
    refine lv_if_eq (tgt := 1759) hx hb dL_law_1754 (by decide) (fun _ => ?_) (fun c9 => absurd hc9 c9)
    refine lv_goto (tgt := 1941) hx hb dL_law_1759 (by decide) ?_
    exact kk H locs ls ⟨px, py, td, ld, sl, bd, pw, dt, st, uc, sv, tl, so, lm, n, nd, ss, rg, hw, ax, fu, si, au, ns, jk, jd, js, jt, jn, ef, es, el, ev, et, eo, 0, pg, ag, (vp_updL ou 0 ((F_fst bd st sl dt (xs ((5 * kR) + 1)) (xs ((5 * kR) + 2)) n).toInt64)), hp9.2, hP, hD⟩ hS (lv_sub hl [2, 3, 4, 5, 6] rfl)
  · refine z_ciL (suf := (wMo cI cJ cZ a th td nd n ld sl bd pw dt st uc sv tl so ag ns ss rg hw ax fu si au px pg py)) (wc := ((wOr cI cJ cZ a px py td) ++ ((wFi cI cJ cZ a ld sl bd pw dt st uc sv tl so lm n nd) ++ ((wSa cI cJ cZ a ss rg hw ax fu si au ns) ++ ((wJo cI cJ cZ a jk jd js jt jn) ++ ((wEx cI cJ cZ a ef es el ev et eo) ++ (wOu cI cJ cZ a ou))))))) (w1 := ((wOr cI cJ cZ a px py td) ++ ((wFi cI cJ cZ a ld sl bd pw dt st uc sv tl so lm n nd) ++ ((wSa cI cJ cZ a ss rg hw ax fu si au ns) ++ ((wJo cI cJ cZ a jk jd js jt jn) ++ ((wEx cI cJ cZ a ef es el ev et eo) ++ (wOu cI cJ cZ a (F_sel (E_first (xs ((5 * kR) + 1)) (xs ((5 * kR) + 2))) (vp_updL ou 0 ((F_fst bd st sl dt (xs ((5 * kR) + 1)) (xs ((5 * kR) + 2)) n).toInt64)) ou)))))))) (vx_runSW (As := [.ref (a 0), .int (xs ((5 * kR) + 1)), .int (xs ((5 * kR) + 2)), .ref (a 60)]) (rest := []) ⟨hx, hb, hml, hown, hts⟩ (c_L_first l hflg D cI cJ cZ a H.size px py td ld sl bd pw dt st uc sv tl so lm n nd ss rg hw ax fu si au ns jk jd js jt jn ef es el ev et eo ou (xs ((5 * kR) + 1)) (xs ((5 * kR) + 2)) hn) (vx_cwSW 4 hts gL_law_L_first rfl rfl rfl (by decide +kernel) ⟨Nat.le_of_ble_eq_true rfl, Nat.le_of_ble_eq_true rfl⟩) (z_ps hK (zP_L hP) (zD_L hD) ZX_b (ZX_m hE hS (zF_L hD hS hA))) rfl rfl hl.1 rfl (lv_room (Nat.le_of_ble_eq_true rfl)) dL_law_1708 ⟨hcr, hsr⟩) hP hD hS hA (adrC.trans adrC.symm) (fun r_ H locs hr_ hP hS => ?_)
    have hP : va_P D vwCl (((wOr cI cJ cZ a px py td) ++ ((wFi cI cJ cZ a ld sl bd pw dt st uc sv tl so lm n nd) ++ ((wSa cI cJ cZ a ss rg hw ax fu si au ns) ++ ((wJo cI cJ cZ a jk jd js jt jn) ++ ((wEx cI cJ cZ a ef es el ev et eo) ++ (wOu cI cJ cZ a ou)))))) ++ (wMo cI cJ cZ a th td nd n ld sl bd pw dt st uc sv tl so ag ns ss rg hw ax fu si au px pg py)) H := by have h9 := hP; simp only [F_sel_no hE0] at h9; exact h9
    have hD : va_D A (((wOr cI cJ cZ a px py td) ++ ((wFi cI cJ cZ a ld sl bd pw dt st uc sv tl so lm n nd) ++ ((wSa cI cJ cZ a ss rg hw ax fu si au ns) ++ ((wJo cI cJ cZ a jk jd js jt jn) ++ ((wEx cI cJ cZ a ef es el ev et eo) ++ (wOu cI cJ cZ a ou)))))) ++ (wMo cI cJ cZ a th td nd n ld sl bd pw dt st uc sv tl so ag ns ss rg hw ax fu si au px pg py)) := zD_law hD
    subst hr_
    have hnz : ¬ (nI (E_first (xs ((5 * kR) + 1)) (xs ((5 * kR) + 2)))) = 0 := z_nz hE0 (by unfold E_first; (repeat' split); all_goals decide)
    refine lv_istore (lv' := [(5, .int (nI (E_first (xs ((5 * kR) + 1)) (xs ((5 * kR) + 2))))), (0, .ref b), (1, .ref (a 0)), (2, .ref (a 30)), (3, .ref (a 60)), (4, .int (nI (5 * kR)))]) hx hb dL_law_1711 hl (by decide) rfl (fun ls hl => ?_)
    refine lv_aload_n hx hb dL_law_1713 rfl (lv_at hl 3 rfl) ?_
    refine lv_aload_n hx hb dL_law_1714 rfl (lv_at hl 1 rfl) ?_
    refine lv_iload hx hb dL_law_1715 (lv_at hl 5 rfl) ?_
    refine lv_iconst (v := 1) hx hb dL_law_1717 (by decide) ?_
    refine lv_iadd hx hb dL_law_1718 ?_
    refine z_sld hx hb hX hbl hbA hS hL ((5 * kR) + 1) (z_iadd rfl (by decide)) (by omega) dL_law_1719 ?_
    refine lv_aload_n hx hb dL_law_1720 rfl (lv_at hl 1 rfl) ?_
    refine lv_iload hx hb dL_law_1721 (lv_at hl 5 rfl) ?_
    refine lv_iconst (v := 2) hx hb dL_law_1723 (by decide) ?_
    refine lv_iadd hx hb dL_law_1724 ?_
    refine z_sld hx hb hX hbl hbA hS hL ((5 * kR) + 2) (z_iadd rfl (by decide)) (by omega) dL_law_1725 ?_
    refine z_ciR (pre := ((wOr cI cJ cZ a px py td) ++ ((wFi cI cJ cZ a ld sl bd pw dt st uc sv tl so lm n nd) ++ ((wSa cI cJ cZ a ss rg hw ax fu si au ns) ++ ((wJo cI cJ cZ a jk jd js jt jn) ++ ((wEx cI cJ cZ a ef es el ev et eo) ++ (wOu cI cJ cZ a ou))))))) (wc := (wMo cI cJ cZ a th td nd n ld sl bd pw dt st uc sv tl so ag ns ss rg hw ax fu si au px pg py)) (w1 := (wMo cI cJ cZ a (nI (E_first (xs ((5 * kR) + 1)) (xs ((5 * kR) + 2)))) td nd n ld sl bd pw dt st uc sv tl so ag ns ss rg hw ax fu si au px pg py)) (va_runV (As := [.int (xs ((5 * kR) + 1)), .int (xs ((5 * kR) + 2))]) (rest := []) ⟨hx, hb, hml, hown, hts⟩ (c_X5_first l D cI cJ cZ a H.size th td nd n ld sl bd pw dt st uc sv tl so ag ns ss rg hw ax fu si au px pg py (xs ((5 * kR) + 1)) (xs ((5 * kR) + 2)) hn) (cwV 2 hts gL_law_X5_first rfl rfl rfl (by decide +kernel) ⟨Nat.le_of_ble_eq_true rfl, Nat.le_of_ble_eq_true rfl⟩) (z_pv hK (zP_R hP) (zD_R hD) (q0 := 0) (ci := 5) rfl rfl zT_b zT_m) rfl rfl hl.1 rfl (lv_room (Nat.le_of_ble_eq_true rfl)) dL_law_1726 ⟨hcr, hsr⟩) hP hD hS hA (adrM.trans adrM.symm) (fun r_ H locs hr_ hP hS => ?_)
    have heq : E_first (xs ((5 * kR) + 1)) (xs ((5 * kR) + 2)) = E_first (xs ((5 * kR) + 1)) (xs ((5 * kR) + 2)) := rfl
    have hE1 : ¬ E_first (xs ((5 * kR) + 1)) (xs ((5 * kR) + 2)) = 0 := fun h => hE0 (heq.symm.trans h)
    have hP : va_P D vwCl (((wOr cI cJ cZ a px py td) ++ ((wFi cI cJ cZ a ld sl bd pw dt st uc sv tl so lm n nd) ++ ((wSa cI cJ cZ a ss rg hw ax fu si au ns) ++ ((wJo cI cJ cZ a jk jd js jt jn) ++ ((wEx cI cJ cZ a ef es el ev et eo) ++ (wOu cI cJ cZ a ou)))))) ++ (wMo cI cJ cZ a (nI (E_first (xs ((5 * kR) + 1)) (xs ((5 * kR) + 2)))) td nd n ld sl bd pw dt st uc sv tl so ag ns ss rg hw ax fu si au px pg py)) H := hP
    have hD : va_D A (((wOr cI cJ cZ a px py td) ++ ((wFi cI cJ cZ a ld sl bd pw dt st uc sv tl so lm n nd) ++ ((wSa cI cJ cZ a ss rg hw ax fu si au ns) ++ ((wJo cI cJ cZ a jk jd js jt jn) ++ ((wEx cI cJ cZ a ef es el ev et eo) ++ (wOu cI cJ cZ a ou)))))) ++ (wMo cI cJ cZ a (nI (E_first (xs ((5 * kR) + 1)) (xs ((5 * kR) + 2)))) td nd n ld sl bd pw dt st uc sv tl so ag ns ss rg hw ax fu si au px pg py)) := zD_law hD
    obtain rfl : r_ = 0 := hr_.trans (F_sel_no hE1 _ _)
    refine lv_istore (lv' := [(6, .int 0), (5, .int (nI (E_first (xs ((5 * kR) + 1)) (xs ((5 * kR) + 2))))), (0, .ref b), (1, .ref (a 0)), (2, .ref (a 30)), (3, .ref (a 60)), (4, .int (nI (5 * kR)))]) hx hb dL_law_1729 hl (by decide) rfl (fun ls hl => ?_)
    refine lv_aload_n hx hb dL_law_1731 rfl (lv_at hl 4 rfl) ?_
    refine z_ri (va_runV (As := []) (rest := []) ⟨hx, hb, hml, hown, hts⟩ (c_X5_thrown l D cI cJ cZ a H.size (nI (E_first (xs ((5 * kR) + 1)) (xs ((5 * kR) + 2)))) td nd n ld sl bd pw dt st uc sv tl so ag ns ss rg hw ax fu si au px pg py) (cwV 0 hts gL_law_X5_thrown rfl rfl rfl (by decide +kernel) ⟨Nat.le_of_ble_eq_true rfl, Nat.le_of_ble_eq_true rfl⟩) (z_pv hK (zP_R hP) (zD_R hD) (q0 := 0) (ci := 5) rfl rfl zT_b zT_m) rfl rfl hl.1 rfl (lv_room (Nat.le_of_ble_eq_true rfl)) dL_law_1732 ⟨hcr, hsr⟩) hP hS hA (fun r_ _ H locs hr_ hP hS => ?_)
    subst hr_
    refine lv_iload hx hb dL_law_1735 (lv_at hl 1 rfl) ?_
    refine lv_icmp_eq (tgt := 1742) hx hb dL_law_1737 (by decide) (fun _ => ?_) (fun c9 => absurd rfl c9)
    refine lv_iload hx hb dL_law_1742 (lv_at hl 1 rfl) ?_
    refine lv_if_ne (tgt := 1759) hx hb dL_law_1744 (by decide) (fun _ => ?_) (fun c9 => absurd c9 hnz)
    refine lv_goto (tgt := 1941) hx hb dL_law_1759 (by decide) ?_
    exact kk H locs ls ⟨px, py, td, ld, sl, bd, pw, dt, st, uc, sv, tl, so, lm, n, nd, ss, rg, hw, ax, fu, si, au, ns, jk, jd, js, jt, jn, ef, es, el, ev, et, eo, nI (E_first (xs ((5 * kR) + 1)) (xs ((5 * kR) + 2))), pg, ag, ou, hR.mono, hP, hD⟩ hS (lv_sub hl [2, 3, 4, 5, 6] rfl)
set_option maxHeartbeats 8000000 in
set_option maxRecDepth 100000 in
theorem law_satelliteOf (p : Program) (l : Launch) (e : Env) (s : State) (m : MethodId) (below : List Frame) (meth : Method) (c : Code) (b L : Nat) (xs : Nat → Int32) (D : va_G) (cI cJ cZ : ClassId) (a : Nat → Nat) (A : Nat → Prop) (kR : Nat) (H : Heap) (locs : List Loc) (cells slots : Nat) (Q : State → Prop) (ls : Array Slot) (hZ : ZLw D cI cJ cZ a A kR H) : ZGo p l e s m below meth c b L xs D cI cJ cZ a A kR H locs cells slots Q ls 1762 := by
  intro hx hb hml hown hts hX hbl hbA hA hK hE hflg hkL hL hk hS hl hcr hsr kk
  obtain ⟨px, py, td, ld, sl, bd, pw, dt, st, uc, sv, tl, so, lm, n, nd, ss, rg, hw, ax, fu, si, au, ns, jk, jd, js, jt, jn, ef, es, el, ev, et, eo, th, pg, ag, ou, hR, hP, hD⟩ := hZ
  obtain ⟨t, ht, ht5, hjk, hF9, hL9, hS9, hJ9⟩ := id hR
  have hn : n ≤ 40 := hF9.1
  have hs : ns ≤ 16 := hS9.1
  have hj : jn < 512 := Nat.lt_of_le_of_lt hjk hk
  have hax := R_hax hS9
  have hmy := R_hmy hS9
  have hkk := hJ9.1
  refine lv_aload_n hx hb dL_law_1762 rfl (lv_at hl 1 rfl) ?_
  refine lv_aload_n hx hb dL_law_1763 rfl (lv_at hl 0 rfl) ?_
  refine lv_iload hx hb dL_law_1764 (lv_at hl 4 rfl) ?_
  refine lv_iconst (v := 1) hx hb dL_law_1766 (by decide) ?_
  refine lv_iadd hx hb dL_law_1767 ?_
  refine z_sld hx hb hX hbl hbA hS hL ((5 * kR) + 1) (z_iadd rfl (by decide)) (by omega) dL_law_1768 ?_
  refine lv_aload_n hx hb dL_law_1769 rfl (lv_at hl 0 rfl) ?_
  refine lv_iload hx hb dL_law_1770 (lv_at hl 4 rfl) ?_
  refine lv_iconst (v := 2) hx hb dL_law_1772 (by decide) ?_
  refine lv_iadd hx hb dL_law_1773 ?_
  refine z_sld hx hb hX hbl hbA hS hL ((5 * kR) + 2) (z_iadd rfl (by decide)) (by omega) dL_law_1774 ?_
  refine lv_aload_n hx hb dL_law_1775 rfl (lv_at hl 3 rfl) ?_
  by_cases hE0 : E_satelliteOf (xs ((5 * kR) + 1)) (xs ((5 * kR) + 2)) ns = 0
  · refine z_ciL (suf := (wMo cI cJ cZ a th td nd n ld sl bd pw dt st uc sv tl so ag ns ss rg hw ax fu si au px pg py)) (wc := ((wOr cI cJ cZ a px py td) ++ ((wFi cI cJ cZ a ld sl bd pw dt st uc sv tl so lm n nd) ++ ((wSa cI cJ cZ a ss rg hw ax fu si au ns) ++ ((wJo cI cJ cZ a jk jd js jt jn) ++ ((wEx cI cJ cZ a ef es el ev et eo) ++ (wOu cI cJ cZ a ou))))))) (w1 := ((wOr cI cJ cZ a px py td) ++ ((wFi cI cJ cZ a ld sl bd pw dt st uc sv tl so lm n nd) ++ ((wSa cI cJ cZ a ss rg hw ax fu si au ns) ++ ((wJo cI cJ cZ a jk jd js jt jn) ++ ((wEx cI cJ cZ a ef es el ev et eo) ++ (wOu cI cJ cZ a (F_sel (E_satelliteOf (xs ((5 * kR) + 1)) (xs ((5 * kR) + 2)) ns) (vp_updL ou 0 ((F_sof ss rg hw ax fu si td (F_served sv (xs ((5 * kR) + 1)) n) (ix (xs ((5 * kR) + 1))) (ix (xs ((5 * kR) + 2)))).toInt64)) ou)))))))) (vx_runSW (As := [.ref (a 0), .int (xs ((5 * kR) + 1)), .int (xs ((5 * kR) + 2)), .ref (a 60)]) (rest := []) ⟨hx, hb, hml, hown, hts⟩ (c_L_satelliteOf l hflg D cI cJ cZ a H.size px py td ld sl bd pw dt st uc sv tl so lm n nd ss rg hw ax fu si au ns jk jd js jt jn ef es el ev et eo ou (xs ((5 * kR) + 1)) (xs ((5 * kR) + 2)) hn hs) (vx_cwSW 4 hts gL_law_L_satelliteOf rfl rfl rfl (by decide +kernel) ⟨Nat.le_of_ble_eq_true rfl, Nat.le_of_ble_eq_true rfl⟩) (z_ps hK (zP_L hP) (zD_L hD) ZX_b (ZX_m hE hS (zF_L hD hS hA))) rfl rfl hl.1 rfl (lv_room (Nat.le_of_ble_eq_true rfl)) dL_law_1776 ⟨hcr, hsr⟩) hP hD hS hA (adrC.trans adrC.symm) (fun r_ H locs hr_ hP hS => ?_)
    have hP : va_P D vwCl (((wOr cI cJ cZ a px py td) ++ ((wFi cI cJ cZ a ld sl bd pw dt st uc sv tl so lm n nd) ++ ((wSa cI cJ cZ a ss rg hw ax fu si au ns) ++ ((wJo cI cJ cZ a jk jd js jt jn) ++ ((wEx cI cJ cZ a ef es el ev et eo) ++ (wOu cI cJ cZ a (vp_updL ou 0 ((F_sof ss rg hw ax fu si td (F_served sv (xs ((5 * kR) + 1)) n) (ix (xs ((5 * kR) + 1))) (ix (xs ((5 * kR) + 2)))).toInt64)))))))) ++ (wMo cI cJ cZ a th td nd n ld sl bd pw dt st uc sv tl so ag ns ss rg hw ax fu si au px pg py)) H := by have h9 := hP; simp only [F_sel_yes hE0] at h9; exact h9
    have hD : va_D A (((wOr cI cJ cZ a px py td) ++ ((wFi cI cJ cZ a ld sl bd pw dt st uc sv tl so lm n nd) ++ ((wSa cI cJ cZ a ss rg hw ax fu si au ns) ++ ((wJo cI cJ cZ a jk jd js jt jn) ++ ((wEx cI cJ cZ a ef es el ev et eo) ++ (wOu cI cJ cZ a (vp_updL ou 0 ((F_sof ss rg hw ax fu si td (F_served sv (xs ((5 * kR) + 1)) n) (ix (xs ((5 * kR) + 1))) (ix (xs ((5 * kR) + 2)))).toInt64)))))))) ++ (wMo cI cJ cZ a th td nd n ld sl bd pw dt st uc sv tl so ag ns ss rg hw ax fu si au px pg py)) := zD_law hD
    obtain rfl : r_ = 0 := hr_.trans (by rw [hE0]; decide)
    have hp9 := (p_satelliteOf kR t px py td ld sl bd pw dt st uc sv tl so lm n nd ss rg hw ax fu si au ns jk jd js jt jn ef es el ev et eo ag pg (xs ((5 * kR) + 1)) (xs ((5 * kR) + 2)) hR ht hk hE0)
    refine lv_istore (lv' := [(5, .int 0), (0, .ref b), (1, .ref (a 0)), (2, .ref (a 30)), (3, .ref (a 60)), (4, .int (nI (5 * kR)))]) hx hb dL_law_1779 hl (by decide) rfl (fun ls hl => ?_)
    refine lv_aload_n hx hb dL_law_1781 rfl (lv_at hl 3 rfl) ?_
    refine lv_aload_n hx hb dL_law_1782 rfl (lv_at hl 1 rfl) ?_
    refine lv_iload hx hb dL_law_1783 (lv_at hl 5 rfl) ?_
    refine lv_iconst (v := 1) hx hb dL_law_1785 (by decide) ?_
    refine lv_iadd hx hb dL_law_1786 ?_
    refine z_sld hx hb hX hbl hbA hS hL ((5 * kR) + 1) (z_iadd rfl (by decide)) (by omega) dL_law_1787 ?_
    refine lv_aload_n hx hb dL_law_1788 rfl (lv_at hl 1 rfl) ?_
    refine lv_iload hx hb dL_law_1789 (lv_at hl 5 rfl) ?_
    refine lv_iconst (v := 2) hx hb dL_law_1791 (by decide) ?_
    refine lv_iadd hx hb dL_law_1792 ?_
    refine z_sld hx hb hX hbl hbA hS hL ((5 * kR) + 2) (z_iadd rfl (by decide)) (by omega) dL_law_1793 ?_
    refine z_ciR (pre := ((wOr cI cJ cZ a px py td) ++ ((wFi cI cJ cZ a ld sl bd pw dt st uc sv tl so lm n nd) ++ ((wSa cI cJ cZ a ss rg hw ax fu si au ns) ++ ((wJo cI cJ cZ a jk jd js jt jn) ++ ((wEx cI cJ cZ a ef es el ev et eo) ++ (wOu cI cJ cZ a (vp_updL ou 0 ((F_sof ss rg hw ax fu si td (F_served sv (xs ((5 * kR) + 1)) n) (ix (xs ((5 * kR) + 1))) (ix (xs ((5 * kR) + 2)))).toInt64))))))))) (wc := (wMo cI cJ cZ a th td nd n ld sl bd pw dt st uc sv tl so ag ns ss rg hw ax fu si au px pg py)) (w1 := (wMo cI cJ cZ a (nI (E_satelliteOf (xs ((5 * kR) + 1)) (xs ((5 * kR) + 2)) ns)) td nd n ld sl bd pw dt st uc sv tl so ag ns ss rg hw ax fu si au px pg py)) (va_runV (As := [.int (xs ((5 * kR) + 1)), .int (xs ((5 * kR) + 2))]) (rest := []) ⟨hx, hb, hml, hown, hts⟩ (c_X5_satelliteOf l D cI cJ cZ a H.size th td nd n ld sl bd pw dt st uc sv tl so ag ns ss rg hw ax fu si au px pg py (xs ((5 * kR) + 1)) (xs ((5 * kR) + 2)) hn hs) (cwV 2 hts gL_law_X5_satelliteOf rfl rfl rfl (by decide +kernel) ⟨Nat.le_of_ble_eq_true rfl, Nat.le_of_ble_eq_true rfl⟩) (z_pv hK (zP_R hP) (zD_R hD) (q0 := 0) (ci := 5) rfl rfl zT_b zT_m) rfl rfl hl.1 rfl (lv_room (Nat.le_of_ble_eq_true rfl)) dL_law_1794 ⟨hcr, hsr⟩) hP hD hS hA (adrM.trans adrM.symm) (fun r_ H locs hr_ hP hS => ?_)
    have heq : E_satelliteOf (xs ((5 * kR) + 1)) (xs ((5 * kR) + 2)) ns = E_satelliteOf (xs ((5 * kR) + 1)) (xs ((5 * kR) + 2)) ns := rfl
    have hE1 : E_satelliteOf (xs ((5 * kR) + 1)) (xs ((5 * kR) + 2)) ns = 0 := heq.trans hE0
    have hth : nI (E_satelliteOf (xs ((5 * kR) + 1)) (xs ((5 * kR) + 2)) ns) = 0 := by rw [hE1]; decide
    have hP : va_P D vwCl (((wOr cI cJ cZ a px py td) ++ ((wFi cI cJ cZ a ld sl bd pw dt st uc sv tl so lm n nd) ++ ((wSa cI cJ cZ a ss rg hw ax fu si au ns) ++ ((wJo cI cJ cZ a jk jd js jt jn) ++ ((wEx cI cJ cZ a ef es el ev et eo) ++ (wOu cI cJ cZ a (vp_updL ou 0 ((F_sof ss rg hw ax fu si td (F_served sv (xs ((5 * kR) + 1)) n) (ix (xs ((5 * kR) + 1))) (ix (xs ((5 * kR) + 2)))).toInt64)))))))) ++ (wMo cI cJ cZ a 0 td nd n ld sl bd pw dt st uc sv tl so ag ns ss rg hw ax fu si au px pg py)) H := by have h9 := hP; simp only [hth, F_sel_yes hE1] at h9; exact h9
    have hD : va_D A (((wOr cI cJ cZ a px py td) ++ ((wFi cI cJ cZ a ld sl bd pw dt st uc sv tl so lm n nd) ++ ((wSa cI cJ cZ a ss rg hw ax fu si au ns) ++ ((wJo cI cJ cZ a jk jd js jt jn) ++ ((wEx cI cJ cZ a ef es el ev et eo) ++ (wOu cI cJ cZ a (vp_updL ou 0 ((F_sof ss rg hw ax fu si td (F_served sv (xs ((5 * kR) + 1)) n) (ix (xs ((5 * kR) + 1))) (ix (xs ((5 * kR) + 2)))).toInt64)))))))) ++ (wMo cI cJ cZ a 0 td nd n ld sl bd pw dt st uc sv tl so ag ns ss rg hw ax fu si au px pg py)) := zD_law hD
    obtain rfl : r_ = F_sof ss rg hw ax fu si td (G_served sv (xs ((5 * kR) + 1)) n) (ix (xs ((5 * kR) + 1))) (ix (xs ((5 * kR) + 2))) := hr_.trans (F_sel_yes hE1 _ _)
    refine lv_istore (lv' := [(6, .int (F_sof ss rg hw ax fu si td (G_served sv (xs ((5 * kR) + 1)) n) (ix (xs ((5 * kR) + 1))) (ix (xs ((5 * kR) + 2))))), (5, .int 0), (0, .ref b), (1, .ref (a 0)), (2, .ref (a 30)), (3, .ref (a 60)), (4, .int (nI (5 * kR)))]) hx hb dL_law_1797 hl (by decide) rfl (fun ls hl => ?_)
    refine lv_aload_n hx hb dL_law_1799 rfl (lv_at hl 4 rfl) ?_
    refine z_ri (va_runV (As := []) (rest := []) ⟨hx, hb, hml, hown, hts⟩ (c_X5_thrown l D cI cJ cZ a H.size 0 td nd n ld sl bd pw dt st uc sv tl so ag ns ss rg hw ax fu si au px pg py) (cwV 0 hts gL_law_X5_thrown rfl rfl rfl (by decide +kernel) ⟨Nat.le_of_ble_eq_true rfl, Nat.le_of_ble_eq_true rfl⟩) (z_pv hK (zP_R hP) (zD_R hD) (q0 := 0) (ci := 5) rfl rfl zT_b zT_m) rfl rfl hl.1 rfl (lv_room (Nat.le_of_ble_eq_true rfl)) dL_law_1800 ⟨hcr, hsr⟩) hP hS hA (fun r_ _ H locs hr_ hP hS => ?_)
    subst hr_
    refine lv_iload hx hb dL_law_1803 (lv_at hl 1 rfl) ?_
    refine lv_icmp_eq (tgt := 1810) hx hb dL_law_1805 (by decide) (fun _ => ?_) (fun c9 => absurd (by decide) c9)
    refine lv_iload hx hb dL_law_1810 (lv_at hl 1 rfl) ?_
    refine lv_if_ne (tgt := 1827) hx hb dL_law_1812 (by decide) (fun c9 => absurd (by decide) c9) (fun _ => ?_)
    refine lv_aload_n hx hb dL_law_1815 rfl (lv_at hl 5 rfl) ?_
    refine lv_iconst (v := 0) hx hb dL_law_1816 (by decide) ?_
    refine z_lald hx hb hK hP 29 1 rfl rfl 0 (by decide) (by decide) rfl dL_law_1817 ?_
    refine lv_iload hx hb dL_law_1818 (lv_at hl 0 rfl) ?_
    refine lv_i2l (v := (F_sof ss rg hw ax fu si td (G_served sv (xs ((5 * kR) + 1)) n) (ix (xs ((5 * kR) + 1))) (ix (xs ((5 * kR) + 2)))).toInt64) hx hb dL_law_1820 rfl ?_
    have hc9 : lg_cmp ((vp_updL ou 0 ((F_sof ss rg hw ax fu si td (F_served sv (xs ((5 * kR) + 1)) n) (ix (xs ((5 * kR) + 1))) (ix (xs ((5 * kR) + 2)))).toInt64)) 0) ((F_sof ss rg hw ax fu si td (G_served sv (xs ((5 * kR) + 1)) n) (ix (xs ((5 * kR) + 1))) (ix (xs ((5 * kR) + 2)))).toInt64) = 0 := z_cmp ((vp_updL_0 _ _).trans (by rw [hp9.1]))
    refine W.lcmp hx hb dL_law_1821 ?_
    refine lv_if_eq (tgt := 1827) hx hb dL_law_1822 (by decide) (fun _ => ?_) (fun c9 => absurd hc9 c9)
    refine lv_goto (tgt := 1941) hx hb dL_law_1827 (by decide) ?_
    exact kk H locs ls ⟨px, py, td, ld, sl, bd, pw, dt, st, uc, sv, tl, so, lm, n, nd, ss, rg, hw, ax, fu, si, au, ns, jk, jd, js, jt, jn, ef, es, el, ev, et, eo, 0, pg, ag, (vp_updL ou 0 ((F_sof ss rg hw ax fu si td (F_served sv (xs ((5 * kR) + 1)) n) (ix (xs ((5 * kR) + 1))) (ix (xs ((5 * kR) + 2)))).toInt64)), hp9.2, hP, hD⟩ hS (lv_sub hl [2, 3, 4, 5, 6] rfl)
  · refine z_ciL (suf := (wMo cI cJ cZ a th td nd n ld sl bd pw dt st uc sv tl so ag ns ss rg hw ax fu si au px pg py)) (wc := ((wOr cI cJ cZ a px py td) ++ ((wFi cI cJ cZ a ld sl bd pw dt st uc sv tl so lm n nd) ++ ((wSa cI cJ cZ a ss rg hw ax fu si au ns) ++ ((wJo cI cJ cZ a jk jd js jt jn) ++ ((wEx cI cJ cZ a ef es el ev et eo) ++ (wOu cI cJ cZ a ou))))))) (w1 := ((wOr cI cJ cZ a px py td) ++ ((wFi cI cJ cZ a ld sl bd pw dt st uc sv tl so lm n nd) ++ ((wSa cI cJ cZ a ss rg hw ax fu si au ns) ++ ((wJo cI cJ cZ a jk jd js jt jn) ++ ((wEx cI cJ cZ a ef es el ev et eo) ++ (wOu cI cJ cZ a (F_sel (E_satelliteOf (xs ((5 * kR) + 1)) (xs ((5 * kR) + 2)) ns) (vp_updL ou 0 ((F_sof ss rg hw ax fu si td (F_served sv (xs ((5 * kR) + 1)) n) (ix (xs ((5 * kR) + 1))) (ix (xs ((5 * kR) + 2)))).toInt64)) ou)))))))) (vx_runSW (As := [.ref (a 0), .int (xs ((5 * kR) + 1)), .int (xs ((5 * kR) + 2)), .ref (a 60)]) (rest := []) ⟨hx, hb, hml, hown, hts⟩ (c_L_satelliteOf l hflg D cI cJ cZ a H.size px py td ld sl bd pw dt st uc sv tl so lm n nd ss rg hw ax fu si au ns jk jd js jt jn ef es el ev et eo ou (xs ((5 * kR) + 1)) (xs ((5 * kR) + 2)) hn hs) (vx_cwSW 4 hts gL_law_L_satelliteOf rfl rfl rfl (by decide +kernel) ⟨Nat.le_of_ble_eq_true rfl, Nat.le_of_ble_eq_true rfl⟩) (z_ps hK (zP_L hP) (zD_L hD) ZX_b (ZX_m hE hS (zF_L hD hS hA))) rfl rfl hl.1 rfl (lv_room (Nat.le_of_ble_eq_true rfl)) dL_law_1776 ⟨hcr, hsr⟩) hP hD hS hA (adrC.trans adrC.symm) (fun r_ H locs hr_ hP hS => ?_)
    have hP : va_P D vwCl (((wOr cI cJ cZ a px py td) ++ ((wFi cI cJ cZ a ld sl bd pw dt st uc sv tl so lm n nd) ++ ((wSa cI cJ cZ a ss rg hw ax fu si au ns) ++ ((wJo cI cJ cZ a jk jd js jt jn) ++ ((wEx cI cJ cZ a ef es el ev et eo) ++ (wOu cI cJ cZ a ou)))))) ++ (wMo cI cJ cZ a th td nd n ld sl bd pw dt st uc sv tl so ag ns ss rg hw ax fu si au px pg py)) H := by have h9 := hP; simp only [F_sel_no hE0] at h9; exact h9
    have hD : va_D A (((wOr cI cJ cZ a px py td) ++ ((wFi cI cJ cZ a ld sl bd pw dt st uc sv tl so lm n nd) ++ ((wSa cI cJ cZ a ss rg hw ax fu si au ns) ++ ((wJo cI cJ cZ a jk jd js jt jn) ++ ((wEx cI cJ cZ a ef es el ev et eo) ++ (wOu cI cJ cZ a ou)))))) ++ (wMo cI cJ cZ a th td nd n ld sl bd pw dt st uc sv tl so ag ns ss rg hw ax fu si au px pg py)) := zD_law hD
    subst hr_
    have hnz : ¬ (nI (E_satelliteOf (xs ((5 * kR) + 1)) (xs ((5 * kR) + 2)) ns)) = 0 := z_nz hE0 (by unfold E_satelliteOf; (repeat' split); all_goals decide)
    refine lv_istore (lv' := [(5, .int (nI (E_satelliteOf (xs ((5 * kR) + 1)) (xs ((5 * kR) + 2)) ns))), (0, .ref b), (1, .ref (a 0)), (2, .ref (a 30)), (3, .ref (a 60)), (4, .int (nI (5 * kR)))]) hx hb dL_law_1779 hl (by decide) rfl (fun ls hl => ?_)
    refine lv_aload_n hx hb dL_law_1781 rfl (lv_at hl 3 rfl) ?_
    refine lv_aload_n hx hb dL_law_1782 rfl (lv_at hl 1 rfl) ?_
    refine lv_iload hx hb dL_law_1783 (lv_at hl 5 rfl) ?_
    refine lv_iconst (v := 1) hx hb dL_law_1785 (by decide) ?_
    refine lv_iadd hx hb dL_law_1786 ?_
    refine z_sld hx hb hX hbl hbA hS hL ((5 * kR) + 1) (z_iadd rfl (by decide)) (by omega) dL_law_1787 ?_
    refine lv_aload_n hx hb dL_law_1788 rfl (lv_at hl 1 rfl) ?_
    refine lv_iload hx hb dL_law_1789 (lv_at hl 5 rfl) ?_
    refine lv_iconst (v := 2) hx hb dL_law_1791 (by decide) ?_
    refine lv_iadd hx hb dL_law_1792 ?_
    refine z_sld hx hb hX hbl hbA hS hL ((5 * kR) + 2) (z_iadd rfl (by decide)) (by omega) dL_law_1793 ?_
    refine z_ciR (pre := ((wOr cI cJ cZ a px py td) ++ ((wFi cI cJ cZ a ld sl bd pw dt st uc sv tl so lm n nd) ++ ((wSa cI cJ cZ a ss rg hw ax fu si au ns) ++ ((wJo cI cJ cZ a jk jd js jt jn) ++ ((wEx cI cJ cZ a ef es el ev et eo) ++ (wOu cI cJ cZ a ou))))))) (wc := (wMo cI cJ cZ a th td nd n ld sl bd pw dt st uc sv tl so ag ns ss rg hw ax fu si au px pg py)) (w1 := (wMo cI cJ cZ a (nI (E_satelliteOf (xs ((5 * kR) + 1)) (xs ((5 * kR) + 2)) ns)) td nd n ld sl bd pw dt st uc sv tl so ag ns ss rg hw ax fu si au px pg py)) (va_runV (As := [.int (xs ((5 * kR) + 1)), .int (xs ((5 * kR) + 2))]) (rest := []) ⟨hx, hb, hml, hown, hts⟩ (c_X5_satelliteOf l D cI cJ cZ a H.size th td nd n ld sl bd pw dt st uc sv tl so ag ns ss rg hw ax fu si au px pg py (xs ((5 * kR) + 1)) (xs ((5 * kR) + 2)) hn hs) (cwV 2 hts gL_law_X5_satelliteOf rfl rfl rfl (by decide +kernel) ⟨Nat.le_of_ble_eq_true rfl, Nat.le_of_ble_eq_true rfl⟩) (z_pv hK (zP_R hP) (zD_R hD) (q0 := 0) (ci := 5) rfl rfl zT_b zT_m) rfl rfl hl.1 rfl (lv_room (Nat.le_of_ble_eq_true rfl)) dL_law_1794 ⟨hcr, hsr⟩) hP hD hS hA (adrM.trans adrM.symm) (fun r_ H locs hr_ hP hS => ?_)
    have heq : E_satelliteOf (xs ((5 * kR) + 1)) (xs ((5 * kR) + 2)) ns = E_satelliteOf (xs ((5 * kR) + 1)) (xs ((5 * kR) + 2)) ns := rfl
    have hE1 : ¬ E_satelliteOf (xs ((5 * kR) + 1)) (xs ((5 * kR) + 2)) ns = 0 := fun h => hE0 (heq.symm.trans h)
    have hP : va_P D vwCl (((wOr cI cJ cZ a px py td) ++ ((wFi cI cJ cZ a ld sl bd pw dt st uc sv tl so lm n nd) ++ ((wSa cI cJ cZ a ss rg hw ax fu si au ns) ++ ((wJo cI cJ cZ a jk jd js jt jn) ++ ((wEx cI cJ cZ a ef es el ev et eo) ++ (wOu cI cJ cZ a ou)))))) ++ (wMo cI cJ cZ a (nI (E_satelliteOf (xs ((5 * kR) + 1)) (xs ((5 * kR) + 2)) ns)) td nd n ld sl bd pw dt st uc sv tl so ag ns ss rg hw ax fu si au px pg py)) H := hP
    have hD : va_D A (((wOr cI cJ cZ a px py td) ++ ((wFi cI cJ cZ a ld sl bd pw dt st uc sv tl so lm n nd) ++ ((wSa cI cJ cZ a ss rg hw ax fu si au ns) ++ ((wJo cI cJ cZ a jk jd js jt jn) ++ ((wEx cI cJ cZ a ef es el ev et eo) ++ (wOu cI cJ cZ a ou)))))) ++ (wMo cI cJ cZ a (nI (E_satelliteOf (xs ((5 * kR) + 1)) (xs ((5 * kR) + 2)) ns)) td nd n ld sl bd pw dt st uc sv tl so ag ns ss rg hw ax fu si au px pg py)) := zD_law hD
    obtain rfl : r_ = 0 := hr_.trans (F_sel_no hE1 _ _)
    refine lv_istore (lv' := [(6, .int 0), (5, .int (nI (E_satelliteOf (xs ((5 * kR) + 1)) (xs ((5 * kR) + 2)) ns))), (0, .ref b), (1, .ref (a 0)), (2, .ref (a 30)), (3, .ref (a 60)), (4, .int (nI (5 * kR)))]) hx hb dL_law_1797 hl (by decide) rfl (fun ls hl => ?_)
    refine lv_aload_n hx hb dL_law_1799 rfl (lv_at hl 4 rfl) ?_
    refine z_ri (va_runV (As := []) (rest := []) ⟨hx, hb, hml, hown, hts⟩ (c_X5_thrown l D cI cJ cZ a H.size (nI (E_satelliteOf (xs ((5 * kR) + 1)) (xs ((5 * kR) + 2)) ns)) td nd n ld sl bd pw dt st uc sv tl so ag ns ss rg hw ax fu si au px pg py) (cwV 0 hts gL_law_X5_thrown rfl rfl rfl (by decide +kernel) ⟨Nat.le_of_ble_eq_true rfl, Nat.le_of_ble_eq_true rfl⟩) (z_pv hK (zP_R hP) (zD_R hD) (q0 := 0) (ci := 5) rfl rfl zT_b zT_m) rfl rfl hl.1 rfl (lv_room (Nat.le_of_ble_eq_true rfl)) dL_law_1800 ⟨hcr, hsr⟩) hP hS hA (fun r_ _ H locs hr_ hP hS => ?_)
    subst hr_
    refine lv_iload hx hb dL_law_1803 (lv_at hl 1 rfl) ?_
    refine lv_icmp_eq (tgt := 1810) hx hb dL_law_1805 (by decide) (fun _ => ?_) (fun c9 => absurd rfl c9)
    refine lv_iload hx hb dL_law_1810 (lv_at hl 1 rfl) ?_
    refine lv_if_ne (tgt := 1827) hx hb dL_law_1812 (by decide) (fun _ => ?_) (fun c9 => absurd c9 hnz)
    refine lv_goto (tgt := 1941) hx hb dL_law_1827 (by decide) ?_
    exact kk H locs ls ⟨px, py, td, ld, sl, bd, pw, dt, st, uc, sv, tl, so, lm, n, nd, ss, rg, hw, ax, fu, si, au, ns, jk, jd, js, jt, jn, ef, es, el, ev, et, eo, nI (E_satelliteOf (xs ((5 * kR) + 1)) (xs ((5 * kR) + 2)) ns), pg, ag, ou, hR.mono, hP, hD⟩ hS (lv_sub hl [2, 3, 4, 5, 6] rfl)
set_option maxHeartbeats 8000000 in
set_option maxRecDepth 100000 in
theorem law_pieces (p : Program) (l : Launch) (e : Env) (s : State) (m : MethodId) (below : List Frame) (meth : Method) (c : Code) (b L : Nat) (xs : Nat → Int32) (D : va_G) (cI cJ cZ : ClassId) (a : Nat → Nat) (A : Nat → Prop) (kR : Nat) (H : Heap) (locs : List Loc) (cells slots : Nat) (Q : State → Prop) (ls : Array Slot) (hZ : ZLw D cI cJ cZ a A kR H) : ZGo p l e s m below meth c b L xs D cI cJ cZ a A kR H locs cells slots Q ls 1830 := by
  intro hx hb hml hown hts hX hbl hbA hA hK hE hflg hkL hL hk hS hl hcr hsr kk
  obtain ⟨px, py, td, ld, sl, bd, pw, dt, st, uc, sv, tl, so, lm, n, nd, ss, rg, hw, ax, fu, si, au, ns, jk, jd, js, jt, jn, ef, es, el, ev, et, eo, th, pg, ag, ou, hR, hP, hD⟩ := hZ
  obtain ⟨t, ht, ht5, hjk, hF9, hL9, hS9, hJ9⟩ := id hR
  have hn : n ≤ 40 := hF9.1
  have hs : ns ≤ 16 := hS9.1
  have hj : jn < 512 := Nat.lt_of_le_of_lt hjk hk
  have hax := R_hax hS9
  have hmy := R_hmy hS9
  have hkk := hJ9.1
  refine lv_aload_n hx hb dL_law_1830 rfl (lv_at hl 1 rfl) ?_
  refine lv_aload_n hx hb dL_law_1831 rfl (lv_at hl 0 rfl) ?_
  refine lv_iload hx hb dL_law_1832 (lv_at hl 4 rfl) ?_
  refine lv_iconst (v := 1) hx hb dL_law_1834 (by decide) ?_
  refine lv_iadd hx hb dL_law_1835 ?_
  refine z_sld hx hb hX hbl hbA hS hL ((5 * kR) + 1) (z_iadd rfl (by decide)) (by omega) dL_law_1836 ?_
  refine lv_aload_n hx hb dL_law_1837 rfl (lv_at hl 3 rfl) ?_
  by_cases hE0 : E_rng (xs ((5 * kR) + 1)) 35 = 0
  · refine z_ciL (suf := (wMo cI cJ cZ a th td nd n ld sl bd pw dt st uc sv tl so ag ns ss rg hw ax fu si au px pg py)) (wc := ((wOr cI cJ cZ a px py td) ++ ((wFi cI cJ cZ a ld sl bd pw dt st uc sv tl so lm n nd) ++ ((wSa cI cJ cZ a ss rg hw ax fu si au ns) ++ ((wJo cI cJ cZ a jk jd js jt jn) ++ ((wEx cI cJ cZ a ef es el ev et eo) ++ (wOu cI cJ cZ a ou))))))) (w1 := ((wOr cI cJ cZ a px py td) ++ ((wFi cI cJ cZ a ld sl bd pw dt st uc sv tl so lm n nd) ++ ((wSa cI cJ cZ a ss rg hw ax fu si au ns) ++ ((wJo cI cJ cZ a jk jd js jt jn) ++ ((wEx cI cJ cZ a ef es el ev et eo) ++ (wOu cI cJ cZ a (F_sel (E_rng (xs ((5 * kR) + 1)) 35) (vp_updL ou 0 ((px (ix (xs ((5 * kR) + 1)))).toInt64)) ou)))))))) (vx_runSW (As := [.ref (a 0), .int (xs ((5 * kR) + 1)), .ref (a 60)]) (rest := []) ⟨hx, hb, hml, hown, hts⟩ (c_L_pieces l hflg D cI cJ cZ a H.size px py td ld sl bd pw dt st uc sv tl so lm n nd ss rg hw ax fu si au ns jk jd js jt jn ef es el ev et eo ou (xs ((5 * kR) + 1))) (vx_cwSW 3 hts gL_law_L_pieces rfl rfl rfl (by decide +kernel) ⟨Nat.le_of_ble_eq_true rfl, Nat.le_of_ble_eq_true rfl⟩) (z_ps hK (zP_L hP) (zD_L hD) ZX_b (ZX_m hE hS (zF_L hD hS hA))) rfl rfl hl.1 rfl (lv_room (Nat.le_of_ble_eq_true rfl)) dL_law_1838 ⟨hcr, hsr⟩) hP hD hS hA (adrC.trans adrC.symm) (fun r_ H locs hr_ hP hS => ?_)
    have hP : va_P D vwCl (((wOr cI cJ cZ a px py td) ++ ((wFi cI cJ cZ a ld sl bd pw dt st uc sv tl so lm n nd) ++ ((wSa cI cJ cZ a ss rg hw ax fu si au ns) ++ ((wJo cI cJ cZ a jk jd js jt jn) ++ ((wEx cI cJ cZ a ef es el ev et eo) ++ (wOu cI cJ cZ a (vp_updL ou 0 ((px (ix (xs ((5 * kR) + 1)))).toInt64)))))))) ++ (wMo cI cJ cZ a th td nd n ld sl bd pw dt st uc sv tl so ag ns ss rg hw ax fu si au px pg py)) H := by have h9 := hP; simp only [F_sel_yes hE0] at h9; exact h9
    have hD : va_D A (((wOr cI cJ cZ a px py td) ++ ((wFi cI cJ cZ a ld sl bd pw dt st uc sv tl so lm n nd) ++ ((wSa cI cJ cZ a ss rg hw ax fu si au ns) ++ ((wJo cI cJ cZ a jk jd js jt jn) ++ ((wEx cI cJ cZ a ef es el ev et eo) ++ (wOu cI cJ cZ a (vp_updL ou 0 ((px (ix (xs ((5 * kR) + 1)))).toInt64)))))))) ++ (wMo cI cJ cZ a th td nd n ld sl bd pw dt st uc sv tl so ag ns ss rg hw ax fu si au px pg py)) := zD_law hD
    obtain rfl : r_ = 0 := hr_.trans (by rw [hE0]; decide)
    have hp9 := (p_pieces kR t px py td ld sl bd pw dt st uc sv tl so lm n nd ss rg hw ax fu si au ns jk jd js jt jn ef es el ev et eo ag pg (xs ((5 * kR) + 1)) hR ht hk hE0)
    refine lv_istore (lv' := [(5, .int 0), (0, .ref b), (1, .ref (a 0)), (2, .ref (a 30)), (3, .ref (a 60)), (4, .int (nI (5 * kR)))]) hx hb dL_law_1841 hl (by decide) rfl (fun ls hl => ?_)
    refine lv_aload_n hx hb dL_law_1843 rfl (lv_at hl 3 rfl) ?_
    refine lv_aload_n hx hb dL_law_1844 rfl (lv_at hl 1 rfl) ?_
    refine lv_iload hx hb dL_law_1845 (lv_at hl 5 rfl) ?_
    refine lv_iconst (v := 1) hx hb dL_law_1847 (by decide) ?_
    refine lv_iadd hx hb dL_law_1848 ?_
    refine z_sld hx hb hX hbl hbA hS hL ((5 * kR) + 1) (z_iadd rfl (by decide)) (by omega) dL_law_1849 ?_
    refine z_ciR (pre := ((wOr cI cJ cZ a px py td) ++ ((wFi cI cJ cZ a ld sl bd pw dt st uc sv tl so lm n nd) ++ ((wSa cI cJ cZ a ss rg hw ax fu si au ns) ++ ((wJo cI cJ cZ a jk jd js jt jn) ++ ((wEx cI cJ cZ a ef es el ev et eo) ++ (wOu cI cJ cZ a (vp_updL ou 0 ((px (ix (xs ((5 * kR) + 1)))).toInt64))))))))) (wc := (wMo cI cJ cZ a th td nd n ld sl bd pw dt st uc sv tl so ag ns ss rg hw ax fu si au px pg py)) (w1 := (wMo cI cJ cZ a (nI (E_rng (xs ((5 * kR) + 1)) 35)) td nd n ld sl bd pw dt st uc sv tl so ag ns ss rg hw ax fu si au px pg py)) (va_runV (As := [.int (xs ((5 * kR) + 1))]) (rest := []) ⟨hx, hb, hml, hown, hts⟩ (c_X5_pieces l D cI cJ cZ a H.size th td nd n ld sl bd pw dt st uc sv tl so ag ns ss rg hw ax fu si au px pg py (xs ((5 * kR) + 1))) (cwV 1 hts gL_law_X5_pieces rfl rfl rfl (by decide +kernel) ⟨Nat.le_of_ble_eq_true rfl, Nat.le_of_ble_eq_true rfl⟩) (z_pv hK (zP_R hP) (zD_R hD) (q0 := 0) (ci := 5) rfl rfl zT_b zT_m) rfl rfl hl.1 rfl (lv_room (Nat.le_of_ble_eq_true rfl)) dL_law_1850 ⟨hcr, hsr⟩) hP hD hS hA (adrM.trans adrM.symm) (fun r_ H locs hr_ hP hS => ?_)
    have heq : E_rng (xs ((5 * kR) + 1)) 35 = E_rng (xs ((5 * kR) + 1)) 35 := rfl
    have hE1 : E_rng (xs ((5 * kR) + 1)) 35 = 0 := heq.trans hE0
    have hth : nI (E_rng (xs ((5 * kR) + 1)) 35) = 0 := by rw [hE1]; decide
    have hP : va_P D vwCl (((wOr cI cJ cZ a px py td) ++ ((wFi cI cJ cZ a ld sl bd pw dt st uc sv tl so lm n nd) ++ ((wSa cI cJ cZ a ss rg hw ax fu si au ns) ++ ((wJo cI cJ cZ a jk jd js jt jn) ++ ((wEx cI cJ cZ a ef es el ev et eo) ++ (wOu cI cJ cZ a (vp_updL ou 0 ((px (ix (xs ((5 * kR) + 1)))).toInt64)))))))) ++ (wMo cI cJ cZ a 0 td nd n ld sl bd pw dt st uc sv tl so ag ns ss rg hw ax fu si au px pg py)) H := by have h9 := hP; simp only [hth, F_sel_yes hE1] at h9; exact h9
    have hD : va_D A (((wOr cI cJ cZ a px py td) ++ ((wFi cI cJ cZ a ld sl bd pw dt st uc sv tl so lm n nd) ++ ((wSa cI cJ cZ a ss rg hw ax fu si au ns) ++ ((wJo cI cJ cZ a jk jd js jt jn) ++ ((wEx cI cJ cZ a ef es el ev et eo) ++ (wOu cI cJ cZ a (vp_updL ou 0 ((px (ix (xs ((5 * kR) + 1)))).toInt64)))))))) ++ (wMo cI cJ cZ a 0 td nd n ld sl bd pw dt st uc sv tl so ag ns ss rg hw ax fu si au px pg py)) := zD_law hD
    obtain rfl : r_ = px (ix (xs ((5 * kR) + 1))) := hr_.trans (F_sel_yes hE1 _ _)
    refine lv_istore (lv' := [(6, .int (px (ix (xs ((5 * kR) + 1))))), (5, .int 0), (0, .ref b), (1, .ref (a 0)), (2, .ref (a 30)), (3, .ref (a 60)), (4, .int (nI (5 * kR)))]) hx hb dL_law_1853 hl (by decide) rfl (fun ls hl => ?_)
    refine lv_aload_n hx hb dL_law_1855 rfl (lv_at hl 4 rfl) ?_
    refine z_ri (va_runV (As := []) (rest := []) ⟨hx, hb, hml, hown, hts⟩ (c_X5_thrown l D cI cJ cZ a H.size 0 td nd n ld sl bd pw dt st uc sv tl so ag ns ss rg hw ax fu si au px pg py) (cwV 0 hts gL_law_X5_thrown rfl rfl rfl (by decide +kernel) ⟨Nat.le_of_ble_eq_true rfl, Nat.le_of_ble_eq_true rfl⟩) (z_pv hK (zP_R hP) (zD_R hD) (q0 := 0) (ci := 5) rfl rfl zT_b zT_m) rfl rfl hl.1 rfl (lv_room (Nat.le_of_ble_eq_true rfl)) dL_law_1856 ⟨hcr, hsr⟩) hP hS hA (fun r_ _ H locs hr_ hP hS => ?_)
    subst hr_
    refine lv_iload hx hb dL_law_1859 (lv_at hl 1 rfl) ?_
    refine lv_icmp_eq (tgt := 1866) hx hb dL_law_1861 (by decide) (fun _ => ?_) (fun c9 => absurd (by decide) c9)
    refine lv_iload hx hb dL_law_1866 (lv_at hl 1 rfl) ?_
    refine lv_if_ne (tgt := 1883) hx hb dL_law_1868 (by decide) (fun c9 => absurd (by decide) c9) (fun _ => ?_)
    refine lv_aload_n hx hb dL_law_1871 rfl (lv_at hl 5 rfl) ?_
    refine lv_iconst (v := 0) hx hb dL_law_1872 (by decide) ?_
    refine z_lald hx hb hK hP 29 1 rfl rfl 0 (by decide) (by decide) rfl dL_law_1873 ?_
    refine lv_iload hx hb dL_law_1874 (lv_at hl 0 rfl) ?_
    refine lv_i2l (v := (px (ix (xs ((5 * kR) + 1)))).toInt64) hx hb dL_law_1876 rfl ?_
    have hc9 : lg_cmp ((vp_updL ou 0 ((px (ix (xs ((5 * kR) + 1)))).toInt64)) 0) ((px (ix (xs ((5 * kR) + 1)))).toInt64) = 0 := z_cmp ((vp_updL_0 _ _).trans (by rw [hp9.1]))
    refine W.lcmp hx hb dL_law_1877 ?_
    refine lv_if_eq (tgt := 1883) hx hb dL_law_1878 (by decide) (fun _ => ?_) (fun c9 => absurd hc9 c9)
    refine lv_goto (tgt := 1941) hx hb dL_law_1883 (by decide) ?_
    exact kk H locs ls ⟨px, py, td, ld, sl, bd, pw, dt, st, uc, sv, tl, so, lm, n, nd, ss, rg, hw, ax, fu, si, au, ns, jk, jd, js, jt, jn, ef, es, el, ev, et, eo, 0, pg, ag, (vp_updL ou 0 ((px (ix (xs ((5 * kR) + 1)))).toInt64)), hp9.2, hP, hD⟩ hS (lv_sub hl [2, 3, 4, 5, 6] rfl)
  · refine z_ciL (suf := (wMo cI cJ cZ a th td nd n ld sl bd pw dt st uc sv tl so ag ns ss rg hw ax fu si au px pg py)) (wc := ((wOr cI cJ cZ a px py td) ++ ((wFi cI cJ cZ a ld sl bd pw dt st uc sv tl so lm n nd) ++ ((wSa cI cJ cZ a ss rg hw ax fu si au ns) ++ ((wJo cI cJ cZ a jk jd js jt jn) ++ ((wEx cI cJ cZ a ef es el ev et eo) ++ (wOu cI cJ cZ a ou))))))) (w1 := ((wOr cI cJ cZ a px py td) ++ ((wFi cI cJ cZ a ld sl bd pw dt st uc sv tl so lm n nd) ++ ((wSa cI cJ cZ a ss rg hw ax fu si au ns) ++ ((wJo cI cJ cZ a jk jd js jt jn) ++ ((wEx cI cJ cZ a ef es el ev et eo) ++ (wOu cI cJ cZ a (F_sel (E_rng (xs ((5 * kR) + 1)) 35) (vp_updL ou 0 ((px (ix (xs ((5 * kR) + 1)))).toInt64)) ou)))))))) (vx_runSW (As := [.ref (a 0), .int (xs ((5 * kR) + 1)), .ref (a 60)]) (rest := []) ⟨hx, hb, hml, hown, hts⟩ (c_L_pieces l hflg D cI cJ cZ a H.size px py td ld sl bd pw dt st uc sv tl so lm n nd ss rg hw ax fu si au ns jk jd js jt jn ef es el ev et eo ou (xs ((5 * kR) + 1))) (vx_cwSW 3 hts gL_law_L_pieces rfl rfl rfl (by decide +kernel) ⟨Nat.le_of_ble_eq_true rfl, Nat.le_of_ble_eq_true rfl⟩) (z_ps hK (zP_L hP) (zD_L hD) ZX_b (ZX_m hE hS (zF_L hD hS hA))) rfl rfl hl.1 rfl (lv_room (Nat.le_of_ble_eq_true rfl)) dL_law_1838 ⟨hcr, hsr⟩) hP hD hS hA (adrC.trans adrC.symm) (fun r_ H locs hr_ hP hS => ?_)
    have hP : va_P D vwCl (((wOr cI cJ cZ a px py td) ++ ((wFi cI cJ cZ a ld sl bd pw dt st uc sv tl so lm n nd) ++ ((wSa cI cJ cZ a ss rg hw ax fu si au ns) ++ ((wJo cI cJ cZ a jk jd js jt jn) ++ ((wEx cI cJ cZ a ef es el ev et eo) ++ (wOu cI cJ cZ a ou)))))) ++ (wMo cI cJ cZ a th td nd n ld sl bd pw dt st uc sv tl so ag ns ss rg hw ax fu si au px pg py)) H := by have h9 := hP; simp only [F_sel_no hE0] at h9; exact h9
    have hD : va_D A (((wOr cI cJ cZ a px py td) ++ ((wFi cI cJ cZ a ld sl bd pw dt st uc sv tl so lm n nd) ++ ((wSa cI cJ cZ a ss rg hw ax fu si au ns) ++ ((wJo cI cJ cZ a jk jd js jt jn) ++ ((wEx cI cJ cZ a ef es el ev et eo) ++ (wOu cI cJ cZ a ou)))))) ++ (wMo cI cJ cZ a th td nd n ld sl bd pw dt st uc sv tl so ag ns ss rg hw ax fu si au px pg py)) := zD_law hD
    subst hr_
    have hnz : ¬ (nI (E_rng (xs ((5 * kR) + 1)) 35)) = 0 := z_nz hE0 (by unfold E_rng; (repeat' split); all_goals decide)
    refine lv_istore (lv' := [(5, .int (nI (E_rng (xs ((5 * kR) + 1)) 35))), (0, .ref b), (1, .ref (a 0)), (2, .ref (a 30)), (3, .ref (a 60)), (4, .int (nI (5 * kR)))]) hx hb dL_law_1841 hl (by decide) rfl (fun ls hl => ?_)
    refine lv_aload_n hx hb dL_law_1843 rfl (lv_at hl 3 rfl) ?_
    refine lv_aload_n hx hb dL_law_1844 rfl (lv_at hl 1 rfl) ?_
    refine lv_iload hx hb dL_law_1845 (lv_at hl 5 rfl) ?_
    refine lv_iconst (v := 1) hx hb dL_law_1847 (by decide) ?_
    refine lv_iadd hx hb dL_law_1848 ?_
    refine z_sld hx hb hX hbl hbA hS hL ((5 * kR) + 1) (z_iadd rfl (by decide)) (by omega) dL_law_1849 ?_
    refine z_ciR (pre := ((wOr cI cJ cZ a px py td) ++ ((wFi cI cJ cZ a ld sl bd pw dt st uc sv tl so lm n nd) ++ ((wSa cI cJ cZ a ss rg hw ax fu si au ns) ++ ((wJo cI cJ cZ a jk jd js jt jn) ++ ((wEx cI cJ cZ a ef es el ev et eo) ++ (wOu cI cJ cZ a ou))))))) (wc := (wMo cI cJ cZ a th td nd n ld sl bd pw dt st uc sv tl so ag ns ss rg hw ax fu si au px pg py)) (w1 := (wMo cI cJ cZ a (nI (E_rng (xs ((5 * kR) + 1)) 35)) td nd n ld sl bd pw dt st uc sv tl so ag ns ss rg hw ax fu si au px pg py)) (va_runV (As := [.int (xs ((5 * kR) + 1))]) (rest := []) ⟨hx, hb, hml, hown, hts⟩ (c_X5_pieces l D cI cJ cZ a H.size th td nd n ld sl bd pw dt st uc sv tl so ag ns ss rg hw ax fu si au px pg py (xs ((5 * kR) + 1))) (cwV 1 hts gL_law_X5_pieces rfl rfl rfl (by decide +kernel) ⟨Nat.le_of_ble_eq_true rfl, Nat.le_of_ble_eq_true rfl⟩) (z_pv hK (zP_R hP) (zD_R hD) (q0 := 0) (ci := 5) rfl rfl zT_b zT_m) rfl rfl hl.1 rfl (lv_room (Nat.le_of_ble_eq_true rfl)) dL_law_1850 ⟨hcr, hsr⟩) hP hD hS hA (adrM.trans adrM.symm) (fun r_ H locs hr_ hP hS => ?_)
    have heq : E_rng (xs ((5 * kR) + 1)) 35 = E_rng (xs ((5 * kR) + 1)) 35 := rfl
    have hE1 : ¬ E_rng (xs ((5 * kR) + 1)) 35 = 0 := fun h => hE0 (heq.symm.trans h)
    have hP : va_P D vwCl (((wOr cI cJ cZ a px py td) ++ ((wFi cI cJ cZ a ld sl bd pw dt st uc sv tl so lm n nd) ++ ((wSa cI cJ cZ a ss rg hw ax fu si au ns) ++ ((wJo cI cJ cZ a jk jd js jt jn) ++ ((wEx cI cJ cZ a ef es el ev et eo) ++ (wOu cI cJ cZ a ou)))))) ++ (wMo cI cJ cZ a (nI (E_rng (xs ((5 * kR) + 1)) 35)) td nd n ld sl bd pw dt st uc sv tl so ag ns ss rg hw ax fu si au px pg py)) H := hP
    have hD : va_D A (((wOr cI cJ cZ a px py td) ++ ((wFi cI cJ cZ a ld sl bd pw dt st uc sv tl so lm n nd) ++ ((wSa cI cJ cZ a ss rg hw ax fu si au ns) ++ ((wJo cI cJ cZ a jk jd js jt jn) ++ ((wEx cI cJ cZ a ef es el ev et eo) ++ (wOu cI cJ cZ a ou)))))) ++ (wMo cI cJ cZ a (nI (E_rng (xs ((5 * kR) + 1)) 35)) td nd n ld sl bd pw dt st uc sv tl so ag ns ss rg hw ax fu si au px pg py)) := zD_law hD
    obtain rfl : r_ = 0 := hr_.trans (F_sel_no hE1 _ _)
    refine lv_istore (lv' := [(6, .int 0), (5, .int (nI (E_rng (xs ((5 * kR) + 1)) 35))), (0, .ref b), (1, .ref (a 0)), (2, .ref (a 30)), (3, .ref (a 60)), (4, .int (nI (5 * kR)))]) hx hb dL_law_1853 hl (by decide) rfl (fun ls hl => ?_)
    refine lv_aload_n hx hb dL_law_1855 rfl (lv_at hl 4 rfl) ?_
    refine z_ri (va_runV (As := []) (rest := []) ⟨hx, hb, hml, hown, hts⟩ (c_X5_thrown l D cI cJ cZ a H.size (nI (E_rng (xs ((5 * kR) + 1)) 35)) td nd n ld sl bd pw dt st uc sv tl so ag ns ss rg hw ax fu si au px pg py) (cwV 0 hts gL_law_X5_thrown rfl rfl rfl (by decide +kernel) ⟨Nat.le_of_ble_eq_true rfl, Nat.le_of_ble_eq_true rfl⟩) (z_pv hK (zP_R hP) (zD_R hD) (q0 := 0) (ci := 5) rfl rfl zT_b zT_m) rfl rfl hl.1 rfl (lv_room (Nat.le_of_ble_eq_true rfl)) dL_law_1856 ⟨hcr, hsr⟩) hP hS hA (fun r_ _ H locs hr_ hP hS => ?_)
    subst hr_
    refine lv_iload hx hb dL_law_1859 (lv_at hl 1 rfl) ?_
    refine lv_icmp_eq (tgt := 1866) hx hb dL_law_1861 (by decide) (fun _ => ?_) (fun c9 => absurd rfl c9)
    refine lv_iload hx hb dL_law_1866 (lv_at hl 1 rfl) ?_
    refine lv_if_ne (tgt := 1883) hx hb dL_law_1868 (by decide) (fun _ => ?_) (fun c9 => absurd c9 hnz)
    refine lv_goto (tgt := 1941) hx hb dL_law_1883 (by decide) ?_
    exact kk H locs ls ⟨px, py, td, ld, sl, bd, pw, dt, st, uc, sv, tl, so, lm, n, nd, ss, rg, hw, ax, fu, si, au, ns, jk, jd, js, jt, jn, ef, es, el, ev, et, eo, nI (E_rng (xs ((5 * kR) + 1)) 35), pg, ag, ou, hR.mono, hP, hD⟩ hS (lv_sub hl [2, 3, 4, 5, 6] rfl)
set_option maxHeartbeats 8000000 in
set_option maxRecDepth 100000 in
theorem law_paid (p : Program) (l : Launch) (e : Env) (s : State) (m : MethodId) (below : List Frame) (meth : Method) (c : Code) (b L : Nat) (xs : Nat → Int32) (D : va_G) (cI cJ cZ : ClassId) (a : Nat → Nat) (A : Nat → Prop) (kR : Nat) (H : Heap) (locs : List Loc) (cells slots : Nat) (Q : State → Prop) (ls : Array Slot) (hZ : ZLw D cI cJ cZ a A kR H) : ZGo p l e s m below meth c b L xs D cI cJ cZ a A kR H locs cells slots Q ls 1886 := by
  intro hx hb hml hown hts hX hbl hbA hA hK hE hflg hkL hL hk hS hl hcr hsr kk
  obtain ⟨px, py, td, ld, sl, bd, pw, dt, st, uc, sv, tl, so, lm, n, nd, ss, rg, hw, ax, fu, si, au, ns, jk, jd, js, jt, jn, ef, es, el, ev, et, eo, th, pg, ag, ou, hR, hP, hD⟩ := hZ
  obtain ⟨t, ht, ht5, hjk, hF9, hL9, hS9, hJ9⟩ := id hR
  have hn : n ≤ 40 := hF9.1
  have hs : ns ≤ 16 := hS9.1
  have hj : jn < 512 := Nat.lt_of_le_of_lt hjk hk
  have hax := R_hax hS9
  have hmy := R_hmy hS9
  have hkk := hJ9.1
  refine lv_aload_n hx hb dL_law_1886 rfl (lv_at hl 1 rfl) ?_
  refine lv_aload_n hx hb dL_law_1887 rfl (lv_at hl 0 rfl) ?_
  refine lv_iload hx hb dL_law_1888 (lv_at hl 4 rfl) ?_
  refine lv_iconst (v := 1) hx hb dL_law_1890 (by decide) ?_
  refine lv_iadd hx hb dL_law_1891 ?_
  refine z_sld hx hb hX hbl hbA hS hL ((5 * kR) + 1) (z_iadd rfl (by decide)) (by omega) dL_law_1892 ?_
  refine lv_aload_n hx hb dL_law_1893 rfl (lv_at hl 3 rfl) ?_
  by_cases hE0 : E_rng (xs ((5 * kR) + 1)) 7 = 0
  · refine z_ciL (suf := (wMo cI cJ cZ a th td nd n ld sl bd pw dt st uc sv tl so ag ns ss rg hw ax fu si au px pg py)) (wc := ((wOr cI cJ cZ a px py td) ++ ((wFi cI cJ cZ a ld sl bd pw dt st uc sv tl so lm n nd) ++ ((wSa cI cJ cZ a ss rg hw ax fu si au ns) ++ ((wJo cI cJ cZ a jk jd js jt jn) ++ ((wEx cI cJ cZ a ef es el ev et eo) ++ (wOu cI cJ cZ a ou))))))) (w1 := ((wOr cI cJ cZ a px py td) ++ ((wFi cI cJ cZ a ld sl bd pw dt st uc sv tl so lm n nd) ++ ((wSa cI cJ cZ a ss rg hw ax fu si au ns) ++ ((wJo cI cJ cZ a jk jd js jt jn) ++ ((wEx cI cJ cZ a ef es el ev et eo) ++ (wOu cI cJ cZ a (F_sel (E_rng (xs ((5 * kR) + 1)) 7) (vp_updL ou 0 (py (ix (xs ((5 * kR) + 1))))) ou)))))))) (vx_runSW (As := [.ref (a 0), .int (xs ((5 * kR) + 1)), .ref (a 60)]) (rest := []) ⟨hx, hb, hml, hown, hts⟩ (c_L_paid l hflg D cI cJ cZ a H.size px py td ld sl bd pw dt st uc sv tl so lm n nd ss rg hw ax fu si au ns jk jd js jt jn ef es el ev et eo ou (xs ((5 * kR) + 1))) (vx_cwSW 3 hts gL_law_L_paid rfl rfl rfl (by decide +kernel) ⟨Nat.le_of_ble_eq_true rfl, Nat.le_of_ble_eq_true rfl⟩) (z_ps hK (zP_L hP) (zD_L hD) ZX_b (ZX_m hE hS (zF_L hD hS hA))) rfl rfl hl.1 rfl (lv_room (Nat.le_of_ble_eq_true rfl)) dL_law_1894 ⟨hcr, hsr⟩) hP hD hS hA (adrC.trans adrC.symm) (fun r_ H locs hr_ hP hS => ?_)
    have hP : va_P D vwCl (((wOr cI cJ cZ a px py td) ++ ((wFi cI cJ cZ a ld sl bd pw dt st uc sv tl so lm n nd) ++ ((wSa cI cJ cZ a ss rg hw ax fu si au ns) ++ ((wJo cI cJ cZ a jk jd js jt jn) ++ ((wEx cI cJ cZ a ef es el ev et eo) ++ (wOu cI cJ cZ a (vp_updL ou 0 (py (ix (xs ((5 * kR) + 1))))))))))) ++ (wMo cI cJ cZ a th td nd n ld sl bd pw dt st uc sv tl so ag ns ss rg hw ax fu si au px pg py)) H := by have h9 := hP; simp only [F_sel_yes hE0] at h9; exact h9
    have hD : va_D A (((wOr cI cJ cZ a px py td) ++ ((wFi cI cJ cZ a ld sl bd pw dt st uc sv tl so lm n nd) ++ ((wSa cI cJ cZ a ss rg hw ax fu si au ns) ++ ((wJo cI cJ cZ a jk jd js jt jn) ++ ((wEx cI cJ cZ a ef es el ev et eo) ++ (wOu cI cJ cZ a (vp_updL ou 0 (py (ix (xs ((5 * kR) + 1))))))))))) ++ (wMo cI cJ cZ a th td nd n ld sl bd pw dt st uc sv tl so ag ns ss rg hw ax fu si au px pg py)) := zD_law hD
    obtain rfl : r_ = 0 := hr_.trans (by rw [hE0]; decide)
    have hp9 := (p_paid kR t px py td ld sl bd pw dt st uc sv tl so lm n nd ss rg hw ax fu si au ns jk jd js jt jn ef es el ev et eo ag pg (xs ((5 * kR) + 1)) hR ht hk hE0)
    refine lv_istore (lv' := [(5, .int 0), (0, .ref b), (1, .ref (a 0)), (2, .ref (a 30)), (3, .ref (a 60)), (4, .int (nI (5 * kR)))]) hx hb dL_law_1897 hl (by decide) rfl (fun ls hl => ?_)
    refine lv_aload_n hx hb dL_law_1899 rfl (lv_at hl 3 rfl) ?_
    refine lv_aload_n hx hb dL_law_1900 rfl (lv_at hl 1 rfl) ?_
    refine lv_iload hx hb dL_law_1901 (lv_at hl 5 rfl) ?_
    refine lv_iconst (v := 1) hx hb dL_law_1903 (by decide) ?_
    refine lv_iadd hx hb dL_law_1904 ?_
    refine z_sld hx hb hX hbl hbA hS hL ((5 * kR) + 1) (z_iadd rfl (by decide)) (by omega) dL_law_1905 ?_
    refine z_clR (pre := ((wOr cI cJ cZ a px py td) ++ ((wFi cI cJ cZ a ld sl bd pw dt st uc sv tl so lm n nd) ++ ((wSa cI cJ cZ a ss rg hw ax fu si au ns) ++ ((wJo cI cJ cZ a jk jd js jt jn) ++ ((wEx cI cJ cZ a ef es el ev et eo) ++ (wOu cI cJ cZ a (vp_updL ou 0 (py (ix (xs ((5 * kR) + 1)))))))))))) (wc := (wMo cI cJ cZ a th td nd n ld sl bd pw dt st uc sv tl so ag ns ss rg hw ax fu si au px pg py)) (w1 := (wMo cI cJ cZ a (nI (E_rng (xs ((5 * kR) + 1)) 7)) td nd n ld sl bd pw dt st uc sv tl so ag ns ss rg hw ax fu si au px pg py)) (va_runV (As := [.int (xs ((5 * kR) + 1))]) (rest := []) ⟨hx, hb, hml, hown, hts⟩ (c_X5_paid l D cI cJ cZ a H.size th td nd n ld sl bd pw dt st uc sv tl so ag ns ss rg hw ax fu si au px pg py (xs ((5 * kR) + 1))) (cwV 1 hts gL_law_X5_paid rfl rfl rfl (by decide +kernel) ⟨Nat.le_of_ble_eq_true rfl, Nat.le_of_ble_eq_true rfl⟩) (z_pv hK (zP_R hP) (zD_R hD) (q0 := 0) (ci := 5) rfl rfl zT_b zT_m) rfl rfl hl.1 rfl (lv_room (Nat.le_of_ble_eq_true rfl)) dL_law_1906 ⟨hcr, hsr⟩) hP hD hS hA (adrM.trans adrM.symm) (fun r_ H locs hr_ hP hS => ?_)
    have heq : E_rng (xs ((5 * kR) + 1)) 7 = E_rng (xs ((5 * kR) + 1)) 7 := rfl
    have hE1 : E_rng (xs ((5 * kR) + 1)) 7 = 0 := heq.trans hE0
    have hth : nI (E_rng (xs ((5 * kR) + 1)) 7) = 0 := by rw [hE1]; decide
    have hP : va_P D vwCl (((wOr cI cJ cZ a px py td) ++ ((wFi cI cJ cZ a ld sl bd pw dt st uc sv tl so lm n nd) ++ ((wSa cI cJ cZ a ss rg hw ax fu si au ns) ++ ((wJo cI cJ cZ a jk jd js jt jn) ++ ((wEx cI cJ cZ a ef es el ev et eo) ++ (wOu cI cJ cZ a (vp_updL ou 0 (py (ix (xs ((5 * kR) + 1))))))))))) ++ (wMo cI cJ cZ a 0 td nd n ld sl bd pw dt st uc sv tl so ag ns ss rg hw ax fu si au px pg py)) H := by have h9 := hP; simp only [hth, F_sel_yes hE1] at h9; exact h9
    have hD : va_D A (((wOr cI cJ cZ a px py td) ++ ((wFi cI cJ cZ a ld sl bd pw dt st uc sv tl so lm n nd) ++ ((wSa cI cJ cZ a ss rg hw ax fu si au ns) ++ ((wJo cI cJ cZ a jk jd js jt jn) ++ ((wEx cI cJ cZ a ef es el ev et eo) ++ (wOu cI cJ cZ a (vp_updL ou 0 (py (ix (xs ((5 * kR) + 1))))))))))) ++ (wMo cI cJ cZ a 0 td nd n ld sl bd pw dt st uc sv tl so ag ns ss rg hw ax fu si au px pg py)) := zD_law hD
    obtain rfl : r_ = py (ix (xs ((5 * kR) + 1))) := hr_.trans (F_sel_yes hE1 _ _)
    refine lv_lstore (lv' := [(6, .long (py (ix (xs ((5 * kR) + 1))))), (5, .int 0), (0, .ref b), (1, .ref (a 0)), (2, .ref (a 30)), (3, .ref (a 60)), (4, .int (nI (5 * kR)))]) hx hb dL_law_1909 hl (by decide) rfl (fun ls hl => ?_)
    refine lv_aload_n hx hb dL_law_1911 rfl (lv_at hl 4 rfl) ?_
    refine z_ri (va_runV (As := []) (rest := []) ⟨hx, hb, hml, hown, hts⟩ (c_X5_thrown l D cI cJ cZ a H.size 0 td nd n ld sl bd pw dt st uc sv tl so ag ns ss rg hw ax fu si au px pg py) (cwV 0 hts gL_law_X5_thrown rfl rfl rfl (by decide +kernel) ⟨Nat.le_of_ble_eq_true rfl, Nat.le_of_ble_eq_true rfl⟩) (z_pv hK (zP_R hP) (zD_R hD) (q0 := 0) (ci := 5) rfl rfl zT_b zT_m) rfl rfl hl.1 rfl (lv_room (Nat.le_of_ble_eq_true rfl)) dL_law_1912 ⟨hcr, hsr⟩) hP hS hA (fun r_ _ H locs hr_ hP hS => ?_)
    subst hr_
    refine lv_iload hx hb dL_law_1915 (lv_at hl 1 rfl) ?_
    refine lv_icmp_eq (tgt := 1922) hx hb dL_law_1917 (by decide) (fun _ => ?_) (fun c9 => absurd (by decide) c9)
    refine lv_iload hx hb dL_law_1922 (lv_at hl 1 rfl) ?_
    refine lv_if_ne (tgt := 1938) hx hb dL_law_1924 (by decide) (fun c9 => absurd (by decide) c9) (fun _ => ?_)
    refine lv_aload_n hx hb dL_law_1927 rfl (lv_at hl 5 rfl) ?_
    refine lv_iconst (v := 0) hx hb dL_law_1928 (by decide) ?_
    refine z_lald hx hb hK hP 29 1 rfl rfl 0 (by decide) (by decide) rfl dL_law_1929 ?_
    refine lv_lload hx hb dL_law_1930 (lv_at hl 0 rfl) ?_
    have hc9 : lg_cmp ((vp_updL ou 0 (py (ix (xs ((5 * kR) + 1))))) 0) (py (ix (xs ((5 * kR) + 1)))) = 0 := z_cmp ((vp_updL_0 _ _).trans hp9.1.symm)
    refine W.lcmp hx hb dL_law_1932 ?_
    refine lv_if_eq (tgt := 1938) hx hb dL_law_1933 (by decide) (fun _ => ?_) (fun c9 => absurd hc9 c9)
    refine lv_goto (tgt := 1941) hx hb dL_law_1938 (by decide) ?_
    exact kk H locs ls ⟨px, py, td, ld, sl, bd, pw, dt, st, uc, sv, tl, so, lm, n, nd, ss, rg, hw, ax, fu, si, au, ns, jk, jd, js, jt, jn, ef, es, el, ev, et, eo, 0, pg, ag, (vp_updL ou 0 (py (ix (xs ((5 * kR) + 1))))), hp9.2, hP, hD⟩ hS (lv_sub hl [2, 3, 4, 5, 6] rfl)
  · refine z_ciL (suf := (wMo cI cJ cZ a th td nd n ld sl bd pw dt st uc sv tl so ag ns ss rg hw ax fu si au px pg py)) (wc := ((wOr cI cJ cZ a px py td) ++ ((wFi cI cJ cZ a ld sl bd pw dt st uc sv tl so lm n nd) ++ ((wSa cI cJ cZ a ss rg hw ax fu si au ns) ++ ((wJo cI cJ cZ a jk jd js jt jn) ++ ((wEx cI cJ cZ a ef es el ev et eo) ++ (wOu cI cJ cZ a ou))))))) (w1 := ((wOr cI cJ cZ a px py td) ++ ((wFi cI cJ cZ a ld sl bd pw dt st uc sv tl so lm n nd) ++ ((wSa cI cJ cZ a ss rg hw ax fu si au ns) ++ ((wJo cI cJ cZ a jk jd js jt jn) ++ ((wEx cI cJ cZ a ef es el ev et eo) ++ (wOu cI cJ cZ a (F_sel (E_rng (xs ((5 * kR) + 1)) 7) (vp_updL ou 0 (py (ix (xs ((5 * kR) + 1))))) ou)))))))) (vx_runSW (As := [.ref (a 0), .int (xs ((5 * kR) + 1)), .ref (a 60)]) (rest := []) ⟨hx, hb, hml, hown, hts⟩ (c_L_paid l hflg D cI cJ cZ a H.size px py td ld sl bd pw dt st uc sv tl so lm n nd ss rg hw ax fu si au ns jk jd js jt jn ef es el ev et eo ou (xs ((5 * kR) + 1))) (vx_cwSW 3 hts gL_law_L_paid rfl rfl rfl (by decide +kernel) ⟨Nat.le_of_ble_eq_true rfl, Nat.le_of_ble_eq_true rfl⟩) (z_ps hK (zP_L hP) (zD_L hD) ZX_b (ZX_m hE hS (zF_L hD hS hA))) rfl rfl hl.1 rfl (lv_room (Nat.le_of_ble_eq_true rfl)) dL_law_1894 ⟨hcr, hsr⟩) hP hD hS hA (adrC.trans adrC.symm) (fun r_ H locs hr_ hP hS => ?_)
    have hP : va_P D vwCl (((wOr cI cJ cZ a px py td) ++ ((wFi cI cJ cZ a ld sl bd pw dt st uc sv tl so lm n nd) ++ ((wSa cI cJ cZ a ss rg hw ax fu si au ns) ++ ((wJo cI cJ cZ a jk jd js jt jn) ++ ((wEx cI cJ cZ a ef es el ev et eo) ++ (wOu cI cJ cZ a ou)))))) ++ (wMo cI cJ cZ a th td nd n ld sl bd pw dt st uc sv tl so ag ns ss rg hw ax fu si au px pg py)) H := by have h9 := hP; simp only [F_sel_no hE0] at h9; exact h9
    have hD : va_D A (((wOr cI cJ cZ a px py td) ++ ((wFi cI cJ cZ a ld sl bd pw dt st uc sv tl so lm n nd) ++ ((wSa cI cJ cZ a ss rg hw ax fu si au ns) ++ ((wJo cI cJ cZ a jk jd js jt jn) ++ ((wEx cI cJ cZ a ef es el ev et eo) ++ (wOu cI cJ cZ a ou)))))) ++ (wMo cI cJ cZ a th td nd n ld sl bd pw dt st uc sv tl so ag ns ss rg hw ax fu si au px pg py)) := zD_law hD
    subst hr_
    have hnz : ¬ (nI (E_rng (xs ((5 * kR) + 1)) 7)) = 0 := z_nz hE0 (by unfold E_rng; (repeat' split); all_goals decide)
    refine lv_istore (lv' := [(5, .int (nI (E_rng (xs ((5 * kR) + 1)) 7))), (0, .ref b), (1, .ref (a 0)), (2, .ref (a 30)), (3, .ref (a 60)), (4, .int (nI (5 * kR)))]) hx hb dL_law_1897 hl (by decide) rfl (fun ls hl => ?_)
    refine lv_aload_n hx hb dL_law_1899 rfl (lv_at hl 3 rfl) ?_
    refine lv_aload_n hx hb dL_law_1900 rfl (lv_at hl 1 rfl) ?_
    refine lv_iload hx hb dL_law_1901 (lv_at hl 5 rfl) ?_
    refine lv_iconst (v := 1) hx hb dL_law_1903 (by decide) ?_
    refine lv_iadd hx hb dL_law_1904 ?_
    refine z_sld hx hb hX hbl hbA hS hL ((5 * kR) + 1) (z_iadd rfl (by decide)) (by omega) dL_law_1905 ?_
    refine z_clR (pre := ((wOr cI cJ cZ a px py td) ++ ((wFi cI cJ cZ a ld sl bd pw dt st uc sv tl so lm n nd) ++ ((wSa cI cJ cZ a ss rg hw ax fu si au ns) ++ ((wJo cI cJ cZ a jk jd js jt jn) ++ ((wEx cI cJ cZ a ef es el ev et eo) ++ (wOu cI cJ cZ a ou))))))) (wc := (wMo cI cJ cZ a th td nd n ld sl bd pw dt st uc sv tl so ag ns ss rg hw ax fu si au px pg py)) (w1 := (wMo cI cJ cZ a (nI (E_rng (xs ((5 * kR) + 1)) 7)) td nd n ld sl bd pw dt st uc sv tl so ag ns ss rg hw ax fu si au px pg py)) (va_runV (As := [.int (xs ((5 * kR) + 1))]) (rest := []) ⟨hx, hb, hml, hown, hts⟩ (c_X5_paid l D cI cJ cZ a H.size th td nd n ld sl bd pw dt st uc sv tl so ag ns ss rg hw ax fu si au px pg py (xs ((5 * kR) + 1))) (cwV 1 hts gL_law_X5_paid rfl rfl rfl (by decide +kernel) ⟨Nat.le_of_ble_eq_true rfl, Nat.le_of_ble_eq_true rfl⟩) (z_pv hK (zP_R hP) (zD_R hD) (q0 := 0) (ci := 5) rfl rfl zT_b zT_m) rfl rfl hl.1 rfl (lv_room (Nat.le_of_ble_eq_true rfl)) dL_law_1906 ⟨hcr, hsr⟩) hP hD hS hA (adrM.trans adrM.symm) (fun r_ H locs hr_ hP hS => ?_)
    have heq : E_rng (xs ((5 * kR) + 1)) 7 = E_rng (xs ((5 * kR) + 1)) 7 := rfl
    have hE1 : ¬ E_rng (xs ((5 * kR) + 1)) 7 = 0 := fun h => hE0 (heq.symm.trans h)
    have hP : va_P D vwCl (((wOr cI cJ cZ a px py td) ++ ((wFi cI cJ cZ a ld sl bd pw dt st uc sv tl so lm n nd) ++ ((wSa cI cJ cZ a ss rg hw ax fu si au ns) ++ ((wJo cI cJ cZ a jk jd js jt jn) ++ ((wEx cI cJ cZ a ef es el ev et eo) ++ (wOu cI cJ cZ a ou)))))) ++ (wMo cI cJ cZ a (nI (E_rng (xs ((5 * kR) + 1)) 7)) td nd n ld sl bd pw dt st uc sv tl so ag ns ss rg hw ax fu si au px pg py)) H := hP
    have hD : va_D A (((wOr cI cJ cZ a px py td) ++ ((wFi cI cJ cZ a ld sl bd pw dt st uc sv tl so lm n nd) ++ ((wSa cI cJ cZ a ss rg hw ax fu si au ns) ++ ((wJo cI cJ cZ a jk jd js jt jn) ++ ((wEx cI cJ cZ a ef es el ev et eo) ++ (wOu cI cJ cZ a ou)))))) ++ (wMo cI cJ cZ a (nI (E_rng (xs ((5 * kR) + 1)) 7)) td nd n ld sl bd pw dt st uc sv tl so ag ns ss rg hw ax fu si au px pg py)) := zD_law hD
    obtain rfl : r_ = 0 := hr_.trans (F_sel_no hE1 _ _)
    refine lv_lstore (lv' := [(6, .long 0), (5, .int (nI (E_rng (xs ((5 * kR) + 1)) 7))), (0, .ref b), (1, .ref (a 0)), (2, .ref (a 30)), (3, .ref (a 60)), (4, .int (nI (5 * kR)))]) hx hb dL_law_1909 hl (by decide) rfl (fun ls hl => ?_)
    refine lv_aload_n hx hb dL_law_1911 rfl (lv_at hl 4 rfl) ?_
    refine z_ri (va_runV (As := []) (rest := []) ⟨hx, hb, hml, hown, hts⟩ (c_X5_thrown l D cI cJ cZ a H.size (nI (E_rng (xs ((5 * kR) + 1)) 7)) td nd n ld sl bd pw dt st uc sv tl so ag ns ss rg hw ax fu si au px pg py) (cwV 0 hts gL_law_X5_thrown rfl rfl rfl (by decide +kernel) ⟨Nat.le_of_ble_eq_true rfl, Nat.le_of_ble_eq_true rfl⟩) (z_pv hK (zP_R hP) (zD_R hD) (q0 := 0) (ci := 5) rfl rfl zT_b zT_m) rfl rfl hl.1 rfl (lv_room (Nat.le_of_ble_eq_true rfl)) dL_law_1912 ⟨hcr, hsr⟩) hP hS hA (fun r_ _ H locs hr_ hP hS => ?_)
    subst hr_
    refine lv_iload hx hb dL_law_1915 (lv_at hl 1 rfl) ?_
    refine lv_icmp_eq (tgt := 1922) hx hb dL_law_1917 (by decide) (fun _ => ?_) (fun c9 => absurd rfl c9)
    refine lv_iload hx hb dL_law_1922 (lv_at hl 1 rfl) ?_
    refine lv_if_ne (tgt := 1938) hx hb dL_law_1924 (by decide) (fun _ => ?_) (fun c9 => absurd c9 hnz)
    refine lv_goto (tgt := 1941) hx hb dL_law_1938 (by decide) ?_
    exact kk H locs ls ⟨px, py, td, ld, sl, bd, pw, dt, st, uc, sv, tl, so, lm, n, nd, ss, rg, hw, ax, fu, si, au, ns, jk, jd, js, jt, jn, ef, es, el, ev, et, eo, nI (E_rng (xs ((5 * kR) + 1)) 7), pg, ag, ou, hR.mono, hP, hD⟩ hS (lv_sub hl [2, 3, 4, 5, 6] rfl)
