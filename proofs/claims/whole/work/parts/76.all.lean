set_option maxHeartbeats 4000000 in
set_option maxRecDepth 100000 in
theorem lc_0 {p : Program} {l : Launch} {e : Env} {s : State} {m : MethodId} {below : List Frame} {meth : Method} {c : Code} {b L : Nat} {ys : Nat → Int} {D : va_G} {cy : Nat → ClassId} {ad : Nat → Nat} {jf : Nat → Int64} {A : Nat → Prop} {u : gS} {H : Heap} {locs : List Loc} {ls : Array Slot} {cells slots : Nat} {Q : State → Prop} {i : Int} (E : lE p l s m meth c b L ys D cy A) (hR : Rel cy u) (hG : gH D cy ad jf A u H) (hS : va_S A s.heap H locs) (hl : lv_has ls 8 (lV ad b i)) (hi : 0 ≤ i ∧ i + 6 ≤ (L : Int)) (hcs : cells + 3 ≤ 601024 ∧ slots + 300 ≤ 7293034) (kk : ∀ (u' : gS) (jf' : Nat → Int64) (H' : Heap) (locs' : List Loc) (ls' : Array Slot), Rel cy u' → gH D cy ad jf' A u' H' → va_S A s.heap H' locs' → lv_has ls' 8 (lV ad b i) → W p l e room_1 s m #[Value.ref b] below meth c H' locs' (cells + 3) (slots + 300) Q (F0 m 1602 ls' [])) : W p l e room_1 s m #[Value.ref b] below meth c H locs cells slots Q (F0 m 192 ls []) := by
  obtain ⟨hx, hb, hml, hown, hts, hX, hbl, hbA, hC, hTh, hl9, hys, hL⟩ := E
  have hl : lv_has ls 8 [(0, .ref b), (1, .ref (ad 0)), (2, .ref (ad 8)), (3, .ref (ad 64)), (4, .int (zI i))] := hl
  obtain ⟨p1, e1⟩ : ∃ z : Int, z = ys (i + 1).toNat := ⟨_, rfl⟩
  have j1 : -2147483648 ≤ p1 ∧ p1 < 2147483648 := by rw [e1]; exact hys _
  obtain ⟨p2, e2⟩ : ∃ z : Int, z = ys (i + 2).toNat := ⟨_, rfl⟩
  have j2 : -2147483648 ≤ p2 ∧ p2 < 2147483648 := by rw [e2]; exact hys _
  obtain ⟨p3, e3⟩ : ∃ z : Int, z = ys (i + 3).toNat := ⟨_, rfl⟩
  have j3 : -2147483648 ≤ p3 ∧ p3 < 2147483648 := by rw [e3]; exact hys _
  obtain ⟨p4, e4⟩ : ∃ z : Int, z = ys (i + 4).toNat := ⟨_, rfl⟩
  have j4 : -2147483648 ≤ p4 ∧ p4 < 2147483648 := by rw [e4]; exact hys _
  refine lv_aload_n hx hb dL_law_192 rfl (lv_at hl 1 rfl) ?_
  refine l_arg (k := 1) (p0 := 0) (p4 := 4) hx hb hX hbl hbA hS hl rfl rfl (by omega) (by omega) (by omega) e1 dL_law_193 dL_law_194 dL_law_196 dL_law_197 dL_law_198 ?_
  refine l_arg (k := 2) (p0 := 0) (p4 := 4) hx hb hX hbl hbA hS hl rfl rfl (by omega) (by omega) (by omega) e2 dL_law_199 dL_law_200 dL_law_202 dL_law_203 dL_law_204 ?_
  refine l_arg (k := 3) (p0 := 0) (p4 := 4) hx hb hX hbl hbA hS hl rfl rfl (by omega) (by omega) (by omega) e3 dL_law_205 dL_law_206 dL_law_208 dL_law_209 dL_law_210 ?_
  refine l_arg (k := 4) (p0 := 0) (p4 := 4) hx hb hX hbl hbA hS hl rfl rfl (by omega) (by omega) (by omega) e4 dL_law_211 dL_law_212 dL_law_214 dL_law_215 dL_law_216 ?_
  refine z_if_eq (tgt := 224) hx hb dL_law_217 (by decide) (by omega) (by omega) (fun cb0 => ?_) (fun cb0 => ?_)
  · have jb : (0 : Int) = 0 ∨ (0 : Int) = 1 := by decide
    refine z_iconst hx hb dL_law_224 ?_
    refine g_calli (va_runV (As := [.int (zI p1), .int (zI p2), .int (zI p3), .int (zI 0)]) (rest := []) ⟨hx, hb, hml, hown, hts⟩ (kX11_land l D cy ad jf A u p1 p2 p3 0 j1 j2 j3 jb hR.kd9) (cwV 4 hts gL_law_X11_land rfl rfl rfl (by decide +kernel) ⟨Nat.le_of_ble_eq_true rfl, Nat.le_of_ble_eq_true rfl⟩) (g_preV (C := RX11) hG hC hS 0 (by decide) rfl rfl) rfl rfl hl.1 rfl (lv_room (Nat.le_of_ble_eq_true rfl)) dL_law_225 ⟨by show _ ≤ 601024; omega, by show _ ≤ 7293034; omega⟩) hS (fun r1 u1 H locs hp1 hG hS => ?_)
    obtain ⟨q1, q2, q3⟩ := re_land hR p1 p2 p3 0 jb
    obtain ⟨hr1, hu1⟩ := hp1
    rw [← hu1] at q1 q2 q3
    have hM := hR.m.kept q1
    refine lv_aload_n hx hb dL_law_228 rfl (lv_at hl 2 rfl) ?_
    refine l_arg (k := 1) (p0 := 0) (p4 := 4) hx hb hX hbl hbA hS hl rfl rfl (by omega) (by omega) (by omega) e1 dL_law_229 dL_law_230 dL_law_232 dL_law_233 dL_law_234 ?_
    refine l_arg (k := 2) (p0 := 0) (p4 := 4) hx hb hX hbl hbA hS hl rfl rfl (by omega) (by omega) (by omega) e2 dL_law_235 dL_law_236 dL_law_238 dL_law_239 dL_law_240 ?_
    refine l_arg (k := 3) (p0 := 0) (p4 := 4) hx hb hX hbl hbA hS hl rfl rfl (by omega) (by omega) (by omega) e3 dL_law_241 dL_law_242 dL_law_244 dL_law_245 dL_law_246 ?_
    refine l_arg (k := 4) (p0 := 0) (p4 := 4) hx hb hX hbl hbA hS hl rfl rfl (by omega) (by omega) (by omega) e4 dL_law_247 dL_law_248 dL_law_250 dL_law_251 dL_law_252 ?_
    refine z_if_eq (tgt := 260) hx hb dL_law_253 (by decide) (by omega) (by omega) (fun cb1 => ?_) (fun cb1 => ?_)
    · refine z_iconst hx hb dL_law_260 ?_
      refine g_calli (va_runV (As := [.int (zI p1), .int (zI p2), .int (zI p3), .int (zI 0)]) (rest := [.int r1]) ⟨hx, hb, hml, hown, hts⟩ (kX12_land l D cy ad jf A u1 p1 p2 p3 0 j1 j2 j3 jb hM.b31) (cwV 4 hts gL_law_X12_land rfl rfl rfl (by decide +kernel) ⟨Nat.le_of_ble_eq_true rfl, Nat.le_of_ble_eq_true rfl⟩) (g_preV (C := RX12) hG hC hS 8 (by decide) rfl rfl) rfl rfl hl.1 rfl (lv_room (Nat.le_of_ble_eq_true rfl)) dL_law_261 ⟨by show _ ≤ 601024; omega, by show _ ≤ 7293034; omega⟩) hS (fun r2 u2 H locs hp2 hG hS => ?_)
      refine lv_icmp_eq (tgt := 1602) hx hb dL_law_264 (by decide) (fun c9 => ?_) (fun c9 => absurd ?_ c9)
      · refine W.widen (k := cells + 3) (n := slots + 300) (by omega) (by omega) ?_
        exact kk u2 jf _ _ _ (by rw [hp2.2]; exact q3) hG hS hl
      · rw [hr1, q2, hp2.1]
    · exact absurd cb0 cb1
  · have jb : (1 : Int) = 0 ∨ (1 : Int) = 1 := by decide
    refine z_iconst hx hb dL_law_220 ?_
    refine lv_goto (tgt := 225) hx hb dL_law_221 (by decide) ?_
    refine g_calli (va_runV (As := [.int (zI p1), .int (zI p2), .int (zI p3), .int (zI 1)]) (rest := []) ⟨hx, hb, hml, hown, hts⟩ (kX11_land l D cy ad jf A u p1 p2 p3 1 j1 j2 j3 jb hR.kd9) (cwV 4 hts gL_law_X11_land rfl rfl rfl (by decide +kernel) ⟨Nat.le_of_ble_eq_true rfl, Nat.le_of_ble_eq_true rfl⟩) (g_preV (C := RX11) hG hC hS 0 (by decide) rfl rfl) rfl rfl hl.1 rfl (lv_room (Nat.le_of_ble_eq_true rfl)) dL_law_225 ⟨by show _ ≤ 601024; omega, by show _ ≤ 7293034; omega⟩) hS (fun r1 u1 H locs hp1 hG hS => ?_)
    obtain ⟨q1, q2, q3⟩ := re_land hR p1 p2 p3 1 jb
    obtain ⟨hr1, hu1⟩ := hp1
    rw [← hu1] at q1 q2 q3
    have hM := hR.m.kept q1
    refine lv_aload_n hx hb dL_law_228 rfl (lv_at hl 2 rfl) ?_
    refine l_arg (k := 1) (p0 := 0) (p4 := 4) hx hb hX hbl hbA hS hl rfl rfl (by omega) (by omega) (by omega) e1 dL_law_229 dL_law_230 dL_law_232 dL_law_233 dL_law_234 ?_
    refine l_arg (k := 2) (p0 := 0) (p4 := 4) hx hb hX hbl hbA hS hl rfl rfl (by omega) (by omega) (by omega) e2 dL_law_235 dL_law_236 dL_law_238 dL_law_239 dL_law_240 ?_
    refine l_arg (k := 3) (p0 := 0) (p4 := 4) hx hb hX hbl hbA hS hl rfl rfl (by omega) (by omega) (by omega) e3 dL_law_241 dL_law_242 dL_law_244 dL_law_245 dL_law_246 ?_
    refine l_arg (k := 4) (p0 := 0) (p4 := 4) hx hb hX hbl hbA hS hl rfl rfl (by omega) (by omega) (by omega) e4 dL_law_247 dL_law_248 dL_law_250 dL_law_251 dL_law_252 ?_
    refine z_if_eq (tgt := 260) hx hb dL_law_253 (by decide) (by omega) (by omega) (fun cb1 => ?_) (fun cb1 => ?_)
    · exact absurd cb1 cb0
    · refine z_iconst hx hb dL_law_256 ?_
      refine lv_goto (tgt := 261) hx hb dL_law_257 (by decide) ?_
      refine g_calli (va_runV (As := [.int (zI p1), .int (zI p2), .int (zI p3), .int (zI 1)]) (rest := [.int r1]) ⟨hx, hb, hml, hown, hts⟩ (kX12_land l D cy ad jf A u1 p1 p2 p3 1 j1 j2 j3 jb hM.b31) (cwV 4 hts gL_law_X12_land rfl rfl rfl (by decide +kernel) ⟨Nat.le_of_ble_eq_true rfl, Nat.le_of_ble_eq_true rfl⟩) (g_preV (C := RX12) hG hC hS 8 (by decide) rfl rfl) rfl rfl hl.1 rfl (lv_room (Nat.le_of_ble_eq_true rfl)) dL_law_261 ⟨by show _ ≤ 601024; omega, by show _ ≤ 7293034; omega⟩) hS (fun r2 u2 H locs hp2 hG hS => ?_)
      refine lv_icmp_eq (tgt := 1602) hx hb dL_law_264 (by decide) (fun c9 => ?_) (fun c9 => absurd ?_ c9)
      · refine W.widen (k := cells + 3) (n := slots + 300) (by omega) (by omega) ?_
        exact kk u2 jf _ _ _ (by rw [hp2.2]; exact q3) hG hS hl
      · rw [hr1, q2, hp2.1]
set_option maxHeartbeats 4000000 in
set_option maxRecDepth 100000 in
theorem lc_1 {p : Program} {l : Launch} {e : Env} {s : State} {m : MethodId} {below : List Frame} {meth : Method} {c : Code} {b L : Nat} {ys : Nat → Int} {D : va_G} {cy : Nat → ClassId} {ad : Nat → Nat} {jf : Nat → Int64} {A : Nat → Prop} {u : gS} {H : Heap} {locs : List Loc} {ls : Array Slot} {cells slots : Nat} {Q : State → Prop} {i : Int} (E : lE p l s m meth c b L ys D cy A) (hR : Rel cy u) (hG : gH D cy ad jf A u H) (hS : va_S A s.heap H locs) (hl : lv_has ls 8 (lV ad b i)) (hi : 0 ≤ i ∧ i + 6 ≤ (L : Int)) (hcs : cells + 3 ≤ 601024 ∧ slots + 300 ≤ 7293034) (kk : ∀ (u' : gS) (jf' : Nat → Int64) (H' : Heap) (locs' : List Loc) (ls' : Array Slot), Rel cy u' → gH D cy ad jf' A u' H' → va_S A s.heap H' locs' → lv_has ls' 8 (lV ad b i) → W p l e room_1 s m #[Value.ref b] below meth c H' locs' (cells + 3) (slots + 300) Q (F0 m 1602 ls' [])) : W p l e room_1 s m #[Value.ref b] below meth c H locs cells slots Q (F0 m 269 ls []) := by
  obtain ⟨hx, hb, hml, hown, hts, hX, hbl, hbA, hC, hTh, hl9, hys, hL⟩ := E
  have hl : lv_has ls 8 [(0, .ref b), (1, .ref (ad 0)), (2, .ref (ad 8)), (3, .ref (ad 64)), (4, .int (zI i))] := hl
  obtain ⟨p1, e1⟩ : ∃ z : Int, z = ys (i + 1).toNat := ⟨_, rfl⟩
  have j1 : -2147483648 ≤ p1 ∧ p1 < 2147483648 := by rw [e1]; exact hys _
  obtain ⟨p2, e2⟩ : ∃ z : Int, z = ys (i + 2).toNat := ⟨_, rfl⟩
  have j2 : -2147483648 ≤ p2 ∧ p2 < 2147483648 := by rw [e2]; exact hys _
  refine lv_aload_n hx hb dL_law_269 rfl (lv_at hl 1 rfl) ?_
  refine l_arg (k := 1) (p0 := 0) (p4 := 4) hx hb hX hbl hbA hS hl rfl rfl (by omega) (by omega) (by omega) e1 dL_law_270 dL_law_271 dL_law_273 dL_law_274 dL_law_275 ?_
  refine l_arg (k := 2) (p0 := 0) (p4 := 4) hx hb hX hbl hbA hS hl rfl rfl (by omega) (by omega) (by omega) e2 dL_law_276 dL_law_277 dL_law_279 dL_law_280 dL_law_281 ?_
  refine g_calli (va_runV (As := [.int (zI p1), .int (zI p2)]) (rest := []) ⟨hx, hb, hml, hown, hts⟩ (kX11_isLand l D cy ad jf A u p1 p2 j1 j2 hR.kd9) (cwV 2 hts gL_law_X11_isLand rfl rfl rfl (by decide +kernel) ⟨Nat.le_of_ble_eq_true rfl, Nat.le_of_ble_eq_true rfl⟩) (g_preV (C := RX11) hG hC hS 0 (by decide) rfl rfl) rfl rfl hl.1 rfl (lv_room (Nat.le_of_ble_eq_true rfl)) dL_law_282 ⟨by show _ ≤ 601024; omega, by show _ ≤ 7293034; omega⟩) hS (fun r1 u1 H locs hp1 hG hS => ?_)
  obtain ⟨hr1, hu1⟩ := hp1
  rw [hu1] at hG
  have hM := hR.m
  refine lv_aload_n hx hb dL_law_285 rfl (lv_at hl 2 rfl) ?_
  refine l_arg (k := 1) (p0 := 0) (p4 := 4) hx hb hX hbl hbA hS hl rfl rfl (by omega) (by omega) (by omega) e1 dL_law_286 dL_law_287 dL_law_289 dL_law_290 dL_law_291 ?_
  refine l_arg (k := 2) (p0 := 0) (p4 := 4) hx hb hX hbl hbA hS hl rfl rfl (by omega) (by omega) (by omega) e2 dL_law_292 dL_law_293 dL_law_295 dL_law_296 dL_law_297 ?_
  refine g_calli (va_runV (As := [.int (zI p1), .int (zI p2)]) (rest := [.int r1]) ⟨hx, hb, hml, hown, hts⟩ (kX12_isLand l D cy ad jf A u p1 p2 j1 j2 hM.b31) (cwV 2 hts gL_law_X12_isLand rfl rfl rfl (by decide +kernel) ⟨Nat.le_of_ble_eq_true rfl, Nat.le_of_ble_eq_true rfl⟩) (g_preV (C := RX12) hG hC hS 8 (by decide) rfl rfl) rfl rfl hl.1 rfl (lv_room (Nat.le_of_ble_eq_true rfl)) dL_law_298 ⟨by show _ ≤ 601024; omega, by show _ ≤ 7293034; omega⟩) hS (fun r2 u2 H locs hp2 hG hS => ?_)
  rw [hp2.2] at hG
  refine lv_icmp_eq (tgt := 1602) hx hb dL_law_301 (by decide) (fun c9 => ?_) (fun c9 => absurd ?_ c9)
  · refine W.widen (k := cells + 3) (n := slots + 300) (by omega) (by omega) ?_
    exact kk u jf _ _ _ (hR) hG hS hl
  · rw [hr1, hp2.1, re_isLand hR p1 p2]
set_option maxHeartbeats 4000000 in
set_option maxRecDepth 100000 in
theorem lc_2 {p : Program} {l : Launch} {e : Env} {s : State} {m : MethodId} {below : List Frame} {meth : Method} {c : Code} {b L : Nat} {ys : Nat → Int} {D : va_G} {cy : Nat → ClassId} {ad : Nat → Nat} {jf : Nat → Int64} {A : Nat → Prop} {u : gS} {H : Heap} {locs : List Loc} {ls : Array Slot} {cells slots : Nat} {Q : State → Prop} {i : Int} (E : lE p l s m meth c b L ys D cy A) (hR : Rel cy u) (hG : gH D cy ad jf A u H) (hS : va_S A s.heap H locs) (hl : lv_has ls 8 (lV ad b i)) (hi : 0 ≤ i ∧ i + 6 ≤ (L : Int)) (hcs : cells + 3 ≤ 601024 ∧ slots + 300 ≤ 7293034) (kk : ∀ (u' : gS) (jf' : Nat → Int64) (H' : Heap) (locs' : List Loc) (ls' : Array Slot), Rel cy u' → gH D cy ad jf' A u' H' → va_S A s.heap H' locs' → lv_has ls' 8 (lV ad b i) → W p l e room_1 s m #[Value.ref b] below meth c H' locs' (cells + 3) (slots + 300) Q (F0 m 1602 ls' [])) : W p l e room_1 s m #[Value.ref b] below meth c H locs cells slots Q (F0 m 306 ls []) := by
  obtain ⟨hx, hb, hml, hown, hts, hX, hbl, hbA, hC, hTh, hl9, hys, hL⟩ := E
  have hl : lv_has ls 8 [(0, .ref b), (1, .ref (ad 0)), (2, .ref (ad 8)), (3, .ref (ad 64)), (4, .int (zI i))] := hl
  obtain ⟨p1, e1⟩ : ∃ z : Int, z = ys (i + 1).toNat := ⟨_, rfl⟩
  have j1 : -2147483648 ≤ p1 ∧ p1 < 2147483648 := by rw [e1]; exact hys _
  obtain ⟨p2, e2⟩ : ∃ z : Int, z = ys (i + 2).toNat := ⟨_, rfl⟩
  have j2 : -2147483648 ≤ p2 ∧ p2 < 2147483648 := by rw [e2]; exact hys _
  obtain ⟨p3, e3⟩ : ∃ z : Int, z = ys (i + 3).toNat := ⟨_, rfl⟩
  have j3 : -2147483648 ≤ p3 ∧ p3 < 2147483648 := by rw [e3]; exact hys _
  obtain ⟨p4, e4⟩ : ∃ z : Int, z = ys (i + 4).toNat := ⟨_, rfl⟩
  have j4 : -2147483648 ≤ p4 ∧ p4 < 2147483648 := by rw [e4]; exact hys _
  refine lv_aload_n hx hb dL_law_306 rfl (lv_at hl 1 rfl) ?_
  refine l_arg (k := 1) (p0 := 0) (p4 := 4) hx hb hX hbl hbA hS hl rfl rfl (by omega) (by omega) (by omega) e1 dL_law_307 dL_law_308 dL_law_310 dL_law_311 dL_law_312 ?_
  refine l_arg (k := 2) (p0 := 0) (p4 := 4) hx hb hX hbl hbA hS hl rfl rfl (by omega) (by omega) (by omega) e2 dL_law_313 dL_law_314 dL_law_316 dL_law_317 dL_law_318 ?_
  refine l_arg (k := 3) (p0 := 0) (p4 := 4) hx hb hX hbl hbA hS hl rfl rfl (by omega) (by omega) (by omega) e3 dL_law_319 dL_law_320 dL_law_322 dL_law_323 dL_law_324 ?_
  refine l_arg (k := 4) (p0 := 0) (p4 := 4) hx hb hX hbl hbA hS hl rfl rfl (by omega) (by omega) (by omega) e4 dL_law_325 dL_law_326 dL_law_328 dL_law_329 dL_law_330 ?_
  refine g_calli (va_runV (As := [.int (zI p1), .int (zI p2), .int (zI p3), .int (zI p4)]) (rest := []) ⟨hx, hb, hml, hown, hts⟩ (kX11_tide l D cy ad jf A u p1 p2 p3 p4 j1 j2 j3 j4 hR.k10 hR.k11) (cwV 4 hts gL_law_X11_tide rfl rfl rfl (by decide +kernel) ⟨Nat.le_of_ble_eq_true rfl, Nat.le_of_ble_eq_true rfl⟩) (g_preV (C := RX11) hG hC hS 0 (by decide) rfl rfl) rfl rfl hl.1 rfl (lv_room (Nat.le_of_ble_eq_true rfl)) dL_law_331 ⟨by show _ ≤ 601024; omega, by show _ ≤ 7293034; omega⟩) hS (fun r1 u1 H locs hp1 hG hS => ?_)
  obtain ⟨q1, q2, q3⟩ := re_tide hR p1 p2 p3 p4
  obtain ⟨hr1, hu1⟩ := hp1
  rw [← hu1] at q1 q2 q3
  have hM := hR.m.kept q1
  refine lv_aload_n hx hb dL_law_334 rfl (lv_at hl 2 rfl) ?_
  refine l_arg (k := 1) (p0 := 0) (p4 := 4) hx hb hX hbl hbA hS hl rfl rfl (by omega) (by omega) (by omega) e1 dL_law_335 dL_law_336 dL_law_338 dL_law_339 dL_law_340 ?_
  refine l_arg (k := 2) (p0 := 0) (p4 := 4) hx hb hX hbl hbA hS hl rfl rfl (by omega) (by omega) (by omega) e2 dL_law_341 dL_law_342 dL_law_344 dL_law_345 dL_law_346 ?_
  refine l_arg (k := 3) (p0 := 0) (p4 := 4) hx hb hX hbl hbA hS hl rfl rfl (by omega) (by omega) (by omega) e3 dL_law_347 dL_law_348 dL_law_350 dL_law_351 dL_law_352 ?_
  refine l_arg (k := 4) (p0 := 0) (p4 := 4) hx hb hX hbl hbA hS hl rfl rfl (by omega) (by omega) (by omega) e4 dL_law_353 dL_law_354 dL_law_356 dL_law_357 dL_law_358 ?_
  refine g_calli (va_runV (As := [.int (zI p1), .int (zI p2), .int (zI p3), .int (zI p4)]) (rest := [.int r1]) ⟨hx, hb, hml, hown, hts⟩ (kX12_tide l D cy ad jf A u1 p1 p2 p3 p4 j1 j2 j3 j4 hM.i32 hM.i33) (cwV 4 hts gL_law_X12_tide rfl rfl rfl (by decide +kernel) ⟨Nat.le_of_ble_eq_true rfl, Nat.le_of_ble_eq_true rfl⟩) (g_preV (C := RX12) hG hC hS 8 (by decide) rfl rfl) rfl rfl hl.1 rfl (lv_room (Nat.le_of_ble_eq_true rfl)) dL_law_359 ⟨by show _ ≤ 601024; omega, by show _ ≤ 7293034; omega⟩) hS (fun r2 u2 H locs hp2 hG hS => ?_)
  refine lv_icmp_eq (tgt := 1602) hx hb dL_law_362 (by decide) (fun c9 => ?_) (fun c9 => absurd ?_ c9)
  · refine W.widen (k := cells + 3) (n := slots + 300) (by omega) (by omega) ?_
    exact kk u2 jf _ _ _ (by rw [hp2.2]; exact q3) hG hS hl
  · rw [hr1, q2, hp2.1]
set_option maxHeartbeats 4000000 in
set_option maxRecDepth 100000 in
theorem lc_3 {p : Program} {l : Launch} {e : Env} {s : State} {m : MethodId} {below : List Frame} {meth : Method} {c : Code} {b L : Nat} {ys : Nat → Int} {D : va_G} {cy : Nat → ClassId} {ad : Nat → Nat} {jf : Nat → Int64} {A : Nat → Prop} {u : gS} {H : Heap} {locs : List Loc} {ls : Array Slot} {cells slots : Nat} {Q : State → Prop} {i : Int} (E : lE p l s m meth c b L ys D cy A) (hR : Rel cy u) (hG : gH D cy ad jf A u H) (hS : va_S A s.heap H locs) (hl : lv_has ls 8 (lV ad b i)) (hi : 0 ≤ i ∧ i + 6 ≤ (L : Int)) (hcs : cells + 3 ≤ 601024 ∧ slots + 300 ≤ 7293034) (kk : ∀ (u' : gS) (jf' : Nat → Int64) (H' : Heap) (locs' : List Loc) (ls' : Array Slot), Rel cy u' → gH D cy ad jf' A u' H' → va_S A s.heap H' locs' → lv_has ls' 8 (lV ad b i) → W p l e room_1 s m #[Value.ref b] below meth c H' locs' (cells + 3) (slots + 300) Q (F0 m 1602 ls' [])) : W p l e room_1 s m #[Value.ref b] below meth c H locs cells slots Q (F0 m 367 ls []) := by
  obtain ⟨hx, hb, hml, hown, hts, hX, hbl, hbA, hC, hTh, hl9, hys, hL⟩ := E
  have hl : lv_has ls 8 [(0, .ref b), (1, .ref (ad 0)), (2, .ref (ad 8)), (3, .ref (ad 64)), (4, .int (zI i))] := hl
  obtain ⟨p1, e1⟩ : ∃ z : Int, z = ys (i + 1).toNat := ⟨_, rfl⟩
  have j1 : -2147483648 ≤ p1 ∧ p1 < 2147483648 := by rw [e1]; exact hys _
  obtain ⟨p2, e2⟩ : ∃ z : Int, z = ys (i + 2).toNat := ⟨_, rfl⟩
  have j2 : -2147483648 ≤ p2 ∧ p2 < 2147483648 := by rw [e2]; exact hys _
  obtain ⟨p3, e3⟩ : ∃ z : Int, z = ys (i + 3).toNat := ⟨_, rfl⟩
  have j3 : -2147483648 ≤ p3 ∧ p3 < 2147483648 := by rw [e3]; exact hys _
  obtain ⟨p4, e4⟩ : ∃ z : Int, z = ys (i + 4).toNat := ⟨_, rfl⟩
  have j4 : -2147483648 ≤ p4 ∧ p4 < 2147483648 := by rw [e4]; exact hys _
  refine lv_aload_n hx hb dL_law_367 rfl (lv_at hl 1 rfl) ?_
  refine l_arg (k := 1) (p0 := 0) (p4 := 4) hx hb hX hbl hbA hS hl rfl rfl (by omega) (by omega) (by omega) e1 dL_law_368 dL_law_369 dL_law_371 dL_law_372 dL_law_373 ?_
  refine l_arg (k := 2) (p0 := 0) (p4 := 4) hx hb hX hbl hbA hS hl rfl rfl (by omega) (by omega) (by omega) e2 dL_law_374 dL_law_375 dL_law_377 dL_law_378 dL_law_379 ?_
  refine l_arg (k := 3) (p0 := 0) (p4 := 4) hx hb hX hbl hbA hS hl rfl rfl (by omega) (by omega) (by omega) e3 dL_law_380 dL_law_381 dL_law_383 dL_law_384 dL_law_385 ?_
  refine l_arg (k := 4) (p0 := 0) (p4 := 4) hx hb hX hbl hbA hS hl rfl rfl (by omega) (by omega) (by omega) e4 dL_law_386 dL_law_387 dL_law_389 dL_law_390 dL_law_391 ?_
  refine lv_aload_n hx hb dL_law_392 rfl (lv_at hl 3 rfl) ?_
  refine vx_calli (vx_runSX (As := [.ref (ad 0), .int (zI p1), .int (zI p2), .int (zI p3), .int (zI p4), .ref (ad 64)]) (rest := []) ⟨hx, hb, hml, hown, hts⟩ (kL_carries l D cy ad jf A hl9 u p1 p2 p3 p4 j1 j2 j3 j4) (vx_cwSW 6 hts gL_law_L_carries rfl rfl rfl (by decide +kernel) ⟨Nat.le_of_ble_eq_true rfl, Nat.le_of_ble_eq_true rfl⟩) (gX_preS hG hC hTh hS) rfl rfl hl.1 rfl (lv_room (Nat.le_of_ble_eq_true rfl)) dL_law_393 ⟨by show _ ≤ 601024; omega, by show _ ≤ 7293034; omega⟩) hS (fun _ _ h => h) (fun _ h => h) (fun _ _ h => h) (fun E ce q9 v9 t H locs _ _ _ hBX => absurd hBX.1 id) (fun r9 v9 t H locs ht _ hpo hB _ _ hS => ?_)
  obtain ⟨v1, jf9⟩ := v9
  have hG : gH D cy ad jf9 A v1 H := by rw [← ht]; exact hB.1
  rcases hpo with ⟨hr9, hok, hv1, hj9⟩ | ⟨hr9, hno, hv1⟩
  · have hv1 : v1 = u := hv1
    rw [hv1] at hG
    refine lv_istore (lv' := [(5, .int r9), (0, .ref b), (1, .ref (ad 0)), (2, .ref (ad 8)), (3, .ref (ad 64)), (4, .int (zI i))]) hx hb dL_law_396 hl (by decide) rfl (fun ls hl => ?_)
    refine lv_aload_n hx hb dL_law_398 rfl (lv_at hl 3 rfl) ?_
    refine l_arg (k := 1) (p0 := 1) (p4 := 5) hx hb hX hbl hbA hS hl rfl rfl (by omega) (by omega) (by omega) e1 dL_law_399 dL_law_400 dL_law_402 dL_law_403 dL_law_404 ?_
    refine l_arg (k := 2) (p0 := 1) (p4 := 5) hx hb hX hbl hbA hS hl rfl rfl (by omega) (by omega) (by omega) e2 dL_law_405 dL_law_406 dL_law_408 dL_law_409 dL_law_410 ?_
    refine l_arg (k := 3) (p0 := 1) (p4 := 5) hx hb hX hbl hbA hS hl rfl rfl (by omega) (by omega) (by omega) e3 dL_law_411 dL_law_412 dL_law_414 dL_law_415 dL_law_416 ?_
    refine l_arg (k := 4) (p0 := 1) (p4 := 5) hx hb hX hbl hbA hS hl rfl rfl (by omega) (by omega) (by omega) e4 dL_law_417 dL_law_418 dL_law_420 dL_law_421 dL_law_422 ?_
    have hM := hR.m
    refine va_calll (va_runV (As := [.int (zI p1), .int (zI p2), .int (zI p3), .int (zI p4)]) (rest := []) ⟨hx, hb, hml, hown, hts⟩ (kX12_carries l D cy ad jf9 A u p1 p2 p3 p4 j1 j2 j3 j4) (cwV 4 hts gL_law_X12_carries rfl rfl rfl (by decide +kernel) ⟨Nat.le_of_ble_eq_true rfl, Nat.le_of_ble_eq_true rfl⟩) (g_preV (C := RX12) hG hC hS 8 (by decide) rfl rfl) rfl rfl hl.1 rfl (lv_room (Nat.le_of_ble_eq_true rfl)) dL_law_423 ⟨by show _ ≤ 601024; omega, by show _ ≤ 7293034; omega⟩) hS (fun _ _ h => h) (fun _ h => h) (fun r2 u2 t2 H locs ht2 _ hp2 hB2 _ _ hS => ?_)
    have hG : gH D cy ad jf9 A u2 H := by rw [← ht2]; exact hB2.1
    refine lv_lstore (lv' := [(6, .long r2), (5, .int r9), (0, .ref b), (1, .ref (ad 0)), (2, .ref (ad 8)), (3, .ref (ad 64)), (4, .int (zI i))]) hx hb dL_law_426 hl (by decide) rfl (fun ls hl => ?_)
    refine lv_aload_n hx hb dL_law_428 rfl (lv_at hl 4 rfl) ?_
    refine g_calli (va_runV (As := []) (rest := []) ⟨hx, hb, hml, hown, hts⟩ (kX12_thrown l D cy ad jf9 A u2) (cwV 0 hts gL_law_X12_thrown rfl rfl rfl (by decide +kernel) ⟨Nat.le_of_ble_eq_true rfl, Nat.le_of_ble_eq_true rfl⟩) (g_preV (C := RX12) hG hC hS 8 (by decide) rfl rfl) rfl rfl hl.1 rfl (lv_room (Nat.le_of_ble_eq_true rfl)) dL_law_429 ⟨by show _ ≤ 601024; omega, by show _ ≤ 7293034; omega⟩) hS (fun r3 u3 H locs hp3 hG hS => ?_)
    rw [hp3.2, hp2.2] at hG
    have hz := re_car0 hR.f10 hR.f11 hok
    have h3 : r3 = zI 0 := by rw [hp3.1, hp2.2]; show zI (mCarT p1 p2 p3 p4) = _; rw [hz.1]
    refine lv_iload hx hb dL_law_432 (lv_at hl 1 rfl) ?_
    refine lv_icmp_eq (tgt := 439) hx hb dL_law_434 (by decide) (fun c9 => ?_) (fun c9 => absurd (h3.trans hr9.symm) c9)
    refine lv_iload hx hb dL_law_439 (lv_at hl 1 rfl) ?_
    rw [hr9]
    refine z_if_ne (tgt := 455) hx hb dL_law_441 (by decide) (by decide) (by decide) (fun c8 => ?_) (fun c8 => ?_)
    · exact absurd rfl c8
    · refine lv_aload_n hx hb dL_law_444 rfl (lv_at hl 5 rfl) ?_
      refine z_iconst hx hb dL_law_445 ?_
      refine g_lald hx hb hC.1 hG dL_law_446 ?_
      refine lv_lload hx hb dL_law_447 (lv_at hl 0 rfl) ?_
      refine W.lcmp hx hb dL_law_449 ?_
      have hj9 : jf9 0 = _ := hj9
      rw [hj9, hp2.1, hz.2, lg_cmp_self]
      refine lv_if_eq (tgt := 455) hx hb dL_law_450 (by decide) (fun _ => ?_) (fun c7 => absurd rfl c7)
      refine lv_goto (tgt := 1602) hx hb dL_law_455 (by decide) ?_
      refine W.widen (k := cells + 3) (n := slots + 300) (by omega) (by omega) ?_
      exact kk _ jf9 _ _ _ (re_20 hR _) hG hS (lv_sub hl [2, 3, 4, 5, 6] rfl)
  · have hv1 : v1 = u := hv1
    rw [hv1] at hG
    refine lv_istore (lv' := [(5, .int r9), (0, .ref b), (1, .ref (ad 0)), (2, .ref (ad 8)), (3, .ref (ad 64)), (4, .int (zI i))]) hx hb dL_law_396 hl (by decide) rfl (fun ls hl => ?_)
    refine lv_aload_n hx hb dL_law_398 rfl (lv_at hl 3 rfl) ?_
    refine l_arg (k := 1) (p0 := 1) (p4 := 5) hx hb hX hbl hbA hS hl rfl rfl (by omega) (by omega) (by omega) e1 dL_law_399 dL_law_400 dL_law_402 dL_law_403 dL_law_404 ?_
    refine l_arg (k := 2) (p0 := 1) (p4 := 5) hx hb hX hbl hbA hS hl rfl rfl (by omega) (by omega) (by omega) e2 dL_law_405 dL_law_406 dL_law_408 dL_law_409 dL_law_410 ?_
    refine l_arg (k := 3) (p0 := 1) (p4 := 5) hx hb hX hbl hbA hS hl rfl rfl (by omega) (by omega) (by omega) e3 dL_law_411 dL_law_412 dL_law_414 dL_law_415 dL_law_416 ?_
    refine l_arg (k := 4) (p0 := 1) (p4 := 5) hx hb hX hbl hbA hS hl rfl rfl (by omega) (by omega) (by omega) e4 dL_law_417 dL_law_418 dL_law_420 dL_law_421 dL_law_422 ?_
    have hM := hR.m
    refine va_calll (va_runV (As := [.int (zI p1), .int (zI p2), .int (zI p3), .int (zI p4)]) (rest := []) ⟨hx, hb, hml, hown, hts⟩ (kX12_carries l D cy ad jf9 A u p1 p2 p3 p4 j1 j2 j3 j4) (cwV 4 hts gL_law_X12_carries rfl rfl rfl (by decide +kernel) ⟨Nat.le_of_ble_eq_true rfl, Nat.le_of_ble_eq_true rfl⟩) (g_preV (C := RX12) hG hC hS 8 (by decide) rfl rfl) rfl rfl hl.1 rfl (lv_room (Nat.le_of_ble_eq_true rfl)) dL_law_423 ⟨by show _ ≤ 601024; omega, by show _ ≤ 7293034; omega⟩) hS (fun _ _ h => h) (fun _ h => h) (fun r2 u2 t2 H locs ht2 _ hp2 hB2 _ _ hS => ?_)
    have hG : gH D cy ad jf9 A u2 H := by rw [← ht2]; exact hB2.1
    refine lv_lstore (lv' := [(6, .long r2), (5, .int r9), (0, .ref b), (1, .ref (ad 0)), (2, .ref (ad 8)), (3, .ref (ad 64)), (4, .int (zI i))]) hx hb dL_law_426 hl (by decide) rfl (fun ls hl => ?_)
    refine lv_aload_n hx hb dL_law_428 rfl (lv_at hl 4 rfl) ?_
    refine g_calli (va_runV (As := []) (rest := []) ⟨hx, hb, hml, hown, hts⟩ (kX12_thrown l D cy ad jf9 A u2) (cwV 0 hts gL_law_X12_thrown rfl rfl rfl (by decide +kernel) ⟨Nat.le_of_ble_eq_true rfl, Nat.le_of_ble_eq_true rfl⟩) (g_preV (C := RX12) hG hC hS 8 (by decide) rfl rfl) rfl rfl hl.1 rfl (lv_room (Nat.le_of_ble_eq_true rfl)) dL_law_429 ⟨by show _ ≤ 601024; omega, by show _ ≤ 7293034; omega⟩) hS (fun r3 u3 H locs hp3 hG hS => ?_)
    rw [hp3.2, hp2.2] at hG
    have hz := re_car1 hno
    have h3 : r3 = zI 1 := by rw [hp3.1, hp2.2]; show zI (mCarT p1 p2 p3 p4) = _; rw [hz]
    refine lv_iload hx hb dL_law_432 (lv_at hl 1 rfl) ?_
    refine lv_icmp_eq (tgt := 439) hx hb dL_law_434 (by decide) (fun c9 => ?_) (fun c9 => absurd (h3.trans hr9.symm) c9)
    refine lv_iload hx hb dL_law_439 (lv_at hl 1 rfl) ?_
    rw [hr9]
    refine z_if_ne (tgt := 455) hx hb dL_law_441 (by decide) (by decide) (by decide) (fun c8 => ?_) (fun c8 => ?_)
    · refine lv_goto (tgt := 1602) hx hb dL_law_455 (by decide) ?_
      refine W.widen (k := cells + 3) (n := slots + 300) (by omega) (by omega) ?_
      exact kk _ jf9 _ _ _ (re_20 hR _) hG hS (lv_sub hl [2, 3, 4, 5, 6] rfl)
    · exact absurd c8 (by decide)
set_option maxHeartbeats 4000000 in
set_option maxRecDepth 100000 in
theorem lc_4 {p : Program} {l : Launch} {e : Env} {s : State} {m : MethodId} {below : List Frame} {meth : Method} {c : Code} {b L : Nat} {ys : Nat → Int} {D : va_G} {cy : Nat → ClassId} {ad : Nat → Nat} {jf : Nat → Int64} {A : Nat → Prop} {u : gS} {H : Heap} {locs : List Loc} {ls : Array Slot} {cells slots : Nat} {Q : State → Prop} {i : Int} (E : lE p l s m meth c b L ys D cy A) (hR : Rel cy u) (hG : gH D cy ad jf A u H) (hS : va_S A s.heap H locs) (hl : lv_has ls 8 (lV ad b i)) (hi : 0 ≤ i ∧ i + 6 ≤ (L : Int)) (hcs : cells + 3 ≤ 601024 ∧ slots + 300 ≤ 7293034) (kk : ∀ (u' : gS) (jf' : Nat → Int64) (H' : Heap) (locs' : List Loc) (ls' : Array Slot), Rel cy u' → gH D cy ad jf' A u' H' → va_S A s.heap H' locs' → lv_has ls' 8 (lV ad b i) → W p l e room_1 s m #[Value.ref b] below meth c H' locs' (cells + 3) (slots + 300) Q (F0 m 1602 ls' [])) : W p l e room_1 s m #[Value.ref b] below meth c H locs cells slots Q (F0 m 458 ls []) := by
  obtain ⟨hx, hb, hml, hown, hts, hX, hbl, hbA, hC, hTh, hl9, hys, hL⟩ := E
  have hl : lv_has ls 8 [(0, .ref b), (1, .ref (ad 0)), (2, .ref (ad 8)), (3, .ref (ad 64)), (4, .int (zI i))] := hl
  obtain ⟨p1, e1⟩ : ∃ z : Int, z = ys (i + 1).toNat := ⟨_, rfl⟩
  have j1 : -2147483648 ≤ p1 ∧ p1 < 2147483648 := by rw [e1]; exact hys _
  obtain ⟨p2, e2⟩ : ∃ z : Int, z = ys (i + 2).toNat := ⟨_, rfl⟩
  have j2 : -2147483648 ≤ p2 ∧ p2 < 2147483648 := by rw [e2]; exact hys _
  refine lv_aload_n hx hb dL_law_458 rfl (lv_at hl 1 rfl) ?_
  refine l_arg (k := 1) (p0 := 0) (p4 := 4) hx hb hX hbl hbA hS hl rfl rfl (by omega) (by omega) (by omega) e1 dL_law_459 dL_law_460 dL_law_462 dL_law_463 dL_law_464 ?_
  refine l_arg (k := 2) (p0 := 0) (p4 := 4) hx hb hX hbl hbA hS hl rfl rfl (by omega) (by omega) (by omega) e2 dL_law_465 dL_law_466 dL_law_468 dL_law_469 dL_law_470 ?_
  refine g_calli (va_runV (As := [.int (zI p1), .int (zI p2)]) (rest := []) ⟨hx, hb, hml, hown, hts⟩ (kX11_set l D cy ad jf A u p1 p2 j1 j2 hR.k1 hR.k2) (cwV 2 hts gL_law_X11_set rfl rfl rfl (by decide +kernel) ⟨Nat.le_of_ble_eq_true rfl, Nat.le_of_ble_eq_true rfl⟩) (g_preV (C := RX11) hG hC hS 0 (by decide) rfl rfl) rfl rfl hl.1 rfl (lv_room (Nat.le_of_ble_eq_true rfl)) dL_law_471 ⟨by show _ ≤ 601024; omega, by show _ ≤ 7293034; omega⟩) hS (fun r1 u1 H locs hp1 hG hS => ?_)
  obtain ⟨q1, q2, q3⟩ := re_set hR p1 p2
  obtain ⟨hr1, hu1⟩ := hp1
  rw [← hu1] at q1 q2 q3
  have hM := hR.m.kept q1
  refine lv_aload_n hx hb dL_law_474 rfl (lv_at hl 2 rfl) ?_
  refine l_arg (k := 1) (p0 := 0) (p4 := 4) hx hb hX hbl hbA hS hl rfl rfl (by omega) (by omega) (by omega) e1 dL_law_475 dL_law_476 dL_law_478 dL_law_479 dL_law_480 ?_
  refine l_arg (k := 2) (p0 := 0) (p4 := 4) hx hb hX hbl hbA hS hl rfl rfl (by omega) (by omega) (by omega) e2 dL_law_481 dL_law_482 dL_law_484 dL_law_485 dL_law_486 ?_
  refine g_calli (va_runV (As := [.int (zI p1), .int (zI p2)]) (rest := [.int r1]) ⟨hx, hb, hml, hown, hts⟩ (kX12_set l D cy ad jf A u1 p1 p2 j1 j2 hM.i21 hM.i22) (cwV 2 hts gL_law_X12_set rfl rfl rfl (by decide +kernel) ⟨Nat.le_of_ble_eq_true rfl, Nat.le_of_ble_eq_true rfl⟩) (g_preV (C := RX12) hG hC hS 8 (by decide) rfl rfl) rfl rfl hl.1 rfl (lv_room (Nat.le_of_ble_eq_true rfl)) dL_law_487 ⟨by show _ ≤ 601024; omega, by show _ ≤ 7293034; omega⟩) hS (fun r2 u2 H locs hp2 hG hS => ?_)
  refine lv_icmp_eq (tgt := 1602) hx hb dL_law_490 (by decide) (fun c9 => ?_) (fun c9 => absurd ?_ c9)
  · refine W.widen (k := cells + 3) (n := slots + 300) (by omega) (by omega) ?_
    exact kk u2 jf _ _ _ (by rw [hp2.2]; exact q3) hG hS hl
  · rw [hr1, q2, hp2.1]
set_option maxHeartbeats 4000000 in
set_option maxRecDepth 100000 in
theorem lc_5 {p : Program} {l : Launch} {e : Env} {s : State} {m : MethodId} {below : List Frame} {meth : Method} {c : Code} {b L : Nat} {ys : Nat → Int} {D : va_G} {cy : Nat → ClassId} {ad : Nat → Nat} {jf : Nat → Int64} {A : Nat → Prop} {u : gS} {H : Heap} {locs : List Loc} {ls : Array Slot} {cells slots : Nat} {Q : State → Prop} {i : Int} (E : lE p l s m meth c b L ys D cy A) (hR : Rel cy u) (hG : gH D cy ad jf A u H) (hS : va_S A s.heap H locs) (hl : lv_has ls 8 (lV ad b i)) (hi : 0 ≤ i ∧ i + 6 ≤ (L : Int)) (hcs : cells + 3 ≤ 601024 ∧ slots + 300 ≤ 7293034) (kk : ∀ (u' : gS) (jf' : Nat → Int64) (H' : Heap) (locs' : List Loc) (ls' : Array Slot), Rel cy u' → gH D cy ad jf' A u' H' → va_S A s.heap H' locs' → lv_has ls' 8 (lV ad b i) → W p l e room_1 s m #[Value.ref b] below meth c H' locs' (cells + 3) (slots + 300) Q (F0 m 1602 ls' [])) : W p l e room_1 s m #[Value.ref b] below meth c H locs cells slots Q (F0 m 495 ls []) := by
  obtain ⟨hx, hb, hml, hown, hts, hX, hbl, hbA, hC, hTh, hl9, hys, hL⟩ := E
  have hl : lv_has ls 8 [(0, .ref b), (1, .ref (ad 0)), (2, .ref (ad 8)), (3, .ref (ad 64)), (4, .int (zI i))] := hl
  obtain ⟨p1, e1⟩ : ∃ z : Int, z = ys (i + 1).toNat := ⟨_, rfl⟩
  have j1 : -2147483648 ≤ p1 ∧ p1 < 2147483648 := by rw [e1]; exact hys _
  obtain ⟨p2, e2⟩ : ∃ z : Int, z = ys (i + 2).toNat := ⟨_, rfl⟩
  have j2 : -2147483648 ≤ p2 ∧ p2 < 2147483648 := by rw [e2]; exact hys _
  obtain ⟨p3, e3⟩ : ∃ z : Int, z = ys (i + 3).toNat := ⟨_, rfl⟩
  have j3 : -2147483648 ≤ p3 ∧ p3 < 2147483648 := by rw [e3]; exact hys _
  refine lv_aload_n hx hb dL_law_495 rfl (lv_at hl 1 rfl) ?_
  refine l_arg (k := 1) (p0 := 0) (p4 := 4) hx hb hX hbl hbA hS hl rfl rfl (by omega) (by omega) (by omega) e1 dL_law_496 dL_law_497 dL_law_499 dL_law_500 dL_law_501 ?_
  refine l_arg (k := 2) (p0 := 0) (p4 := 4) hx hb hX hbl hbA hS hl rfl rfl (by omega) (by omega) (by omega) e2 dL_law_502 dL_law_503 dL_law_505 dL_law_506 dL_law_507 ?_
  refine l_arg (k := 3) (p0 := 0) (p4 := 4) hx hb hX hbl hbA hS hl rfl rfl (by omega) (by omega) (by omega) e3 dL_law_508 dL_law_509 dL_law_511 dL_law_512 dL_law_513 ?_
  refine g_calli (va_runV (As := [.int (zI p1), .int (zI p2), .int (zI p3)]) (rest := []) ⟨hx, hb, hml, hown, hts⟩ (kX11_swimmer l D cy ad jf A u p1 p2 p3 j1 j2 j3 hR.k0) (cwV 3 hts gL_law_X11_swimmer rfl rfl rfl (by decide +kernel) ⟨Nat.le_of_ble_eq_true rfl, Nat.le_of_ble_eq_true rfl⟩) (g_preV (C := RX11) hG hC hS 0 (by decide) rfl rfl) rfl rfl hl.1 rfl (lv_room (Nat.le_of_ble_eq_true rfl)) dL_law_514 ⟨by show _ ≤ 601024; omega, by show _ ≤ 7293034; omega⟩) hS (fun r1 u1 H locs hp1 hG hS => ?_)
  obtain ⟨q1, q2, q3⟩ := re_swimmer hR hp1
  have hM := hR.m.kept q1
  refine lv_aload_n hx hb dL_law_517 rfl (lv_at hl 2 rfl) ?_
  refine l_arg (k := 1) (p0 := 0) (p4 := 4) hx hb hX hbl hbA hS hl rfl rfl (by omega) (by omega) (by omega) e1 dL_law_518 dL_law_519 dL_law_521 dL_law_522 dL_law_523 ?_
  refine l_arg (k := 2) (p0 := 0) (p4 := 4) hx hb hX hbl hbA hS hl rfl rfl (by omega) (by omega) (by omega) e2 dL_law_524 dL_law_525 dL_law_527 dL_law_528 dL_law_529 ?_
  refine l_arg (k := 3) (p0 := 0) (p4 := 4) hx hb hX hbl hbA hS hl rfl rfl (by omega) (by omega) (by omega) e3 dL_law_530 dL_law_531 dL_law_533 dL_law_534 dL_law_535 ?_
  refine g_calli (va_runV (As := [.int (zI p1), .int (zI p2), .int (zI p3)]) (rest := [.int r1]) ⟨hx, hb, hml, hown, hts⟩ (kX12_swimmer l D cy ad jf A u1 p1 p2 p3 j1 j2 j3 hM.i23) (cwV 3 hts gL_law_X12_swimmer rfl rfl rfl (by decide +kernel) ⟨Nat.le_of_ble_eq_true rfl, Nat.le_of_ble_eq_true rfl⟩) (g_preV (C := RX12) hG hC hS 8 (by decide) rfl rfl) rfl rfl hl.1 rfl (lv_room (Nat.le_of_ble_eq_true rfl)) dL_law_536 ⟨by show _ ≤ 601024; omega, by show _ ≤ 7293034; omega⟩) hS (fun r2 u2 H locs hp2 hG hS => ?_)
  refine lv_icmp_eq (tgt := 1602) hx hb dL_law_539 (by decide) (fun c9 => ?_) (fun c9 => absurd ?_ c9)
  · refine W.widen (k := cells + 3) (n := slots + 300) (by omega) (by omega) ?_
    exact kk u2 jf _ _ _ (by rw [hp2.2]; exact q3) hG hS hl
  · rw [q2, hp2.1]
set_option maxHeartbeats 4000000 in
set_option maxRecDepth 100000 in
theorem lc_6 {p : Program} {l : Launch} {e : Env} {s : State} {m : MethodId} {below : List Frame} {meth : Method} {c : Code} {b L : Nat} {ys : Nat → Int} {D : va_G} {cy : Nat → ClassId} {ad : Nat → Nat} {jf : Nat → Int64} {A : Nat → Prop} {u : gS} {H : Heap} {locs : List Loc} {ls : Array Slot} {cells slots : Nat} {Q : State → Prop} {i : Int} (E : lE p l s m meth c b L ys D cy A) (hR : Rel cy u) (hG : gH D cy ad jf A u H) (hS : va_S A s.heap H locs) (hl : lv_has ls 8 (lV ad b i)) (hi : 0 ≤ i ∧ i + 6 ≤ (L : Int)) (hcs : cells + 3 ≤ 601024 ∧ slots + 300 ≤ 7293034) (kk : ∀ (u' : gS) (jf' : Nat → Int64) (H' : Heap) (locs' : List Loc) (ls' : Array Slot), Rel cy u' → gH D cy ad jf' A u' H' → va_S A s.heap H' locs' → lv_has ls' 8 (lV ad b i) → W p l e room_1 s m #[Value.ref b] below meth c H' locs' (cells + 3) (slots + 300) Q (F0 m 1602 ls' [])) : W p l e room_1 s m #[Value.ref b] below meth c H locs cells slots Q (F0 m 544 ls []) := by
  obtain ⟨hx, hb, hml, hown, hts, hX, hbl, hbA, hC, hTh, hl9, hys, hL⟩ := E
  have hl : lv_has ls 8 [(0, .ref b), (1, .ref (ad 0)), (2, .ref (ad 8)), (3, .ref (ad 64)), (4, .int (zI i))] := hl
  obtain ⟨p1, e1⟩ : ∃ z : Int, z = ys (i + 1).toNat := ⟨_, rfl⟩
  have j1 : -2147483648 ≤ p1 ∧ p1 < 2147483648 := by rw [e1]; exact hys _
  obtain ⟨p2, e2⟩ : ∃ z : Int, z = ys (i + 2).toNat := ⟨_, rfl⟩
  have j2 : -2147483648 ≤ p2 ∧ p2 < 2147483648 := by rw [e2]; exact hys _
  refine lv_aload_n hx hb dL_law_544 rfl (lv_at hl 1 rfl) ?_
  refine l_arg (k := 1) (p0 := 0) (p4 := 4) hx hb hX hbl hbA hS hl rfl rfl (by omega) (by omega) (by omega) e1 dL_law_545 dL_law_546 dL_law_548 dL_law_549 dL_law_550 ?_
  refine l_arg (k := 2) (p0 := 0) (p4 := 4) hx hb hX hbl hbA hS hl rfl rfl (by omega) (by omega) (by omega) e2 dL_law_551 dL_law_552 dL_law_554 dL_law_555 dL_law_556 ?_
  refine g_calli (va_runV (As := [.int (zI p1), .int (zI p2)]) (rest := []) ⟨hx, hb, hml, hown, hts⟩ (kX11_feed l D cy ad jf A u p1 p2 j1 j2 hR.k0 (u.2.1 34) (u.2.1 35) (u.2.1 36) (u.2.1 37) hR.sw) (cwV 2 hts gL_law_X11_feed rfl rfl rfl (by decide +kernel) ⟨Nat.le_of_ble_eq_true rfl, Nat.le_of_ble_eq_true rfl⟩) (g_preV (C := RX11) hG hC hS 0 (by decide) rfl rfl) rfl rfl hl.1 rfl (lv_room (Nat.le_of_ble_eq_true rfl)) dL_law_557 ⟨by show _ ≤ 601024; omega, by show _ ≤ 7293034; omega⟩) hS (fun r1 u1 H locs hp1 hG hS => ?_)
  obtain ⟨q1, q2, q3⟩ := re_feed hR hp1
  have hM := hR.m.kept q1
  refine lv_aload_n hx hb dL_law_560 rfl (lv_at hl 2 rfl) ?_
  refine l_arg (k := 1) (p0 := 0) (p4 := 4) hx hb hX hbl hbA hS hl rfl rfl (by omega) (by omega) (by omega) e1 dL_law_561 dL_law_562 dL_law_564 dL_law_565 dL_law_566 ?_
  refine l_arg (k := 2) (p0 := 0) (p4 := 4) hx hb hX hbl hbA hS hl rfl rfl (by omega) (by omega) (by omega) e2 dL_law_567 dL_law_568 dL_law_570 dL_law_571 dL_law_572 ?_
  refine g_calli (va_runV (As := [.int (zI p1), .int (zI p2)]) (rest := [.int r1]) ⟨hx, hb, hml, hown, hts⟩ (kX12_feed l D cy ad jf A u1 p1 p2 j1 j2 hM.i23 hM.i37) (cwV 2 hts gL_law_X12_feed rfl rfl rfl (by decide +kernel) ⟨Nat.le_of_ble_eq_true rfl, Nat.le_of_ble_eq_true rfl⟩) (g_preV (C := RX12) hG hC hS 8 (by decide) rfl rfl) rfl rfl hl.1 rfl (lv_room (Nat.le_of_ble_eq_true rfl)) dL_law_573 ⟨by show _ ≤ 601024; omega, by show _ ≤ 7293034; omega⟩) hS (fun r2 u2 H locs hp2 hG hS => ?_)
  refine lv_icmp_eq (tgt := 1602) hx hb dL_law_576 (by decide) (fun c9 => ?_) (fun c9 => absurd ?_ c9)
  · refine W.widen (k := cells + 3) (n := slots + 300) (by omega) (by omega) ?_
    exact kk u2 jf _ _ _ (by rw [hp2.2]; exact q3) hG hS hl
  · rw [q2, hp2.1]
set_option maxHeartbeats 4000000 in
set_option maxRecDepth 100000 in
theorem lc_7 {p : Program} {l : Launch} {e : Env} {s : State} {m : MethodId} {below : List Frame} {meth : Method} {c : Code} {b L : Nat} {ys : Nat → Int} {D : va_G} {cy : Nat → ClassId} {ad : Nat → Nat} {jf : Nat → Int64} {A : Nat → Prop} {u : gS} {H : Heap} {locs : List Loc} {ls : Array Slot} {cells slots : Nat} {Q : State → Prop} {i : Int} (E : lE p l s m meth c b L ys D cy A) (hR : Rel cy u) (hG : gH D cy ad jf A u H) (hS : va_S A s.heap H locs) (hl : lv_has ls 8 (lV ad b i)) (hi : 0 ≤ i ∧ i + 6 ≤ (L : Int)) (hcs : cells + 3 ≤ 601024 ∧ slots + 300 ≤ 7293034) (kk : ∀ (u' : gS) (jf' : Nat → Int64) (H' : Heap) (locs' : List Loc) (ls' : Array Slot), Rel cy u' → gH D cy ad jf' A u' H' → va_S A s.heap H' locs' → lv_has ls' 8 (lV ad b i) → W p l e room_1 s m #[Value.ref b] below meth c H' locs' (cells + 3) (slots + 300) Q (F0 m 1602 ls' [])) : W p l e room_1 s m #[Value.ref b] below meth c H locs cells slots Q (F0 m 581 ls []) := by
  obtain ⟨hx, hb, hml, hown, hts, hX, hbl, hbA, hC, hTh, hl9, hys, hL⟩ := E
  have hl : lv_has ls 8 [(0, .ref b), (1, .ref (ad 0)), (2, .ref (ad 8)), (3, .ref (ad 64)), (4, .int (zI i))] := hl
  obtain ⟨p1, e1⟩ : ∃ z : Int, z = ys (i + 1).toNat := ⟨_, rfl⟩
  have j1 : -2147483648 ≤ p1 ∧ p1 < 2147483648 := by rw [e1]; exact hys _
  obtain ⟨p2, e2⟩ : ∃ z : Int, z = ys (i + 2).toNat := ⟨_, rfl⟩
  have j2 : -2147483648 ≤ p2 ∧ p2 < 2147483648 := by rw [e2]; exact hys _
  obtain ⟨p3, e3⟩ : ∃ z : Int, z = ys (i + 3).toNat := ⟨_, rfl⟩
  have j3 : -2147483648 ≤ p3 ∧ p3 < 2147483648 := by rw [e3]; exact hys _
  refine lv_aload_n hx hb dL_law_581 rfl (lv_at hl 1 rfl) ?_
  refine l_arg (k := 1) (p0 := 0) (p4 := 4) hx hb hX hbl hbA hS hl rfl rfl (by omega) (by omega) (by omega) e1 dL_law_582 dL_law_583 dL_law_585 dL_law_586 dL_law_587 ?_
  refine l_arg (k := 2) (p0 := 0) (p4 := 4) hx hb hX hbl hbA hS hl rfl rfl (by omega) (by omega) (by omega) e2 dL_law_588 dL_law_589 dL_law_591 dL_law_592 dL_law_593 ?_
  refine l_arg (k := 3) (p0 := 0) (p4 := 4) hx hb hX hbl hbA hS hl rfl rfl (by omega) (by omega) (by omega) e3 dL_law_594 dL_law_595 dL_law_597 dL_law_598 dL_law_599 ?_
  refine g_calli (va_runV (As := [.int (zI p1), .int (zI p2), .int (zI p3)]) (rest := []) ⟨hx, hb, hml, hown, hts⟩ (kX11_pace l D cy ad jf A u p1 p2 p3 j1 j2 j3 hR.k0 hR.k1 (u.2.1 34) (u.2.1 35) (u.2.1 36) (u.2.1 37) hR.sw) (cwV 3 hts gL_law_X11_pace rfl rfl rfl (by decide +kernel) ⟨Nat.le_of_ble_eq_true rfl, Nat.le_of_ble_eq_true rfl⟩) (g_preV (C := RX11) hG hC hS 0 (by decide) rfl rfl) rfl rfl hl.1 rfl (lv_room (Nat.le_of_ble_eq_true rfl)) dL_law_600 ⟨by show _ ≤ 601024; omega, by show _ ≤ 7293034; omega⟩) hS (fun r1 u1 H locs hp1 hG hS => ?_)
  obtain ⟨hr1, hu1⟩ := hp1
  rw [hu1] at hG
  have hM := hR.m
  refine lv_aload_n hx hb dL_law_603 rfl (lv_at hl 2 rfl) ?_
  refine l_arg (k := 1) (p0 := 0) (p4 := 4) hx hb hX hbl hbA hS hl rfl rfl (by omega) (by omega) (by omega) e1 dL_law_604 dL_law_605 dL_law_607 dL_law_608 dL_law_609 ?_
  refine l_arg (k := 2) (p0 := 0) (p4 := 4) hx hb hX hbl hbA hS hl rfl rfl (by omega) (by omega) (by omega) e2 dL_law_610 dL_law_611 dL_law_613 dL_law_614 dL_law_615 ?_
  refine l_arg (k := 3) (p0 := 0) (p4 := 4) hx hb hX hbl hbA hS hl rfl rfl (by omega) (by omega) (by omega) e3 dL_law_616 dL_law_617 dL_law_619 dL_law_620 dL_law_621 ?_
  refine g_calli (va_runV (As := [.int (zI p1), .int (zI p2), .int (zI p3)]) (rest := [.int r1]) ⟨hx, hb, hml, hown, hts⟩ (kX12_pace l D cy ad jf A u p1 p2 p3 j1 j2 j3 hM.i23 hM.i21 hM.i34 hM.i35 hM.i37) (cwV 3 hts gL_law_X12_pace rfl rfl rfl (by decide +kernel) ⟨Nat.le_of_ble_eq_true rfl, Nat.le_of_ble_eq_true rfl⟩) (g_preV (C := RX12) hG hC hS 8 (by decide) rfl rfl) rfl rfl hl.1 rfl (lv_room (Nat.le_of_ble_eq_true rfl)) dL_law_622 ⟨by show _ ≤ 601024; omega, by show _ ≤ 7293034; omega⟩) hS (fun r2 u2 H locs hp2 hG hS => ?_)
  rw [hp2.2] at hG
  refine lv_icmp_eq (tgt := 1602) hx hb dL_law_625 (by decide) (fun c9 => ?_) (fun c9 => absurd ?_ c9)
  · refine W.widen (k := cells + 3) (n := slots + 300) (by omega) (by omega) ?_
    exact kk u jf _ _ _ (hR) hG hS hl
  · rw [hr1, hp2.1, re_pace hR p1 p2 p3]
set_option maxHeartbeats 4000000 in
set_option maxRecDepth 100000 in
theorem lc_8 {p : Program} {l : Launch} {e : Env} {s : State} {m : MethodId} {below : List Frame} {meth : Method} {c : Code} {b L : Nat} {ys : Nat → Int} {D : va_G} {cy : Nat → ClassId} {ad : Nat → Nat} {jf : Nat → Int64} {A : Nat → Prop} {u : gS} {H : Heap} {locs : List Loc} {ls : Array Slot} {cells slots : Nat} {Q : State → Prop} {i : Int} (E : lE p l s m meth c b L ys D cy A) (hR : Rel cy u) (hG : gH D cy ad jf A u H) (hS : va_S A s.heap H locs) (hl : lv_has ls 8 (lV ad b i)) (hi : 0 ≤ i ∧ i + 6 ≤ (L : Int)) (hcs : cells + 3 ≤ 601024 ∧ slots + 300 ≤ 7293034) (kk : ∀ (u' : gS) (jf' : Nat → Int64) (H' : Heap) (locs' : List Loc) (ls' : Array Slot), Rel cy u' → gH D cy ad jf' A u' H' → va_S A s.heap H' locs' → lv_has ls' 8 (lV ad b i) → W p l e room_1 s m #[Value.ref b] below meth c H' locs' (cells + 3) (slots + 300) Q (F0 m 1602 ls' [])) : W p l e room_1 s m #[Value.ref b] below meth c H locs cells slots Q (F0 m 630 ls []) := by
  obtain ⟨hx, hb, hml, hown, hts, hX, hbl, hbA, hC, hTh, hl9, hys, hL⟩ := E
  have hl : lv_has ls 8 [(0, .ref b), (1, .ref (ad 0)), (2, .ref (ad 8)), (3, .ref (ad 64)), (4, .int (zI i))] := hl
  obtain ⟨p1, e1⟩ : ∃ z : Int, z = ys (i + 1).toNat := ⟨_, rfl⟩
  have j1 : -2147483648 ≤ p1 ∧ p1 < 2147483648 := by rw [e1]; exact hys _
  obtain ⟨p2, e2⟩ : ∃ z : Int, z = ys (i + 2).toNat := ⟨_, rfl⟩
  have j2 : -2147483648 ≤ p2 ∧ p2 < 2147483648 := by rw [e2]; exact hys _
  obtain ⟨p3, e3⟩ : ∃ z : Int, z = ys (i + 3).toNat := ⟨_, rfl⟩
  have j3 : -2147483648 ≤ p3 ∧ p3 < 2147483648 := by rw [e3]; exact hys _
  obtain ⟨p4, e4⟩ : ∃ z : Int, z = ys (i + 4).toNat := ⟨_, rfl⟩
  have j4 : -2147483648 ≤ p4 ∧ p4 < 2147483648 := by rw [e4]; exact hys _
  obtain ⟨p5, e5⟩ : ∃ z : Int, z = ys (i + 5).toNat := ⟨_, rfl⟩
  have j5 : -2147483648 ≤ p5 ∧ p5 < 2147483648 := by rw [e5]; exact hys _
  refine lv_aload_n hx hb dL_law_630 rfl (lv_at hl 1 rfl) ?_
  refine l_arg (k := 1) (p0 := 0) (p4 := 4) hx hb hX hbl hbA hS hl rfl rfl (by omega) (by omega) (by omega) e1 dL_law_631 dL_law_632 dL_law_634 dL_law_635 dL_law_636 ?_
  refine l_arg (k := 2) (p0 := 0) (p4 := 4) hx hb hX hbl hbA hS hl rfl rfl (by omega) (by omega) (by omega) e2 dL_law_637 dL_law_638 dL_law_640 dL_law_641 dL_law_642 ?_
  refine l_arg (k := 3) (p0 := 0) (p4 := 4) hx hb hX hbl hbA hS hl rfl rfl (by omega) (by omega) (by omega) e3 dL_law_643 dL_law_644 dL_law_646 dL_law_647 dL_law_648 ?_
  refine l_arg (k := 4) (p0 := 0) (p4 := 4) hx hb hX hbl hbA hS hl rfl rfl (by omega) (by omega) (by omega) e4 dL_law_649 dL_law_650 dL_law_652 dL_law_653 dL_law_654 ?_
  refine l_arg (k := 5) (p0 := 0) (p4 := 4) hx hb hX hbl hbA hS hl rfl rfl (by omega) (by omega) (by omega) e5 dL_law_655 dL_law_656 dL_law_658 dL_law_659 dL_law_660 ?_
  refine g_calli (va_runV (As := [.int (zI p1), .int (zI p2), .int (zI p3), .int (zI p4), .int (zI p5)]) (rest := []) ⟨hx, hb, hml, hown, hts⟩ (kX11_swim l D cy ad jf A u p1 p2 p3 p4 p5 j1 j2 j3 j4 j5 hR.k0 hR.rd1 hR.k1 hR.kd9 hR.k10 hR.k11 (u.2.1 34) (u.2.1 35) (u.2.1 36) (u.2.1 37) hR.sw) (cwV 5 hts gL_law_X11_swim rfl rfl rfl (by decide +kernel) ⟨Nat.le_of_ble_eq_true rfl, Nat.le_of_ble_eq_true rfl⟩) (g_preV (C := RX11) hG hC hS 0 (by decide) rfl rfl) rfl rfl hl.1 rfl (lv_room (Nat.le_of_ble_eq_true rfl)) dL_law_661 ⟨by show _ ≤ 601024; omega, by show _ ≤ 7293034; omega⟩) hS (fun r1 u1 H locs hp1 hG hS => ?_)
  obtain ⟨q1, q2, q3⟩ := re_swim hR p1 p2 p3 p4 p5
  obtain ⟨hr1, hu1⟩ := hp1
  rw [← hu1] at q1 q2 q3
  have hM := hR.m.kept q1
  refine lv_aload_n hx hb dL_law_664 rfl (lv_at hl 2 rfl) ?_
  refine l_arg (k := 1) (p0 := 0) (p4 := 4) hx hb hX hbl hbA hS hl rfl rfl (by omega) (by omega) (by omega) e1 dL_law_665 dL_law_666 dL_law_668 dL_law_669 dL_law_670 ?_
  refine l_arg (k := 2) (p0 := 0) (p4 := 4) hx hb hX hbl hbA hS hl rfl rfl (by omega) (by omega) (by omega) e2 dL_law_671 dL_law_672 dL_law_674 dL_law_675 dL_law_676 ?_
  refine l_arg (k := 3) (p0 := 0) (p4 := 4) hx hb hX hbl hbA hS hl rfl rfl (by omega) (by omega) (by omega) e3 dL_law_677 dL_law_678 dL_law_680 dL_law_681 dL_law_682 ?_
  refine l_arg (k := 4) (p0 := 0) (p4 := 4) hx hb hX hbl hbA hS hl rfl rfl (by omega) (by omega) (by omega) e4 dL_law_683 dL_law_684 dL_law_686 dL_law_687 dL_law_688 ?_
  refine l_arg (k := 5) (p0 := 0) (p4 := 4) hx hb hX hbl hbA hS hl rfl rfl (by omega) (by omega) (by omega) e5 dL_law_689 dL_law_690 dL_law_692 dL_law_693 dL_law_694 ?_
  refine g_calli (va_runV (As := [.int (zI p1), .int (zI p2), .int (zI p3), .int (zI p4), .int (zI p5)]) (rest := [.int r1]) ⟨hx, hb, hml, hown, hts⟩ (kX12_swim l D cy ad jf A u1 p1 p2 p3 p4 p5 j1 j2 j3 j4 j5 hM.st) (cwV 5 hts gL_law_X12_swim rfl rfl rfl (by decide +kernel) ⟨Nat.le_of_ble_eq_true rfl, Nat.le_of_ble_eq_true rfl⟩) (g_preV (C := RX12) hG hC hS 8 (by decide) rfl rfl) rfl rfl hl.1 rfl (lv_room (Nat.le_of_ble_eq_true rfl)) dL_law_695 ⟨by show _ ≤ 601024; omega, by show _ ≤ 7293034; omega⟩) hS (fun r2 u2 H locs hp2 hG hS => ?_)
  refine lv_icmp_eq (tgt := 1602) hx hb dL_law_698 (by decide) (fun c9 => ?_) (fun c9 => absurd ?_ c9)
  · refine W.widen (k := cells + 3) (n := slots + 300) (by omega) (by omega) ?_
    exact kk u2 jf _ _ _ (by rw [hp2.2]; exact q3) hG hS hl
  · rw [hr1, q2, hp2.1]
set_option maxHeartbeats 4000000 in
set_option maxRecDepth 100000 in
theorem lc_9 {p : Program} {l : Launch} {e : Env} {s : State} {m : MethodId} {below : List Frame} {meth : Method} {c : Code} {b L : Nat} {ys : Nat → Int} {D : va_G} {cy : Nat → ClassId} {ad : Nat → Nat} {jf : Nat → Int64} {A : Nat → Prop} {u : gS} {H : Heap} {locs : List Loc} {ls : Array Slot} {cells slots : Nat} {Q : State → Prop} {i : Int} (E : lE p l s m meth c b L ys D cy A) (hR : Rel cy u) (hG : gH D cy ad jf A u H) (hS : va_S A s.heap H locs) (hl : lv_has ls 8 (lV ad b i)) (hi : 0 ≤ i ∧ i + 6 ≤ (L : Int)) (hcs : cells + 3 ≤ 601024 ∧ slots + 300 ≤ 7293034) (kk : ∀ (u' : gS) (jf' : Nat → Int64) (H' : Heap) (locs' : List Loc) (ls' : Array Slot), Rel cy u' → gH D cy ad jf' A u' H' → va_S A s.heap H' locs' → lv_has ls' 8 (lV ad b i) → W p l e room_1 s m #[Value.ref b] below meth c H' locs' (cells + 3) (slots + 300) Q (F0 m 1602 ls' [])) : W p l e room_1 s m #[Value.ref b] below meth c H locs cells slots Q (F0 m 703 ls []) := by
  obtain ⟨hx, hb, hml, hown, hts, hX, hbl, hbA, hC, hTh, hl9, hys, hL⟩ := E
  have hl : lv_has ls 8 [(0, .ref b), (1, .ref (ad 0)), (2, .ref (ad 8)), (3, .ref (ad 64)), (4, .int (zI i))] := hl
  obtain ⟨p1, e1⟩ : ∃ z : Int, z = ys (i + 1).toNat := ⟨_, rfl⟩
  have j1 : -2147483648 ≤ p1 ∧ p1 < 2147483648 := by rw [e1]; exact hys _
  refine lv_aload_n hx hb dL_law_703 rfl (lv_at hl 1 rfl) ?_
  refine l_arg (k := 1) (p0 := 0) (p4 := 4) hx hb hX hbl hbA hS hl rfl rfl (by omega) (by omega) (by omega) e1 dL_law_704 dL_law_705 dL_law_707 dL_law_708 dL_law_709 ?_
  refine g_calli (va_runV (As := [.int (zI p1)]) (rest := []) ⟨hx, hb, hml, hown, hts⟩ (kX11_ended l D cy ad jf A u p1 j1 hR.c6 hR.k13 hR.k14) (cwV 1 hts gL_law_X11_ended rfl rfl rfl (by decide +kernel) ⟨Nat.le_of_ble_eq_true rfl, Nat.le_of_ble_eq_true rfl⟩) (g_preV (C := RX11) hG hC hS 0 (by decide) rfl rfl) rfl rfl hl.1 rfl (lv_room (Nat.le_of_ble_eq_true rfl)) dL_law_710 ⟨by show _ ≤ 601024; omega, by show _ ≤ 7293034; omega⟩) hS (fun r1 u1 H locs hp1 hG hS => ?_)
  obtain ⟨hr1, hu1⟩ := hp1
  rw [hu1] at hG
  have hM := hR.m
  refine lv_aload_n hx hb dL_law_713 rfl (lv_at hl 2 rfl) ?_
  refine l_arg (k := 1) (p0 := 0) (p4 := 4) hx hb hX hbl hbA hS hl rfl rfl (by omega) (by omega) (by omega) e1 dL_law_714 dL_law_715 dL_law_717 dL_law_718 dL_law_719 ?_
  refine g_calli (va_runV (As := [.int (zI p1)]) (rest := [.int r1]) ⟨hx, hb, hml, hown, hts⟩ (kX12_ended l D cy ad jf A u p1 j1 hM.i24 hM.i38 hM.i39 hM.i40 hM.i41) (cwV 1 hts gL_law_X12_ended rfl rfl rfl (by decide +kernel) ⟨Nat.le_of_ble_eq_true rfl, Nat.le_of_ble_eq_true rfl⟩) (g_preV (C := RX12) hG hC hS 8 (by decide) rfl rfl) rfl rfl hl.1 rfl (lv_room (Nat.le_of_ble_eq_true rfl)) dL_law_720 ⟨by show _ ≤ 601024; omega, by show _ ≤ 7293034; omega⟩) hS (fun r2 u2 H locs hp2 hG hS => ?_)
  rw [hp2.2] at hG
  refine lv_icmp_eq (tgt := 1602) hx hb dL_law_723 (by decide) (fun c9 => ?_) (fun c9 => absurd ?_ c9)
  · refine W.widen (k := cells + 3) (n := slots + 300) (by omega) (by omega) ?_
    exact kk u jf _ _ _ (hR) hG hS hl
  · rw [hr1, hp2.1, ended_eq hR.lat p1]
set_option maxHeartbeats 4000000 in
set_option maxRecDepth 100000 in
theorem lc_10 {p : Program} {l : Launch} {e : Env} {s : State} {m : MethodId} {below : List Frame} {meth : Method} {c : Code} {b L : Nat} {ys : Nat → Int} {D : va_G} {cy : Nat → ClassId} {ad : Nat → Nat} {jf : Nat → Int64} {A : Nat → Prop} {u : gS} {H : Heap} {locs : List Loc} {ls : Array Slot} {cells slots : Nat} {Q : State → Prop} {i : Int} (E : lE p l s m meth c b L ys D cy A) (hR : Rel cy u) (hG : gH D cy ad jf A u H) (hS : va_S A s.heap H locs) (hl : lv_has ls 8 (lV ad b i)) (hi : 0 ≤ i ∧ i + 6 ≤ (L : Int)) (hcs : cells + 3 ≤ 601024 ∧ slots + 300 ≤ 7293034) (kk : ∀ (u' : gS) (jf' : Nat → Int64) (H' : Heap) (locs' : List Loc) (ls' : Array Slot), Rel cy u' → gH D cy ad jf' A u' H' → va_S A s.heap H' locs' → lv_has ls' 8 (lV ad b i) → W p l e room_1 s m #[Value.ref b] below meth c H' locs' (cells + 3) (slots + 300) Q (F0 m 1602 ls' [])) : W p l e room_1 s m #[Value.ref b] below meth c H locs cells slots Q (F0 m 728 ls []) := by
  obtain ⟨hx, hb, hml, hown, hts, hX, hbl, hbA, hC, hTh, hl9, hys, hL⟩ := E
  have hl : lv_has ls 8 [(0, .ref b), (1, .ref (ad 0)), (2, .ref (ad 8)), (3, .ref (ad 64)), (4, .int (zI i))] := hl
  obtain ⟨p1, e1⟩ : ∃ z : Int, z = ys (i + 1).toNat := ⟨_, rfl⟩
  have j1 : -2147483648 ≤ p1 ∧ p1 < 2147483648 := by rw [e1]; exact hys _
  refine lv_aload_n hx hb dL_law_728 rfl (lv_at hl 1 rfl) ?_
  refine l_arg (k := 1) (p0 := 0) (p4 := 4) hx hb hX hbl hbA hS hl rfl rfl (by omega) (by omega) (by omega) e1 dL_law_729 dL_law_730 dL_law_732 dL_law_733 dL_law_734 ?_
  refine g_calli (va_runV (As := [.int (zI p1)]) (rest := []) ⟨hx, hb, hml, hown, hts⟩ (kX11_where l D cy ad jf A u p1 j1 hR.c6 hR.k13 hR.k14) (cwV 1 hts gL_law_X11_where rfl rfl rfl (by decide +kernel) ⟨Nat.le_of_ble_eq_true rfl, Nat.le_of_ble_eq_true rfl⟩) (g_preV (C := RX11) hG hC hS 0 (by decide) rfl rfl) rfl rfl hl.1 rfl (lv_room (Nat.le_of_ble_eq_true rfl)) dL_law_735 ⟨by show _ ≤ 601024; omega, by show _ ≤ 7293034; omega⟩) hS (fun r1 u1 H locs hp1 hG hS => ?_)
  obtain ⟨hr1, hu1⟩ := hp1
  rw [hu1] at hG
  have hM := hR.m
  refine lv_aload_n hx hb dL_law_738 rfl (lv_at hl 2 rfl) ?_
  refine l_arg (k := 1) (p0 := 0) (p4 := 4) hx hb hX hbl hbA hS hl rfl rfl (by omega) (by omega) (by omega) e1 dL_law_739 dL_law_740 dL_law_742 dL_law_743 dL_law_744 ?_
  refine g_calli (va_runV (As := [.int (zI p1)]) (rest := [.int r1]) ⟨hx, hb, hml, hown, hts⟩ (kX12_where l D cy ad jf A u p1 j1 hM.i24 hM.i38 hM.i39 hM.i40) (cwV 1 hts gL_law_X12_where rfl rfl rfl (by decide +kernel) ⟨Nat.le_of_ble_eq_true rfl, Nat.le_of_ble_eq_true rfl⟩) (g_preV (C := RX12) hG hC hS 8 (by decide) rfl rfl) rfl rfl hl.1 rfl (lv_room (Nat.le_of_ble_eq_true rfl)) dL_law_745 ⟨by show _ ≤ 601024; omega, by show _ ≤ 7293034; omega⟩) hS (fun r2 u2 H locs hp2 hG hS => ?_)
  rw [hp2.2] at hG
  refine lv_icmp_eq (tgt := 1602) hx hb dL_law_748 (by decide) (fun c9 => ?_) (fun c9 => absurd ?_ c9)
  · refine W.widen (k := cells + 3) (n := slots + 300) (by omega) (by omega) ?_
    exact kk u jf _ _ _ (hR) hG hS hl
  · rw [hr1, hp2.1, where_eq hR.lat p1]
set_option maxHeartbeats 4000000 in
set_option maxRecDepth 100000 in
theorem lc_11 {p : Program} {l : Launch} {e : Env} {s : State} {m : MethodId} {below : List Frame} {meth : Method} {c : Code} {b L : Nat} {ys : Nat → Int} {D : va_G} {cy : Nat → ClassId} {ad : Nat → Nat} {jf : Nat → Int64} {A : Nat → Prop} {u : gS} {H : Heap} {locs : List Loc} {ls : Array Slot} {cells slots : Nat} {Q : State → Prop} {i : Int} (E : lE p l s m meth c b L ys D cy A) (hR : Rel cy u) (hG : gH D cy ad jf A u H) (hS : va_S A s.heap H locs) (hl : lv_has ls 8 (lV ad b i)) (hi : 0 ≤ i ∧ i + 6 ≤ (L : Int)) (hcs : cells + 3 ≤ 601024 ∧ slots + 300 ≤ 7293034) (kk : ∀ (u' : gS) (jf' : Nat → Int64) (H' : Heap) (locs' : List Loc) (ls' : Array Slot), Rel cy u' → gH D cy ad jf' A u' H' → va_S A s.heap H' locs' → lv_has ls' 8 (lV ad b i) → W p l e room_1 s m #[Value.ref b] below meth c H' locs' (cells + 3) (slots + 300) Q (F0 m 1602 ls' [])) : W p l e room_1 s m #[Value.ref b] below meth c H locs cells slots Q (F0 m 753 ls []) := by
  obtain ⟨hx, hb, hml, hown, hts, hX, hbl, hbA, hC, hTh, hl9, hys, hL⟩ := E
  have hl : lv_has ls 8 [(0, .ref b), (1, .ref (ad 0)), (2, .ref (ad 8)), (3, .ref (ad 64)), (4, .int (zI i))] := hl
  obtain ⟨p1, e1⟩ : ∃ z : Int, z = ys (i + 1).toNat := ⟨_, rfl⟩
  have j1 : -2147483648 ≤ p1 ∧ p1 < 2147483648 := by rw [e1]; exact hys _
  obtain ⟨p2, e2⟩ : ∃ z : Int, z = ys (i + 2).toNat := ⟨_, rfl⟩
  have j2 : -2147483648 ≤ p2 ∧ p2 < 2147483648 := by rw [e2]; exact hys _
  obtain ⟨p3, e3⟩ : ∃ z : Int, z = ys (i + 3).toNat := ⟨_, rfl⟩
  have j3 : -2147483648 ≤ p3 ∧ p3 < 2147483648 := by rw [e3]; exact hys _
  refine lv_aload_n hx hb dL_law_753 rfl (lv_at hl 1 rfl) ?_
  refine l_arg (k := 1) (p0 := 0) (p4 := 4) hx hb hX hbl hbA hS hl rfl rfl (by omega) (by omega) (by omega) e1 dL_law_754 dL_law_755 dL_law_757 dL_law_758 dL_law_759 ?_
  refine l_arg (k := 2) (p0 := 0) (p4 := 4) hx hb hX hbl hbA hS hl rfl rfl (by omega) (by omega) (by omega) e2 dL_law_760 dL_law_761 dL_law_763 dL_law_764 dL_law_765 ?_
  refine l_arg (k := 3) (p0 := 0) (p4 := 4) hx hb hX hbl hbA hS hl rfl rfl (by omega) (by omega) (by omega) e3 dL_law_766 dL_law_767 dL_law_769 dL_law_770 dL_law_771 ?_
  refine g_calli (va_runV (As := [.int (zI p1), .int (zI p2), .int (zI p3)]) (rest := []) ⟨hx, hb, hml, hown, hts⟩ (kX11_best l D cy ad jf A u p1 p2 p3 j1 j2 j3 hR.k0 hR.rd2 hR.k1 hR.kd9 hR.k10 hR.k11 (u.2.1 34) (u.2.1 35) (u.2.1 36) (u.2.1 37) hR.sw) (cwV 3 hts gL_law_X11_best rfl rfl rfl (by decide +kernel) ⟨Nat.le_of_ble_eq_true rfl, Nat.le_of_ble_eq_true rfl⟩) (g_preV (C := RX11) hG hC hS 0 (by decide) rfl rfl) rfl rfl hl.1 rfl (lv_room (Nat.le_of_ble_eq_true rfl)) dL_law_772 ⟨by show _ ≤ 601024; omega, by show _ ≤ 7293034; omega⟩) hS (fun r1 u1 H locs hp1 hG hS => ?_)
  obtain ⟨q1, q2, q3⟩ := re_best hR p1 p2 p3
  obtain ⟨hr1, hu1⟩ := hp1
  rw [← hu1] at q1 q2 q3
  have hM := hR.m.kept q1
  refine lv_aload_n hx hb dL_law_775 rfl (lv_at hl 2 rfl) ?_
  refine l_arg (k := 1) (p0 := 0) (p4 := 4) hx hb hX hbl hbA hS hl rfl rfl (by omega) (by omega) (by omega) e1 dL_law_776 dL_law_777 dL_law_779 dL_law_780 dL_law_781 ?_
  refine l_arg (k := 2) (p0 := 0) (p4 := 4) hx hb hX hbl hbA hS hl rfl rfl (by omega) (by omega) (by omega) e2 dL_law_782 dL_law_783 dL_law_785 dL_law_786 dL_law_787 ?_
  refine l_arg (k := 3) (p0 := 0) (p4 := 4) hx hb hX hbl hbA hS hl rfl rfl (by omega) (by omega) (by omega) e3 dL_law_788 dL_law_789 dL_law_791 dL_law_792 dL_law_793 ?_
  refine g_calli (va_runV (As := [.int (zI p1), .int (zI p2), .int (zI p3)]) (rest := [.int r1]) ⟨hx, hb, hml, hown, hts⟩ (kX12_best l D cy ad jf A u1 p1 p2 p3 j1 j2 j3 hM.st) (cwV 3 hts gL_law_X12_best rfl rfl rfl (by decide +kernel) ⟨Nat.le_of_ble_eq_true rfl, Nat.le_of_ble_eq_true rfl⟩) (g_preV (C := RX12) hG hC hS 8 (by decide) rfl rfl) rfl rfl hl.1 rfl (lv_room (Nat.le_of_ble_eq_true rfl)) dL_law_794 ⟨by show _ ≤ 601024; omega, by show _ ≤ 7293034; omega⟩) hS (fun r2 u2 H locs hp2 hG hS => ?_)
  refine lv_icmp_eq (tgt := 1602) hx hb dL_law_797 (by decide) (fun c9 => ?_) (fun c9 => absurd ?_ c9)
  · refine W.widen (k := cells + 3) (n := slots + 300) (by omega) (by omega) ?_
    exact kk u2 jf _ _ _ (by rw [hp2.2]; exact q3) hG hS hl
  · rw [hr1, q2, hp2.1]
set_option maxHeartbeats 4000000 in
set_option maxRecDepth 100000 in
theorem lc_12 {p : Program} {l : Launch} {e : Env} {s : State} {m : MethodId} {below : List Frame} {meth : Method} {c : Code} {b L : Nat} {ys : Nat → Int} {D : va_G} {cy : Nat → ClassId} {ad : Nat → Nat} {jf : Nat → Int64} {A : Nat → Prop} {u : gS} {H : Heap} {locs : List Loc} {ls : Array Slot} {cells slots : Nat} {Q : State → Prop} {i : Int} (E : lE p l s m meth c b L ys D cy A) (hR : Rel cy u) (hG : gH D cy ad jf A u H) (hS : va_S A s.heap H locs) (hl : lv_has ls 8 (lV ad b i)) (hi : 0 ≤ i ∧ i + 6 ≤ (L : Int)) (hcs : cells + 3 ≤ 601024 ∧ slots + 300 ≤ 7293034) (kk : ∀ (u' : gS) (jf' : Nat → Int64) (H' : Heap) (locs' : List Loc) (ls' : Array Slot), Rel cy u' → gH D cy ad jf' A u' H' → va_S A s.heap H' locs' → lv_has ls' 8 (lV ad b i) → W p l e room_1 s m #[Value.ref b] below meth c H' locs' (cells + 3) (slots + 300) Q (F0 m 1602 ls' [])) : W p l e room_1 s m #[Value.ref b] below meth c H locs cells slots Q (F0 m 802 ls []) := by
  obtain ⟨hx, hb, hml, hown, hts, hX, hbl, hbA, hC, hTh, hl9, hys, hL⟩ := E
  have hl : lv_has ls 8 [(0, .ref b), (1, .ref (ad 0)), (2, .ref (ad 8)), (3, .ref (ad 64)), (4, .int (zI i))] := hl
  obtain ⟨p1, e1⟩ : ∃ z : Int, z = ys (i + 1).toNat := ⟨_, rfl⟩
  have j1 : -2147483648 ≤ p1 ∧ p1 < 2147483648 := by rw [e1]; exact hys _
  obtain ⟨p2, e2⟩ : ∃ z : Int, z = ys (i + 2).toNat := ⟨_, rfl⟩
  have j2 : -2147483648 ≤ p2 ∧ p2 < 2147483648 := by rw [e2]; exact hys _
  obtain ⟨p3, e3⟩ : ∃ z : Int, z = ys (i + 3).toNat := ⟨_, rfl⟩
  have j3 : -2147483648 ≤ p3 ∧ p3 < 2147483648 := by rw [e3]; exact hys _
  obtain ⟨p4, e4⟩ : ∃ z : Int, z = ys (i + 4).toNat := ⟨_, rfl⟩
  have j4 : -2147483648 ≤ p4 ∧ p4 < 2147483648 := by rw [e4]; exact hys _
  refine lv_aload_n hx hb dL_law_802 rfl (lv_at hl 1 rfl) ?_
  refine l_arg (k := 1) (p0 := 0) (p4 := 4) hx hb hX hbl hbA hS hl rfl rfl (by omega) (by omega) (by omega) e1 dL_law_803 dL_law_804 dL_law_806 dL_law_807 dL_law_808 ?_
  refine l_arg (k := 2) (p0 := 0) (p4 := 4) hx hb hX hbl hbA hS hl rfl rfl (by omega) (by omega) (by omega) e2 dL_law_809 dL_law_810 dL_law_812 dL_law_813 dL_law_814 ?_
  refine l_arg (k := 3) (p0 := 0) (p4 := 4) hx hb hX hbl hbA hS hl rfl rfl (by omega) (by omega) (by omega) e3 dL_law_815 dL_law_816 dL_law_818 dL_law_819 dL_law_820 ?_
  refine l_arg (k := 4) (p0 := 0) (p4 := 4) hx hb hX hbl hbA hS hl rfl rfl (by omega) (by omega) (by omega) e4 dL_law_821 dL_law_822 dL_law_824 dL_law_825 dL_law_826 ?_
  refine g_calli (va_runV (As := [.int (zI p1), .int (zI p2), .int (zI p3), .int (zI p4)]) (rest := []) ⟨hx, hb, hml, hown, hts⟩ (kX11_ends l D cy ad jf A u p1 p2 p3 p4 j1 j2 j3 j4 hR.k0 hR.rd2 hR.k1 hR.kd9 hR.k10 hR.k11 (u.2.1 34) (u.2.1 35) (u.2.1 36) (u.2.1 37) hR.sw) (cwV 4 hts gL_law_X11_ends rfl rfl rfl (by decide +kernel) ⟨Nat.le_of_ble_eq_true rfl, Nat.le_of_ble_eq_true rfl⟩) (g_preV (C := RX11) hG hC hS 0 (by decide) rfl rfl) rfl rfl hl.1 rfl (lv_room (Nat.le_of_ble_eq_true rfl)) dL_law_827 ⟨by show _ ≤ 601024; omega, by show _ ≤ 7293034; omega⟩) hS (fun r1 u1 H locs hp1 hG hS => ?_)
  obtain ⟨q1, q2, q3⟩ := re_ends hR p1 p2 p3 p4
  obtain ⟨hr1, hu1⟩ := hp1
  rw [← hu1] at q1 q2 q3
  have hM := hR.m.kept q1
  refine lv_aload_n hx hb dL_law_830 rfl (lv_at hl 2 rfl) ?_
  refine l_arg (k := 1) (p0 := 0) (p4 := 4) hx hb hX hbl hbA hS hl rfl rfl (by omega) (by omega) (by omega) e1 dL_law_831 dL_law_832 dL_law_834 dL_law_835 dL_law_836 ?_
  refine l_arg (k := 2) (p0 := 0) (p4 := 4) hx hb hX hbl hbA hS hl rfl rfl (by omega) (by omega) (by omega) e2 dL_law_837 dL_law_838 dL_law_840 dL_law_841 dL_law_842 ?_
  refine l_arg (k := 3) (p0 := 0) (p4 := 4) hx hb hX hbl hbA hS hl rfl rfl (by omega) (by omega) (by omega) e3 dL_law_843 dL_law_844 dL_law_846 dL_law_847 dL_law_848 ?_
  refine l_arg (k := 4) (p0 := 0) (p4 := 4) hx hb hX hbl hbA hS hl rfl rfl (by omega) (by omega) (by omega) e4 dL_law_849 dL_law_850 dL_law_852 dL_law_853 dL_law_854 ?_
  refine g_calli (va_runV (As := [.int (zI p1), .int (zI p2), .int (zI p3), .int (zI p4)]) (rest := [.int r1]) ⟨hx, hb, hml, hown, hts⟩ (kX12_ends l D cy ad jf A u1 p1 p2 p3 p4 j1 j2 j3 j4 hM.st) (cwV 4 hts gL_law_X12_ends rfl rfl rfl (by decide +kernel) ⟨Nat.le_of_ble_eq_true rfl, Nat.le_of_ble_eq_true rfl⟩) (g_preV (C := RX12) hG hC hS 8 (by decide) rfl rfl) rfl rfl hl.1 rfl (lv_room (Nat.le_of_ble_eq_true rfl)) dL_law_855 ⟨by show _ ≤ 601024; omega, by show _ ≤ 7293034; omega⟩) hS (fun r2 u2 H locs hp2 hG hS => ?_)
  refine lv_icmp_eq (tgt := 1602) hx hb dL_law_858 (by decide) (fun c9 => ?_) (fun c9 => absurd ?_ c9)
  · refine W.widen (k := cells + 3) (n := slots + 300) (by omega) (by omega) ?_
    exact kk u2 jf _ _ _ (by rw [hp2.2]; exact q3) hG hS hl
  · rw [hr1, q2, hp2.1]
set_option maxHeartbeats 4000000 in
set_option maxRecDepth 100000 in
theorem lc_13 {p : Program} {l : Launch} {e : Env} {s : State} {m : MethodId} {below : List Frame} {meth : Method} {c : Code} {b L : Nat} {ys : Nat → Int} {D : va_G} {cy : Nat → ClassId} {ad : Nat → Nat} {jf : Nat → Int64} {A : Nat → Prop} {u : gS} {H : Heap} {locs : List Loc} {ls : Array Slot} {cells slots : Nat} {Q : State → Prop} {i : Int} (E : lE p l s m meth c b L ys D cy A) (hR : Rel cy u) (hG : gH D cy ad jf A u H) (hS : va_S A s.heap H locs) (hl : lv_has ls 8 (lV ad b i)) (hi : 0 ≤ i ∧ i + 6 ≤ (L : Int)) (hcs : cells + 3 ≤ 601024 ∧ slots + 300 ≤ 7293034) (kk : ∀ (u' : gS) (jf' : Nat → Int64) (H' : Heap) (locs' : List Loc) (ls' : Array Slot), Rel cy u' → gH D cy ad jf' A u' H' → va_S A s.heap H' locs' → lv_has ls' 8 (lV ad b i) → W p l e room_1 s m #[Value.ref b] below meth c H' locs' (cells + 3) (slots + 300) Q (F0 m 1602 ls' [])) : W p l e room_1 s m #[Value.ref b] below meth c H locs cells slots Q (F0 m 863 ls []) := by
  obtain ⟨hx, hb, hml, hown, hts, hX, hbl, hbA, hC, hTh, hl9, hys, hL⟩ := E
  have hl : lv_has ls 8 [(0, .ref b), (1, .ref (ad 0)), (2, .ref (ad 8)), (3, .ref (ad 64)), (4, .int (zI i))] := hl
  obtain ⟨p1, e1⟩ : ∃ z : Int, z = ys (i + 1).toNat := ⟨_, rfl⟩
  have j1 : -2147483648 ≤ p1 ∧ p1 < 2147483648 := by rw [e1]; exact hys _
  obtain ⟨p2, e2⟩ : ∃ z : Int, z = ys (i + 2).toNat := ⟨_, rfl⟩
  have j2 : -2147483648 ≤ p2 ∧ p2 < 2147483648 := by rw [e2]; exact hys _
  obtain ⟨p3, e3⟩ : ∃ z : Int, z = ys (i + 3).toNat := ⟨_, rfl⟩
  have j3 : -2147483648 ≤ p3 ∧ p3 < 2147483648 := by rw [e3]; exact hys _
  obtain ⟨p4, e4⟩ : ∃ z : Int, z = ys (i + 4).toNat := ⟨_, rfl⟩
  have j4 : -2147483648 ≤ p4 ∧ p4 < 2147483648 := by rw [e4]; exact hys _
  refine lv_aload_n hx hb dL_law_863 rfl (lv_at hl 1 rfl) ?_
  refine l_arg (k := 1) (p0 := 0) (p4 := 4) hx hb hX hbl hbA hS hl rfl rfl (by omega) (by omega) (by omega) e1 dL_law_864 dL_law_865 dL_law_867 dL_law_868 dL_law_869 ?_
  refine l_arg (k := 2) (p0 := 0) (p4 := 4) hx hb hX hbl hbA hS hl rfl rfl (by omega) (by omega) (by omega) e2 dL_law_870 dL_law_871 dL_law_873 dL_law_874 dL_law_875 ?_
  refine l_arg (k := 3) (p0 := 0) (p4 := 4) hx hb hX hbl hbA hS hl rfl rfl (by omega) (by omega) (by omega) e3 dL_law_876 dL_law_877 dL_law_879 dL_law_880 dL_law_881 ?_
  refine l_arg (k := 4) (p0 := 0) (p4 := 4) hx hb hX hbl hbA hS hl rfl rfl (by omega) (by omega) (by omega) e4 dL_law_882 dL_law_883 dL_law_885 dL_law_886 dL_law_887 ?_
  refine g_calli (va_runV (As := [.int (zI p1), .int (zI p2), .int (zI p3), .int (zI p4)]) (rest := []) ⟨hx, hb, hml, hown, hts⟩ (kX11_ship l D cy ad jf A u p1 p2 p3 p4 j1 j2 j3 j4 hR.k3) (cwV 4 hts gL_law_X11_ship rfl rfl rfl (by decide +kernel) ⟨Nat.le_of_ble_eq_true rfl, Nat.le_of_ble_eq_true rfl⟩) (g_preV (C := RX11) hG hC hS 0 (by decide) rfl rfl) rfl rfl hl.1 rfl (lv_room (Nat.le_of_ble_eq_true rfl)) dL_law_888 ⟨by show _ ≤ 601024; omega, by show _ ≤ 7293034; omega⟩) hS (fun r1 u1 H locs hp1 hG hS => ?_)
  obtain ⟨q1, q2, q3⟩ := re_ship hR hp1
  have hM := hR.m.kept q1
  refine lv_aload_n hx hb dL_law_891 rfl (lv_at hl 2 rfl) ?_
  refine l_arg (k := 1) (p0 := 0) (p4 := 4) hx hb hX hbl hbA hS hl rfl rfl (by omega) (by omega) (by omega) e1 dL_law_892 dL_law_893 dL_law_895 dL_law_896 dL_law_897 ?_
  refine l_arg (k := 2) (p0 := 0) (p4 := 4) hx hb hX hbl hbA hS hl rfl rfl (by omega) (by omega) (by omega) e2 dL_law_898 dL_law_899 dL_law_901 dL_law_902 dL_law_903 ?_
  refine l_arg (k := 3) (p0 := 0) (p4 := 4) hx hb hX hbl hbA hS hl rfl rfl (by omega) (by omega) (by omega) e3 dL_law_904 dL_law_905 dL_law_907 dL_law_908 dL_law_909 ?_
  refine l_arg (k := 4) (p0 := 0) (p4 := 4) hx hb hX hbl hbA hS hl rfl rfl (by omega) (by omega) (by omega) e4 dL_law_910 dL_law_911 dL_law_913 dL_law_914 dL_law_915 ?_
  refine g_calli (va_runV (As := [.int (zI p1), .int (zI p2), .int (zI p3), .int (zI p4)]) (rest := [.int r1]) ⟨hx, hb, hml, hown, hts⟩ (kX12_ship l D cy ad jf A u1 p1 p2 p3 p4 j1 j2 j3 j4 hM.i25) (cwV 4 hts gL_law_X12_ship rfl rfl rfl (by decide +kernel) ⟨Nat.le_of_ble_eq_true rfl, Nat.le_of_ble_eq_true rfl⟩) (g_preV (C := RX12) hG hC hS 8 (by decide) rfl rfl) rfl rfl hl.1 rfl (lv_room (Nat.le_of_ble_eq_true rfl)) dL_law_916 ⟨by show _ ≤ 601024; omega, by show _ ≤ 7293034; omega⟩) hS (fun r2 u2 H locs hp2 hG hS => ?_)
  refine lv_icmp_eq (tgt := 1602) hx hb dL_law_919 (by decide) (fun c9 => ?_) (fun c9 => absurd ?_ c9)
  · refine W.widen (k := cells + 3) (n := slots + 300) (by omega) (by omega) ?_
    exact kk u2 jf _ _ _ (by rw [hp2.2]; exact q3) hG hS hl
  · rw [q2, hp2.1]
set_option maxHeartbeats 4000000 in
set_option maxRecDepth 100000 in
theorem lc_14 {p : Program} {l : Launch} {e : Env} {s : State} {m : MethodId} {below : List Frame} {meth : Method} {c : Code} {b L : Nat} {ys : Nat → Int} {D : va_G} {cy : Nat → ClassId} {ad : Nat → Nat} {jf : Nat → Int64} {A : Nat → Prop} {u : gS} {H : Heap} {locs : List Loc} {ls : Array Slot} {cells slots : Nat} {Q : State → Prop} {i : Int} (E : lE p l s m meth c b L ys D cy A) (hR : Rel cy u) (hG : gH D cy ad jf A u H) (hS : va_S A s.heap H locs) (hl : lv_has ls 8 (lV ad b i)) (hi : 0 ≤ i ∧ i + 6 ≤ (L : Int)) (hcs : cells + 3 ≤ 601024 ∧ slots + 300 ≤ 7293034) (kk : ∀ (u' : gS) (jf' : Nat → Int64) (H' : Heap) (locs' : List Loc) (ls' : Array Slot), Rel cy u' → gH D cy ad jf' A u' H' → va_S A s.heap H' locs' → lv_has ls' 8 (lV ad b i) → W p l e room_1 s m #[Value.ref b] below meth c H' locs' (cells + 3) (slots + 300) Q (F0 m 1602 ls' [])) : W p l e room_1 s m #[Value.ref b] below meth c H locs cells slots Q (F0 m 924 ls []) := by
  obtain ⟨hx, hb, hml, hown, hts, hX, hbl, hbA, hC, hTh, hl9, hys, hL⟩ := E
  have hl : lv_has ls 8 [(0, .ref b), (1, .ref (ad 0)), (2, .ref (ad 8)), (3, .ref (ad 64)), (4, .int (zI i))] := hl
  obtain ⟨p1, e1⟩ : ∃ z : Int, z = ys (i + 1).toNat := ⟨_, rfl⟩
  have j1 : -2147483648 ≤ p1 ∧ p1 < 2147483648 := by rw [e1]; exact hys _
  refine lv_aload_n hx hb dL_law_924 rfl (lv_at hl 1 rfl) ?_
  refine l_arg (k := 1) (p0 := 0) (p4 := 4) hx hb hX hbl hbA hS hl rfl rfl (by omega) (by omega) (by omega) e1 dL_law_925 dL_law_926 dL_law_928 dL_law_929 dL_law_930 ?_
  refine g_calli (va_runV (As := [.int (zI p1)]) (rest := []) ⟨hx, hb, hml, hown, hts⟩ (kX11_near l D cy ad jf A u p1 j1 hR.c6 hR.k2 hR.k13 hR.k14 (u.2.1 42) (u.2.1 43) (u.2.1 44) (u.2.1 45) hR.sh hR.k3) (cwV 1 hts gL_law_X11_near rfl rfl rfl (by decide +kernel) ⟨Nat.le_of_ble_eq_true rfl, Nat.le_of_ble_eq_true rfl⟩) (g_preV (C := RX11) hG hC hS 0 (by decide) rfl rfl) rfl rfl hl.1 rfl (lv_room (Nat.le_of_ble_eq_true rfl)) dL_law_931 ⟨by show _ ≤ 601024; omega, by show _ ≤ 7293034; omega⟩) hS (fun r1 u1 H locs hp1 hG hS => ?_)
  obtain ⟨hr1, hu1⟩ := hp1
  rw [hu1] at hG
  have hM := hR.m
  refine lv_aload_n hx hb dL_law_934 rfl (lv_at hl 2 rfl) ?_
  refine l_arg (k := 1) (p0 := 0) (p4 := 4) hx hb hX hbl hbA hS hl rfl rfl (by omega) (by omega) (by omega) e1 dL_law_935 dL_law_936 dL_law_938 dL_law_939 dL_law_940 ?_
  refine g_calli (va_runV (As := [.int (zI p1)]) (rest := [.int r1]) ⟨hx, hb, hml, hown, hts⟩ (kX12_near l D cy ad jf A u p1 j1 hM.i22 hM.i24 hM.i25 hM.i38 hM.i39 hM.i40 hM.i42 hM.i43 hM.i44 hM.i45) (cwV 1 hts gL_law_X12_near rfl rfl rfl (by decide +kernel) ⟨Nat.le_of_ble_eq_true rfl, Nat.le_of_ble_eq_true rfl⟩) (g_preV (C := RX12) hG hC hS 8 (by decide) rfl rfl) rfl rfl hl.1 rfl (lv_room (Nat.le_of_ble_eq_true rfl)) dL_law_941 ⟨by show _ ≤ 601024; omega, by show _ ≤ 7293034; omega⟩) hS (fun r2 u2 H locs hp2 hG hS => ?_)
  rw [hp2.2] at hG
  refine lv_icmp_eq (tgt := 1602) hx hb dL_law_944 (by decide) (fun c9 => ?_) (fun c9 => absurd ?_ c9)
  · refine W.widen (k := cells + 3) (n := slots + 300) (by omega) (by omega) ?_
    exact kk u jf _ _ _ (hR) hG hS hl
  · rw [hr1, hp2.1, near_eq hR.lat hR.e2 hR.e3 p1]
set_option maxHeartbeats 4000000 in
set_option maxRecDepth 100000 in
theorem lc_15 {p : Program} {l : Launch} {e : Env} {s : State} {m : MethodId} {below : List Frame} {meth : Method} {c : Code} {b L : Nat} {ys : Nat → Int} {D : va_G} {cy : Nat → ClassId} {ad : Nat → Nat} {jf : Nat → Int64} {A : Nat → Prop} {u : gS} {H : Heap} {locs : List Loc} {ls : Array Slot} {cells slots : Nat} {Q : State → Prop} {i : Int} (E : lE p l s m meth c b L ys D cy A) (hR : Rel cy u) (hG : gH D cy ad jf A u H) (hS : va_S A s.heap H locs) (hl : lv_has ls 8 (lV ad b i)) (hi : 0 ≤ i ∧ i + 6 ≤ (L : Int)) (hcs : cells + 3 ≤ 601024 ∧ slots + 300 ≤ 7293034) (kk : ∀ (u' : gS) (jf' : Nat → Int64) (H' : Heap) (locs' : List Loc) (ls' : Array Slot), Rel cy u' → gH D cy ad jf' A u' H' → va_S A s.heap H' locs' → lv_has ls' 8 (lV ad b i) → W p l e room_1 s m #[Value.ref b] below meth c H' locs' (cells + 3) (slots + 300) Q (F0 m 1602 ls' [])) : W p l e room_1 s m #[Value.ref b] below meth c H locs cells slots Q (F0 m 949 ls []) := by
  obtain ⟨hx, hb, hml, hown, hts, hX, hbl, hbA, hC, hTh, hl9, hys, hL⟩ := E
  have hl : lv_has ls 8 [(0, .ref b), (1, .ref (ad 0)), (2, .ref (ad 8)), (3, .ref (ad 64)), (4, .int (zI i))] := hl
  refine lv_aload_n hx hb dL_law_949 rfl (lv_at hl 1 rfl) ?_
  refine g_calli (va_runV (As := []) (rest := []) ⟨hx, hb, hml, hown, hts⟩ (kX11_lanes l D cy ad jf A u  hR.c6 hR.k2 hR.k13 hR.k14 (u.2.1 42) (u.2.1 43) (u.2.1 44) (u.2.1 45) hR.sh hR.k3) (cwV 0 hts gL_law_X11_lanes rfl rfl rfl (by decide +kernel) ⟨Nat.le_of_ble_eq_true rfl, Nat.le_of_ble_eq_true rfl⟩) (g_preV (C := RX11) hG hC hS 0 (by decide) rfl rfl) rfl rfl hl.1 rfl (lv_room (Nat.le_of_ble_eq_true rfl)) dL_law_950 ⟨by show _ ≤ 601024; omega, by show _ ≤ 7293034; omega⟩) hS (fun r1 u1 H locs hp1 hG hS => ?_)
  obtain ⟨hr1, hu1⟩ := hp1
  rw [hu1] at hG
  have hM := hR.m
  refine lv_aload_n hx hb dL_law_953 rfl (lv_at hl 2 rfl) ?_
  refine g_calli (va_runV (As := []) (rest := [.int r1]) ⟨hx, hb, hml, hown, hts⟩ (kX12_lanes l D cy ad jf A u  hM.i22 hM.i24 hM.i25 hM.i38 hM.i39 hM.i40 hM.i42 hM.i43 hM.i44 hM.i45) (cwV 0 hts gL_law_X12_lanes rfl rfl rfl (by decide +kernel) ⟨Nat.le_of_ble_eq_true rfl, Nat.le_of_ble_eq_true rfl⟩) (g_preV (C := RX12) hG hC hS 8 (by decide) rfl rfl) rfl rfl hl.1 rfl (lv_room (Nat.le_of_ble_eq_true rfl)) dL_law_954 ⟨by show _ ≤ 601024; omega, by show _ ≤ 7293034; omega⟩) hS (fun r2 u2 H locs hp2 hG hS => ?_)
  rw [hp2.2] at hG
  refine lv_icmp_eq (tgt := 1602) hx hb dL_law_957 (by decide) (fun c9 => ?_) (fun c9 => absurd ?_ c9)
  · refine W.widen (k := cells + 3) (n := slots + 300) (by omega) (by omega) ?_
    exact kk u jf _ _ _ (hR) hG hS hl
  · rw [hr1, hp2.1, lanes_eq hR.lat hR.e2 hR.e3]
set_option maxHeartbeats 4000000 in
set_option maxRecDepth 100000 in
theorem lc_16 {p : Program} {l : Launch} {e : Env} {s : State} {m : MethodId} {below : List Frame} {meth : Method} {c : Code} {b L : Nat} {ys : Nat → Int} {D : va_G} {cy : Nat → ClassId} {ad : Nat → Nat} {jf : Nat → Int64} {A : Nat → Prop} {u : gS} {H : Heap} {locs : List Loc} {ls : Array Slot} {cells slots : Nat} {Q : State → Prop} {i : Int} (E : lE p l s m meth c b L ys D cy A) (hR : Rel cy u) (hG : gH D cy ad jf A u H) (hS : va_S A s.heap H locs) (hl : lv_has ls 8 (lV ad b i)) (hi : 0 ≤ i ∧ i + 6 ≤ (L : Int)) (hcs : cells + 3 ≤ 601024 ∧ slots + 300 ≤ 7293034) (kk : ∀ (u' : gS) (jf' : Nat → Int64) (H' : Heap) (locs' : List Loc) (ls' : Array Slot), Rel cy u' → gH D cy ad jf' A u' H' → va_S A s.heap H' locs' → lv_has ls' 8 (lV ad b i) → W p l e room_1 s m #[Value.ref b] below meth c H' locs' (cells + 3) (slots + 300) Q (F0 m 1602 ls' [])) : W p l e room_1 s m #[Value.ref b] below meth c H locs cells slots Q (F0 m 962 ls []) := by
  obtain ⟨hx, hb, hml, hown, hts, hX, hbl, hbA, hC, hTh, hl9, hys, hL⟩ := E
  have hl : lv_has ls 8 [(0, .ref b), (1, .ref (ad 0)), (2, .ref (ad 8)), (3, .ref (ad 64)), (4, .int (zI i))] := hl
  obtain ⟨p1, e1⟩ : ∃ z : Int, z = ys (i + 1).toNat := ⟨_, rfl⟩
  have j1 : -2147483648 ≤ p1 ∧ p1 < 2147483648 := by rw [e1]; exact hys _
  refine lv_aload_n hx hb dL_law_962 rfl (lv_at hl 1 rfl) ?_
  refine l_arg (k := 1) (p0 := 0) (p4 := 4) hx hb hX hbl hbA hS hl rfl rfl (by omega) (by omega) (by omega) e1 dL_law_963 dL_law_964 dL_law_966 dL_law_967 dL_law_968 ?_
  refine g_calli (va_runV (As := [.int (zI p1)]) (rest := []) ⟨hx, hb, hml, hown, hts⟩ (kX11_stroke l D cy ad jf A u p1 j1 hR.k15) (cwV 1 hts gL_law_X11_stroke rfl rfl rfl (by decide +kernel) ⟨Nat.le_of_ble_eq_true rfl, Nat.le_of_ble_eq_true rfl⟩) (g_preV (C := RX11) hG hC hS 0 (by decide) rfl rfl) rfl rfl hl.1 rfl (lv_room (Nat.le_of_ble_eq_true rfl)) dL_law_969 ⟨by show _ ≤ 601024; omega, by show _ ≤ 7293034; omega⟩) hS (fun r1 u1 H locs hp1 hG hS => ?_)
  obtain ⟨q1, q2, q3⟩ := re_stroke hR p1
  obtain ⟨hr1, hu1⟩ := hp1
  rw [← hu1] at q1 q2 q3
  have hM := hR.m.kept q1
  refine lv_aload_n hx hb dL_law_972 rfl (lv_at hl 2 rfl) ?_
  refine l_arg (k := 1) (p0 := 0) (p4 := 4) hx hb hX hbl hbA hS hl rfl rfl (by omega) (by omega) (by omega) e1 dL_law_973 dL_law_974 dL_law_976 dL_law_977 dL_law_978 ?_
  refine g_calli (va_runV (As := [.int (zI p1)]) (rest := [.int r1]) ⟨hx, hb, hml, hown, hts⟩ (kX12_stroke l D cy ad jf A u1 p1 j1 hM.i26) (cwV 1 hts gL_law_X12_stroke rfl rfl rfl (by decide +kernel) ⟨Nat.le_of_ble_eq_true rfl, Nat.le_of_ble_eq_true rfl⟩) (g_preV (C := RX12) hG hC hS 8 (by decide) rfl rfl) rfl rfl hl.1 rfl (lv_room (Nat.le_of_ble_eq_true rfl)) dL_law_979 ⟨by show _ ≤ 601024; omega, by show _ ≤ 7293034; omega⟩) hS (fun r2 u2 H locs hp2 hG hS => ?_)
  refine lv_icmp_eq (tgt := 1602) hx hb dL_law_982 (by decide) (fun c9 => ?_) (fun c9 => absurd ?_ c9)
  · refine W.widen (k := cells + 3) (n := slots + 300) (by omega) (by omega) ?_
    exact kk u2 jf _ _ _ (by rw [hp2.2]; exact q3) hG hS hl
  · rw [hr1, q2, hp2.1]
set_option maxHeartbeats 4000000 in
set_option maxRecDepth 100000 in
theorem lc_17 {p : Program} {l : Launch} {e : Env} {s : State} {m : MethodId} {below : List Frame} {meth : Method} {c : Code} {b L : Nat} {ys : Nat → Int} {D : va_G} {cy : Nat → ClassId} {ad : Nat → Nat} {jf : Nat → Int64} {A : Nat → Prop} {u : gS} {H : Heap} {locs : List Loc} {ls : Array Slot} {cells slots : Nat} {Q : State → Prop} {i : Int} (E : lE p l s m meth c b L ys D cy A) (hR : Rel cy u) (hG : gH D cy ad jf A u H) (hS : va_S A s.heap H locs) (hl : lv_has ls 8 (lV ad b i)) (hi : 0 ≤ i ∧ i + 6 ≤ (L : Int)) (hcs : cells + 3 ≤ 601024 ∧ slots + 300 ≤ 7293034) (kk : ∀ (u' : gS) (jf' : Nat → Int64) (H' : Heap) (locs' : List Loc) (ls' : Array Slot), Rel cy u' → gH D cy ad jf' A u' H' → va_S A s.heap H' locs' → lv_has ls' 8 (lV ad b i) → W p l e room_1 s m #[Value.ref b] below meth c H' locs' (cells + 3) (slots + 300) Q (F0 m 1602 ls' [])) : W p l e room_1 s m #[Value.ref b] below meth c H locs cells slots Q (F0 m 987 ls []) := by
  obtain ⟨hx, hb, hml, hown, hts, hX, hbl, hbA, hC, hTh, hl9, hys, hL⟩ := E
  have hl : lv_has ls 8 [(0, .ref b), (1, .ref (ad 0)), (2, .ref (ad 8)), (3, .ref (ad 64)), (4, .int (zI i))] := hl
  refine lv_aload_n hx hb dL_law_987 rfl (lv_at hl 1 rfl) ?_
  refine g_calli (va_runV (As := []) (rest := []) ⟨hx, hb, hml, hown, hts⟩ (kX11_strokes l D cy ad jf A u  hR.k15) (cwV 0 hts gL_law_X11_strokes rfl rfl rfl (by decide +kernel) ⟨Nat.le_of_ble_eq_true rfl, Nat.le_of_ble_eq_true rfl⟩) (g_preV (C := RX11) hG hC hS 0 (by decide) rfl rfl) rfl rfl hl.1 rfl (lv_room (Nat.le_of_ble_eq_true rfl)) dL_law_988 ⟨by show _ ≤ 601024; omega, by show _ ≤ 7293034; omega⟩) hS (fun r1 u1 H locs hp1 hG hS => ?_)
  obtain ⟨q1, q2, q3⟩ := re_strokes hR
  obtain ⟨hr1, hu1⟩ := hp1
  rw [← hu1] at q1 q2 q3
  have hM := hR.m.kept q1
  refine lv_aload_n hx hb dL_law_991 rfl (lv_at hl 2 rfl) ?_
  refine g_calli (va_runV (As := []) (rest := [.int r1]) ⟨hx, hb, hml, hown, hts⟩ (kX12_strokes l D cy ad jf A u1  hM.i26) (cwV 0 hts gL_law_X12_strokes rfl rfl rfl (by decide +kernel) ⟨Nat.le_of_ble_eq_true rfl, Nat.le_of_ble_eq_true rfl⟩) (g_preV (C := RX12) hG hC hS 8 (by decide) rfl rfl) rfl rfl hl.1 rfl (lv_room (Nat.le_of_ble_eq_true rfl)) dL_law_992 ⟨by show _ ≤ 601024; omega, by show _ ≤ 7293034; omega⟩) hS (fun r2 u2 H locs hp2 hG hS => ?_)
  refine lv_icmp_eq (tgt := 1602) hx hb dL_law_995 (by decide) (fun c9 => ?_) (fun c9 => absurd ?_ c9)
  · refine W.widen (k := cells + 3) (n := slots + 300) (by omega) (by omega) ?_
    exact kk u2 jf _ _ _ (by rw [hp2.2]; exact q3) hG hS hl
  · rw [hr1, q2, hp2.1]
set_option maxHeartbeats 4000000 in
set_option maxRecDepth 100000 in
theorem lc_18 {p : Program} {l : Launch} {e : Env} {s : State} {m : MethodId} {below : List Frame} {meth : Method} {c : Code} {b L : Nat} {ys : Nat → Int} {D : va_G} {cy : Nat → ClassId} {ad : Nat → Nat} {jf : Nat → Int64} {A : Nat → Prop} {u : gS} {H : Heap} {locs : List Loc} {ls : Array Slot} {cells slots : Nat} {Q : State → Prop} {i : Int} (E : lE p l s m meth c b L ys D cy A) (hR : Rel cy u) (hG : gH D cy ad jf A u H) (hS : va_S A s.heap H locs) (hl : lv_has ls 8 (lV ad b i)) (hi : 0 ≤ i ∧ i + 6 ≤ (L : Int)) (hcs : cells + 3 ≤ 601024 ∧ slots + 300 ≤ 7293034) (kk : ∀ (u' : gS) (jf' : Nat → Int64) (H' : Heap) (locs' : List Loc) (ls' : Array Slot), Rel cy u' → gH D cy ad jf' A u' H' → va_S A s.heap H' locs' → lv_has ls' 8 (lV ad b i) → W p l e room_1 s m #[Value.ref b] below meth c H' locs' (cells + 3) (slots + 300) Q (F0 m 1602 ls' [])) : W p l e room_1 s m #[Value.ref b] below meth c H locs cells slots Q (F0 m 1000 ls []) := by
  obtain ⟨hx, hb, hml, hown, hts, hX, hbl, hbA, hC, hTh, hl9, hys, hL⟩ := E
  have hl : lv_has ls 8 [(0, .ref b), (1, .ref (ad 0)), (2, .ref (ad 8)), (3, .ref (ad 64)), (4, .int (zI i))] := hl
  obtain ⟨p1, e1⟩ : ∃ z : Int, z = ys (i + 1).toNat := ⟨_, rfl⟩
  have j1 : -2147483648 ≤ p1 ∧ p1 < 2147483648 := by rw [e1]; exact hys _
  obtain ⟨p2, e2⟩ : ∃ z : Int, z = ys (i + 2).toNat := ⟨_, rfl⟩
  have j2 : -2147483648 ≤ p2 ∧ p2 < 2147483648 := by rw [e2]; exact hys _
  refine lv_aload_n hx hb dL_law_1000 rfl (lv_at hl 1 rfl) ?_
  refine l_arg (k := 1) (p0 := 0) (p4 := 4) hx hb hX hbl hbA hS hl rfl rfl (by omega) (by omega) (by omega) e1 dL_law_1001 dL_law_1002 dL_law_1004 dL_law_1005 dL_law_1006 ?_
  refine l_arg (k := 2) (p0 := 0) (p4 := 4) hx hb hX hbl hbA hS hl rfl rfl (by omega) (by omega) (by omega) e2 dL_law_1007 dL_law_1008 dL_law_1010 dL_law_1011 dL_law_1012 ?_
  refine g_calli (va_runV (As := [.int (zI p1), .int (zI p2)]) (rest := []) ⟨hx, hb, hml, hown, hts⟩ (kX11_stop l D cy ad jf A u p1 p2 j1 j2 hR.k15 hR.c22) (cwV 2 hts gL_law_X11_stop rfl rfl rfl (by decide +kernel) ⟨Nat.le_of_ble_eq_true rfl, Nat.le_of_ble_eq_true rfl⟩) (g_preV (C := RX11) hG hC hS 0 (by decide) rfl rfl) rfl rfl hl.1 rfl (lv_room (Nat.le_of_ble_eq_true rfl)) dL_law_1013 ⟨by show _ ≤ 601024; omega, by show _ ≤ 7293034; omega⟩) hS (fun r1 u1 H locs hp1 hG hS => ?_)
  obtain ⟨hr1, hu1⟩ := hp1
  rw [hu1] at hG
  have hM := hR.m
  refine lv_aload_n hx hb dL_law_1016 rfl (lv_at hl 2 rfl) ?_
  refine l_arg (k := 1) (p0 := 0) (p4 := 4) hx hb hX hbl hbA hS hl rfl rfl (by omega) (by omega) (by omega) e1 dL_law_1017 dL_law_1018 dL_law_1020 dL_law_1021 dL_law_1022 ?_
  refine l_arg (k := 2) (p0 := 0) (p4 := 4) hx hb hX hbl hbA hS hl rfl rfl (by omega) (by omega) (by omega) e2 dL_law_1023 dL_law_1024 dL_law_1026 dL_law_1027 dL_law_1028 ?_
  refine g_calli (va_runV (As := [.int (zI p1), .int (zI p2)]) (rest := [.int r1]) ⟨hx, hb, hml, hown, hts⟩ (kX12_stop l D cy ad jf A u p1 p2 j1 j2 hM.i26 hM.i46) (cwV 2 hts gL_law_X12_stop rfl rfl rfl (by decide +kernel) ⟨Nat.le_of_ble_eq_true rfl, Nat.le_of_ble_eq_true rfl⟩) (g_preV (C := RX12) hG hC hS 8 (by decide) rfl rfl) rfl rfl hl.1 rfl (lv_room (Nat.le_of_ble_eq_true rfl)) dL_law_1029 ⟨by show _ ≤ 601024; omega, by show _ ≤ 7293034; omega⟩) hS (fun r2 u2 H locs hp2 hG hS => ?_)
  rw [hp2.2] at hG
  refine lv_icmp_eq (tgt := 1602) hx hb dL_law_1032 (by decide) (fun c9 => ?_) (fun c9 => absurd ?_ c9)
  · refine W.widen (k := cells + 3) (n := slots + 300) (by omega) (by omega) ?_
    exact kk u jf _ _ _ (hR) hG hS hl
  · rw [hr1, hp2.1, stop_eq hR.tal p1 p2]
set_option maxHeartbeats 4000000 in
set_option maxRecDepth 100000 in
theorem lc_19 {p : Program} {l : Launch} {e : Env} {s : State} {m : MethodId} {below : List Frame} {meth : Method} {c : Code} {b L : Nat} {ys : Nat → Int} {D : va_G} {cy : Nat → ClassId} {ad : Nat → Nat} {jf : Nat → Int64} {A : Nat → Prop} {u : gS} {H : Heap} {locs : List Loc} {ls : Array Slot} {cells slots : Nat} {Q : State → Prop} {i : Int} (E : lE p l s m meth c b L ys D cy A) (hR : Rel cy u) (hG : gH D cy ad jf A u H) (hS : va_S A s.heap H locs) (hl : lv_has ls 8 (lV ad b i)) (hi : 0 ≤ i ∧ i + 6 ≤ (L : Int)) (hcs : cells + 3 ≤ 601024 ∧ slots + 300 ≤ 7293034) (kk : ∀ (u' : gS) (jf' : Nat → Int64) (H' : Heap) (locs' : List Loc) (ls' : Array Slot), Rel cy u' → gH D cy ad jf' A u' H' → va_S A s.heap H' locs' → lv_has ls' 8 (lV ad b i) → W p l e room_1 s m #[Value.ref b] below meth c H' locs' (cells + 3) (slots + 300) Q (F0 m 1602 ls' [])) : W p l e room_1 s m #[Value.ref b] below meth c H locs cells slots Q (F0 m 1037 ls []) := by
  obtain ⟨hx, hb, hml, hown, hts, hX, hbl, hbA, hC, hTh, hl9, hys, hL⟩ := E
  have hl : lv_has ls 8 [(0, .ref b), (1, .ref (ad 0)), (2, .ref (ad 8)), (3, .ref (ad 64)), (4, .int (zI i))] := hl
  obtain ⟨p1, e1⟩ : ∃ z : Int, z = ys (i + 1).toNat := ⟨_, rfl⟩
  have j1 : -2147483648 ≤ p1 ∧ p1 < 2147483648 := by rw [e1]; exact hys _
  refine lv_aload_n hx hb dL_law_1037 rfl (lv_at hl 1 rfl) ?_
  refine l_arg (k := 1) (p0 := 0) (p4 := 4) hx hb hX hbl hbA hS hl rfl rfl (by omega) (by omega) (by omega) e1 dL_law_1038 dL_law_1039 dL_law_1041 dL_law_1042 dL_law_1043 ?_
  refine g_calli (va_runV (As := [.int (zI p1)]) (rest := []) ⟨hx, hb, hml, hown, hts⟩ (kX11_floor l D cy ad jf A u p1 j1 hR.k15 hR.c22) (cwV 1 hts gL_law_X11_floor rfl rfl rfl (by decide +kernel) ⟨Nat.le_of_ble_eq_true rfl, Nat.le_of_ble_eq_true rfl⟩) (g_preV (C := RX11) hG hC hS 0 (by decide) rfl rfl) rfl rfl hl.1 rfl (lv_room (Nat.le_of_ble_eq_true rfl)) dL_law_1044 ⟨by show _ ≤ 601024; omega, by show _ ≤ 7293034; omega⟩) hS (fun r1 u1 H locs hp1 hG hS => ?_)
  obtain ⟨hr1, hu1⟩ := hp1
  rw [hu1] at hG
  have hM := hR.m
  refine lv_aload_n hx hb dL_law_1047 rfl (lv_at hl 2 rfl) ?_
  refine l_arg (k := 1) (p0 := 0) (p4 := 4) hx hb hX hbl hbA hS hl rfl rfl (by omega) (by omega) (by omega) e1 dL_law_1048 dL_law_1049 dL_law_1051 dL_law_1052 dL_law_1053 ?_
  refine g_calli (va_runV (As := [.int (zI p1)]) (rest := [.int r1]) ⟨hx, hb, hml, hown, hts⟩ (kX12_floor l D cy ad jf A u p1 j1 hM.i26 hM.i46) (cwV 1 hts gL_law_X12_floor rfl rfl rfl (by decide +kernel) ⟨Nat.le_of_ble_eq_true rfl, Nat.le_of_ble_eq_true rfl⟩) (g_preV (C := RX12) hG hC hS 8 (by decide) rfl rfl) rfl rfl hl.1 rfl (lv_room (Nat.le_of_ble_eq_true rfl)) dL_law_1054 ⟨by show _ ≤ 601024; omega, by show _ ≤ 7293034; omega⟩) hS (fun r2 u2 H locs hp2 hG hS => ?_)
  rw [hp2.2] at hG
  refine lv_icmp_eq (tgt := 1602) hx hb dL_law_1057 (by decide) (fun c9 => ?_) (fun c9 => absurd ?_ c9)
  · refine W.widen (k := cells + 3) (n := slots + 300) (by omega) (by omega) ?_
    exact kk u jf _ _ _ (hR) hG hS hl
  · rw [hr1, hp2.1, floor_eq hR.tal p1]
set_option maxHeartbeats 4000000 in
set_option maxRecDepth 100000 in
theorem lc_20 {p : Program} {l : Launch} {e : Env} {s : State} {m : MethodId} {below : List Frame} {meth : Method} {c : Code} {b L : Nat} {ys : Nat → Int} {D : va_G} {cy : Nat → ClassId} {ad : Nat → Nat} {jf : Nat → Int64} {A : Nat → Prop} {u : gS} {H : Heap} {locs : List Loc} {ls : Array Slot} {cells slots : Nat} {Q : State → Prop} {i : Int} (E : lE p l s m meth c b L ys D cy A) (hR : Rel cy u) (hG : gH D cy ad jf A u H) (hS : va_S A s.heap H locs) (hl : lv_has ls 8 (lV ad b i)) (hi : 0 ≤ i ∧ i + 6 ≤ (L : Int)) (hcs : cells + 3 ≤ 601024 ∧ slots + 300 ≤ 7293034) (kk : ∀ (u' : gS) (jf' : Nat → Int64) (H' : Heap) (locs' : List Loc) (ls' : Array Slot), Rel cy u' → gH D cy ad jf' A u' H' → va_S A s.heap H' locs' → lv_has ls' 8 (lV ad b i) → W p l e room_1 s m #[Value.ref b] below meth c H' locs' (cells + 3) (slots + 300) Q (F0 m 1602 ls' [])) : W p l e room_1 s m #[Value.ref b] below meth c H locs cells slots Q (F0 m 1062 ls []) := by
  obtain ⟨hx, hb, hml, hown, hts, hX, hbl, hbA, hC, hTh, hl9, hys, hL⟩ := E
  have hl : lv_has ls 8 [(0, .ref b), (1, .ref (ad 0)), (2, .ref (ad 8)), (3, .ref (ad 64)), (4, .int (zI i))] := hl
  obtain ⟨p1, e1⟩ : ∃ z : Int, z = ys (i + 1).toNat := ⟨_, rfl⟩
  have j1 : -2147483648 ≤ p1 ∧ p1 < 2147483648 := by rw [e1]; exact hys _
  refine lv_aload_n hx hb dL_law_1062 rfl (lv_at hl 1 rfl) ?_
  refine l_arg (k := 1) (p0 := 0) (p4 := 4) hx hb hX hbl hbA hS hl rfl rfl (by omega) (by omega) (by omega) e1 dL_law_1063 dL_law_1064 dL_law_1066 dL_law_1067 dL_law_1068 ?_
  refine g_calli (va_runV (As := [.int (zI p1)]) (rest := []) ⟨hx, hb, hml, hown, hts⟩ (kX11_order l D cy ad jf A u p1 j1 hR.k0 (u.2.1 34) (u.2.1 35) (u.2.1 36) (u.2.1 37) hR.sw) (cwV 1 hts gL_law_X11_order rfl rfl rfl (by decide +kernel) ⟨Nat.le_of_ble_eq_true rfl, Nat.le_of_ble_eq_true rfl⟩) (g_preV (C := RX11) hG hC hS 0 (by decide) rfl rfl) rfl rfl hl.1 rfl (lv_room (Nat.le_of_ble_eq_true rfl)) dL_law_1069 ⟨by show _ ≤ 601024; omega, by show _ ≤ 7293034; omega⟩) hS (fun r1 u1 H locs hp1 hG hS => ?_)
  obtain ⟨q1, q2, q3⟩ := re_order hR p1 j1
  obtain ⟨hr1, hu1⟩ := hp1
  rw [← hu1] at q1 q2 q3
  have hM := hR.m.kept q1
  refine lv_aload_n hx hb dL_law_1072 rfl (lv_at hl 2 rfl) ?_
  refine l_arg (k := 1) (p0 := 0) (p4 := 4) hx hb hX hbl hbA hS hl rfl rfl (by omega) (by omega) (by omega) e1 dL_law_1073 dL_law_1074 dL_law_1076 dL_law_1077 dL_law_1078 ?_
  refine g_calli (va_runV (As := [.int (zI p1)]) (rest := [.int r1]) ⟨hx, hb, hml, hown, hts⟩ (kX12_order l D cy ad jf A u1 p1 j1 hM.i23) (cwV 1 hts gL_law_X12_order rfl rfl rfl (by decide +kernel) ⟨Nat.le_of_ble_eq_true rfl, Nat.le_of_ble_eq_true rfl⟩) (g_preV (C := RX12) hG hC hS 8 (by decide) rfl rfl) rfl rfl hl.1 rfl (lv_room (Nat.le_of_ble_eq_true rfl)) dL_law_1079 ⟨by show _ ≤ 601024; omega, by show _ ≤ 7293034; omega⟩) hS (fun r2 u2 H locs hp2 hG hS => ?_)
  refine lv_icmp_eq (tgt := 1602) hx hb dL_law_1082 (by decide) (fun c9 => ?_) (fun c9 => absurd ?_ c9)
  · refine W.widen (k := cells + 3) (n := slots + 300) (by omega) (by omega) ?_
    exact kk u2 jf _ _ _ (by rw [hp2.2]; exact q3) hG hS hl
  · rw [hr1, q2, hp2.1]
set_option maxHeartbeats 4000000 in
set_option maxRecDepth 100000 in
theorem lc_21 {p : Program} {l : Launch} {e : Env} {s : State} {m : MethodId} {below : List Frame} {meth : Method} {c : Code} {b L : Nat} {ys : Nat → Int} {D : va_G} {cy : Nat → ClassId} {ad : Nat → Nat} {jf : Nat → Int64} {A : Nat → Prop} {u : gS} {H : Heap} {locs : List Loc} {ls : Array Slot} {cells slots : Nat} {Q : State → Prop} {i : Int} (E : lE p l s m meth c b L ys D cy A) (hR : Rel cy u) (hG : gH D cy ad jf A u H) (hS : va_S A s.heap H locs) (hl : lv_has ls 8 (lV ad b i)) (hi : 0 ≤ i ∧ i + 6 ≤ (L : Int)) (hcs : cells + 3 ≤ 601024 ∧ slots + 300 ≤ 7293034) (kk : ∀ (u' : gS) (jf' : Nat → Int64) (H' : Heap) (locs' : List Loc) (ls' : Array Slot), Rel cy u' → gH D cy ad jf' A u' H' → va_S A s.heap H' locs' → lv_has ls' 8 (lV ad b i) → W p l e room_1 s m #[Value.ref b] below meth c H' locs' (cells + 3) (slots + 300) Q (F0 m 1602 ls' [])) : W p l e room_1 s m #[Value.ref b] below meth c H locs cells slots Q (F0 m 1087 ls []) := by
  obtain ⟨hx, hb, hml, hown, hts, hX, hbl, hbA, hC, hTh, hl9, hys, hL⟩ := E
  have hl : lv_has ls 8 [(0, .ref b), (1, .ref (ad 0)), (2, .ref (ad 8)), (3, .ref (ad 64)), (4, .int (zI i))] := hl
  obtain ⟨p1, e1⟩ : ∃ z : Int, z = ys (i + 1).toNat := ⟨_, rfl⟩
  have j1 : -2147483648 ≤ p1 ∧ p1 < 2147483648 := by rw [e1]; exact hys _
  refine lv_aload_n hx hb dL_law_1087 rfl (lv_at hl 1 rfl) ?_
  refine l_arg (k := 1) (p0 := 0) (p4 := 4) hx hb hX hbl hbA hS hl rfl rfl (by omega) (by omega) (by omega) e1 dL_law_1088 dL_law_1089 dL_law_1091 dL_law_1092 dL_law_1093 ?_
  refine g_calli (va_runV (As := [.int (zI p1)]) (rest := []) ⟨hx, hb, hml, hown, hts⟩ (kX11_turn l D cy ad jf A u p1 j1 hR.k0 hR.k16 hR.k17 (u.2.1 34) (u.2.1 35) (u.2.1 36) (u.2.1 37) hR.sw) (cwV 1 hts gL_law_X11_turn rfl rfl rfl (by decide +kernel) ⟨Nat.le_of_ble_eq_true rfl, Nat.le_of_ble_eq_true rfl⟩) (g_preV (C := RX11) hG hC hS 0 (by decide) rfl rfl) rfl rfl hl.1 rfl (lv_room (Nat.le_of_ble_eq_true rfl)) dL_law_1094 ⟨by show _ ≤ 601024; omega, by show _ ≤ 7293034; omega⟩) hS (fun r1 u1 H locs hp1 hG hS => ?_)
  obtain ⟨q1, q2, q3⟩ := re_turn hR p1
  obtain ⟨hr1, hu1⟩ := hp1
  rw [← hu1] at q1 q2 q3
  have hM := hR.m.kept q1
  refine lv_aload_n hx hb dL_law_1097 rfl (lv_at hl 2 rfl) ?_
  refine l_arg (k := 1) (p0 := 0) (p4 := 4) hx hb hX hbl hbA hS hl rfl rfl (by omega) (by omega) (by omega) e1 dL_law_1098 dL_law_1099 dL_law_1101 dL_law_1102 dL_law_1103 ?_
  refine g_calli (va_runV (As := [.int (zI p1)]) (rest := [.int r1]) ⟨hx, hb, hml, hown, hts⟩ (kX12_turn l D cy ad jf A u1 p1 j1 hM.i23 hM.i27 hM.i28) (cwV 1 hts gL_law_X12_turn rfl rfl rfl (by decide +kernel) ⟨Nat.le_of_ble_eq_true rfl, Nat.le_of_ble_eq_true rfl⟩) (g_preV (C := RX12) hG hC hS 8 (by decide) rfl rfl) rfl rfl hl.1 rfl (lv_room (Nat.le_of_ble_eq_true rfl)) dL_law_1104 ⟨by show _ ≤ 601024; omega, by show _ ≤ 7293034; omega⟩) hS (fun r2 u2 H locs hp2 hG hS => ?_)
  refine lv_icmp_eq (tgt := 1602) hx hb dL_law_1107 (by decide) (fun c9 => ?_) (fun c9 => absurd ?_ c9)
  · refine W.widen (k := cells + 3) (n := slots + 300) (by omega) (by omega) ?_
    exact kk u2 jf _ _ _ (by rw [hp2.2]; exact q3) hG hS hl
  · rw [hr1, q2, hp2.1]
set_option maxHeartbeats 4000000 in
set_option maxRecDepth 100000 in
theorem lc_22 {p : Program} {l : Launch} {e : Env} {s : State} {m : MethodId} {below : List Frame} {meth : Method} {c : Code} {b L : Nat} {ys : Nat → Int} {D : va_G} {cy : Nat → ClassId} {ad : Nat → Nat} {jf : Nat → Int64} {A : Nat → Prop} {u : gS} {H : Heap} {locs : List Loc} {ls : Array Slot} {cells slots : Nat} {Q : State → Prop} {i : Int} (E : lE p l s m meth c b L ys D cy A) (hR : Rel cy u) (hG : gH D cy ad jf A u H) (hS : va_S A s.heap H locs) (hl : lv_has ls 8 (lV ad b i)) (hi : 0 ≤ i ∧ i + 6 ≤ (L : Int)) (hcs : cells + 3 ≤ 601024 ∧ slots + 300 ≤ 7293034) (kk : ∀ (u' : gS) (jf' : Nat → Int64) (H' : Heap) (locs' : List Loc) (ls' : Array Slot), Rel cy u' → gH D cy ad jf' A u' H' → va_S A s.heap H' locs' → lv_has ls' 8 (lV ad b i) → W p l e room_1 s m #[Value.ref b] below meth c H' locs' (cells + 3) (slots + 300) Q (F0 m 1602 ls' [])) : W p l e room_1 s m #[Value.ref b] below meth c H locs cells slots Q (F0 m 1112 ls []) := by
  obtain ⟨hx, hb, hml, hown, hts, hX, hbl, hbA, hC, hTh, hl9, hys, hL⟩ := E
  have hl : lv_has ls 8 [(0, .ref b), (1, .ref (ad 0)), (2, .ref (ad 8)), (3, .ref (ad 64)), (4, .int (zI i))] := hl
  refine lv_aload_n hx hb dL_law_1112 rfl (lv_at hl 1 rfl) ?_
  refine g_calli (va_runV (As := []) (rest := []) ⟨hx, hb, hml, hown, hts⟩ (kX11_voided l D cy ad jf A u  hR.k16 hR.k17 hR.c23 hR.c24) (cwV 0 hts gL_law_X11_voided rfl rfl rfl (by decide +kernel) ⟨Nat.le_of_ble_eq_true rfl, Nat.le_of_ble_eq_true rfl⟩) (g_preV (C := RX11) hG hC hS 0 (by decide) rfl rfl) rfl rfl hl.1 rfl (lv_room (Nat.le_of_ble_eq_true rfl)) dL_law_1113 ⟨by show _ ≤ 601024; omega, by show _ ≤ 7293034; omega⟩) hS (fun r1 u1 H locs hp1 hG hS => ?_)
  obtain ⟨hr1, hu1⟩ := hp1
  rw [hu1] at hG
  have hM := hR.m
  refine lv_aload_n hx hb dL_law_1116 rfl (lv_at hl 2 rfl) ?_
  refine g_calli (va_runV (As := []) (rest := [.int r1]) ⟨hx, hb, hml, hown, hts⟩ (kX12_voided l D cy ad jf A u  hM.i27 hM.i28 hM.i47 hM.i48) (cwV 0 hts gL_law_X12_voided rfl rfl rfl (by decide +kernel) ⟨Nat.le_of_ble_eq_true rfl, Nat.le_of_ble_eq_true rfl⟩) (g_preV (C := RX12) hG hC hS 8 (by decide) rfl rfl) rfl rfl hl.1 rfl (lv_room (Nat.le_of_ble_eq_true rfl)) dL_law_1117 ⟨by show _ ≤ 601024; omega, by show _ ≤ 7293034; omega⟩) hS (fun r2 u2 H locs hp2 hG hS => ?_)
  rw [hp2.2] at hG
  refine lv_icmp_eq (tgt := 1602) hx hb dL_law_1120 (by decide) (fun c9 => ?_) (fun c9 => absurd ?_ c9)
  · refine W.widen (k := cells + 3) (n := slots + 300) (by omega) (by omega) ?_
    exact kk u jf _ _ _ (hR) hG hS hl
  · rw [hr1, hp2.1, voided_eq hR.tal]
set_option maxHeartbeats 4000000 in
set_option maxRecDepth 100000 in
theorem lc_23 {p : Program} {l : Launch} {e : Env} {s : State} {m : MethodId} {below : List Frame} {meth : Method} {c : Code} {b L : Nat} {ys : Nat → Int} {D : va_G} {cy : Nat → ClassId} {ad : Nat → Nat} {jf : Nat → Int64} {A : Nat → Prop} {u : gS} {H : Heap} {locs : List Loc} {ls : Array Slot} {cells slots : Nat} {Q : State → Prop} {i : Int} (E : lE p l s m meth c b L ys D cy A) (hR : Rel cy u) (hG : gH D cy ad jf A u H) (hS : va_S A s.heap H locs) (hl : lv_has ls 8 (lV ad b i)) (hi : 0 ≤ i ∧ i + 6 ≤ (L : Int)) (hcs : cells + 3 ≤ 601024 ∧ slots + 300 ≤ 7293034) (kk : ∀ (u' : gS) (jf' : Nat → Int64) (H' : Heap) (locs' : List Loc) (ls' : Array Slot), Rel cy u' → gH D cy ad jf' A u' H' → va_S A s.heap H' locs' → lv_has ls' 8 (lV ad b i) → W p l e room_1 s m #[Value.ref b] below meth c H' locs' (cells + 3) (slots + 300) Q (F0 m 1602 ls' [])) : W p l e room_1 s m #[Value.ref b] below meth c H locs cells slots Q (F0 m 1125 ls []) := by
  obtain ⟨hx, hb, hml, hown, hts, hX, hbl, hbA, hC, hTh, hl9, hys, hL⟩ := E
  have hl : lv_has ls 8 [(0, .ref b), (1, .ref (ad 0)), (2, .ref (ad 8)), (3, .ref (ad 64)), (4, .int (zI i))] := hl
  obtain ⟨p1, e1⟩ : ∃ z : Int, z = ys (i + 1).toNat := ⟨_, rfl⟩
  have j1 : -2147483648 ≤ p1 ∧ p1 < 2147483648 := by rw [e1]; exact hys _
  obtain ⟨p2, e2⟩ : ∃ z : Int, z = ys (i + 2).toNat := ⟨_, rfl⟩
  have j2 : -2147483648 ≤ p2 ∧ p2 < 2147483648 := by rw [e2]; exact hys _
  refine lv_aload_n hx hb dL_law_1125 rfl (lv_at hl 1 rfl) ?_
  refine l_arg (k := 1) (p0 := 0) (p4 := 4) hx hb hX hbl hbA hS hl rfl rfl (by omega) (by omega) (by omega) e1 dL_law_1126 dL_law_1127 dL_law_1129 dL_law_1130 dL_law_1131 ?_
  refine l_arg (k := 2) (p0 := 0) (p4 := 4) hx hb hX hbl hbA hS hl rfl rfl (by omega) (by omega) (by omega) e2 dL_law_1132 dL_law_1133 dL_law_1135 dL_law_1136 dL_law_1137 ?_
  refine z_if_eq (tgt := 1145) hx hb dL_law_1138 (by decide) (by omega) (by omega) (fun cb0 => ?_) (fun cb0 => ?_)
  · have jb : (0 : Int) = 0 ∨ (0 : Int) = 1 := by decide
    refine z_iconst hx hb dL_law_1145 ?_
    refine g_calli (va_runV (As := [.int (zI p1), .int (zI 0)]) (rest := []) ⟨hx, hb, hml, hown, hts⟩ (kX11_calm l D cy ad jf A u p1 0 j1 jb hR.c18) (cwV 2 hts gL_law_X11_calm rfl rfl rfl (by decide +kernel) ⟨Nat.le_of_ble_eq_true rfl, Nat.le_of_ble_eq_true rfl⟩) (g_preV (C := RX11) hG hC hS 0 (by decide) rfl rfl) rfl rfl hl.1 rfl (lv_room (Nat.le_of_ble_eq_true rfl)) dL_law_1146 ⟨by show _ ≤ 601024; omega, by show _ ≤ 7293034; omega⟩) hS (fun r1 u1 H locs hp1 hG hS => ?_)
    obtain ⟨q1, q2, q3⟩ := re_calm hR p1 0 jb
    obtain ⟨hr1, hu1⟩ := hp1
    rw [← hu1] at q1 q2 q3
    have hM := hR.m.kept q1
    refine lv_aload_n hx hb dL_law_1149 rfl (lv_at hl 2 rfl) ?_
    refine l_arg (k := 1) (p0 := 0) (p4 := 4) hx hb hX hbl hbA hS hl rfl rfl (by omega) (by omega) (by omega) e1 dL_law_1150 dL_law_1151 dL_law_1153 dL_law_1154 dL_law_1155 ?_
    refine l_arg (k := 2) (p0 := 0) (p4 := 4) hx hb hX hbl hbA hS hl rfl rfl (by omega) (by omega) (by omega) e2 dL_law_1156 dL_law_1157 dL_law_1159 dL_law_1160 dL_law_1161 ?_
    refine z_if_eq (tgt := 1169) hx hb dL_law_1162 (by decide) (by omega) (by omega) (fun cb1 => ?_) (fun cb1 => ?_)
    · refine z_iconst hx hb dL_law_1169 ?_
      refine g_calli (va_runV (As := [.int (zI p1), .int (zI 0)]) (rest := [.int r1]) ⟨hx, hb, hml, hown, hts⟩ (kX12_calm l D cy ad jf A u1 p1 0 j1 jb hM.b49) (cwV 2 hts gL_law_X12_calm rfl rfl rfl (by decide +kernel) ⟨Nat.le_of_ble_eq_true rfl, Nat.le_of_ble_eq_true rfl⟩) (g_preV (C := RX12) hG hC hS 8 (by decide) rfl rfl) rfl rfl hl.1 rfl (lv_room (Nat.le_of_ble_eq_true rfl)) dL_law_1170 ⟨by show _ ≤ 601024; omega, by show _ ≤ 7293034; omega⟩) hS (fun r2 u2 H locs hp2 hG hS => ?_)
      refine lv_icmp_eq (tgt := 1602) hx hb dL_law_1173 (by decide) (fun c9 => ?_) (fun c9 => absurd ?_ c9)
      · refine W.widen (k := cells + 3) (n := slots + 300) (by omega) (by omega) ?_
        exact kk u2 jf _ _ _ (by rw [hp2.2]; exact q3) hG hS hl
      · rw [hr1, q2, hp2.1]
    · exact absurd cb0 cb1
  · have jb : (1 : Int) = 0 ∨ (1 : Int) = 1 := by decide
    refine z_iconst hx hb dL_law_1141 ?_
    refine lv_goto (tgt := 1146) hx hb dL_law_1142 (by decide) ?_
    refine g_calli (va_runV (As := [.int (zI p1), .int (zI 1)]) (rest := []) ⟨hx, hb, hml, hown, hts⟩ (kX11_calm l D cy ad jf A u p1 1 j1 jb hR.c18) (cwV 2 hts gL_law_X11_calm rfl rfl rfl (by decide +kernel) ⟨Nat.le_of_ble_eq_true rfl, Nat.le_of_ble_eq_true rfl⟩) (g_preV (C := RX11) hG hC hS 0 (by decide) rfl rfl) rfl rfl hl.1 rfl (lv_room (Nat.le_of_ble_eq_true rfl)) dL_law_1146 ⟨by show _ ≤ 601024; omega, by show _ ≤ 7293034; omega⟩) hS (fun r1 u1 H locs hp1 hG hS => ?_)
    obtain ⟨q1, q2, q3⟩ := re_calm hR p1 1 jb
    obtain ⟨hr1, hu1⟩ := hp1
    rw [← hu1] at q1 q2 q3
    have hM := hR.m.kept q1
    refine lv_aload_n hx hb dL_law_1149 rfl (lv_at hl 2 rfl) ?_
    refine l_arg (k := 1) (p0 := 0) (p4 := 4) hx hb hX hbl hbA hS hl rfl rfl (by omega) (by omega) (by omega) e1 dL_law_1150 dL_law_1151 dL_law_1153 dL_law_1154 dL_law_1155 ?_
    refine l_arg (k := 2) (p0 := 0) (p4 := 4) hx hb hX hbl hbA hS hl rfl rfl (by omega) (by omega) (by omega) e2 dL_law_1156 dL_law_1157 dL_law_1159 dL_law_1160 dL_law_1161 ?_
    refine z_if_eq (tgt := 1169) hx hb dL_law_1162 (by decide) (by omega) (by omega) (fun cb1 => ?_) (fun cb1 => ?_)
    · exact absurd cb1 cb0
    · refine z_iconst hx hb dL_law_1165 ?_
      refine lv_goto (tgt := 1170) hx hb dL_law_1166 (by decide) ?_
      refine g_calli (va_runV (As := [.int (zI p1), .int (zI 1)]) (rest := [.int r1]) ⟨hx, hb, hml, hown, hts⟩ (kX12_calm l D cy ad jf A u1 p1 1 j1 jb hM.b49) (cwV 2 hts gL_law_X12_calm rfl rfl rfl (by decide +kernel) ⟨Nat.le_of_ble_eq_true rfl, Nat.le_of_ble_eq_true rfl⟩) (g_preV (C := RX12) hG hC hS 8 (by decide) rfl rfl) rfl rfl hl.1 rfl (lv_room (Nat.le_of_ble_eq_true rfl)) dL_law_1170 ⟨by show _ ≤ 601024; omega, by show _ ≤ 7293034; omega⟩) hS (fun r2 u2 H locs hp2 hG hS => ?_)
      refine lv_icmp_eq (tgt := 1602) hx hb dL_law_1173 (by decide) (fun c9 => ?_) (fun c9 => absurd ?_ c9)
      · refine W.widen (k := cells + 3) (n := slots + 300) (by omega) (by omega) ?_
        exact kk u2 jf _ _ _ (by rw [hp2.2]; exact q3) hG hS hl
      · rw [hr1, q2, hp2.1]
set_option maxHeartbeats 4000000 in
set_option maxRecDepth 100000 in
theorem lc_24 {p : Program} {l : Launch} {e : Env} {s : State} {m : MethodId} {below : List Frame} {meth : Method} {c : Code} {b L : Nat} {ys : Nat → Int} {D : va_G} {cy : Nat → ClassId} {ad : Nat → Nat} {jf : Nat → Int64} {A : Nat → Prop} {u : gS} {H : Heap} {locs : List Loc} {ls : Array Slot} {cells slots : Nat} {Q : State → Prop} {i : Int} (E : lE p l s m meth c b L ys D cy A) (hR : Rel cy u) (hG : gH D cy ad jf A u H) (hS : va_S A s.heap H locs) (hl : lv_has ls 8 (lV ad b i)) (hi : 0 ≤ i ∧ i + 6 ≤ (L : Int)) (hcs : cells + 3 ≤ 601024 ∧ slots + 300 ≤ 7293034) (kk : ∀ (u' : gS) (jf' : Nat → Int64) (H' : Heap) (locs' : List Loc) (ls' : Array Slot), Rel cy u' → gH D cy ad jf' A u' H' → va_S A s.heap H' locs' → lv_has ls' 8 (lV ad b i) → W p l e room_1 s m #[Value.ref b] below meth c H' locs' (cells + 3) (slots + 300) Q (F0 m 1602 ls' [])) : W p l e room_1 s m #[Value.ref b] below meth c H locs cells slots Q (F0 m 1178 ls []) := by
  obtain ⟨hx, hb, hml, hown, hts, hX, hbl, hbA, hC, hTh, hl9, hys, hL⟩ := E
  have hl : lv_has ls 8 [(0, .ref b), (1, .ref (ad 0)), (2, .ref (ad 8)), (3, .ref (ad 64)), (4, .int (zI i))] := hl
  obtain ⟨p1, e1⟩ : ∃ z : Int, z = ys (i + 1).toNat := ⟨_, rfl⟩
  have j1 : -2147483648 ≤ p1 ∧ p1 < 2147483648 := by rw [e1]; exact hys _
  obtain ⟨p2, e2⟩ : ∃ z : Int, z = ys (i + 2).toNat := ⟨_, rfl⟩
  have j2 : -2147483648 ≤ p2 ∧ p2 < 2147483648 := by rw [e2]; exact hys _
  obtain ⟨p3, e3⟩ : ∃ z : Int, z = ys (i + 3).toNat := ⟨_, rfl⟩
  have j3 : -2147483648 ≤ p3 ∧ p3 < 2147483648 := by rw [e3]; exact hys _
  obtain ⟨p4, e4⟩ : ∃ z : Int, z = ys (i + 4).toNat := ⟨_, rfl⟩
  have j4 : -2147483648 ≤ p4 ∧ p4 < 2147483648 := by rw [e4]; exact hys _
  refine lv_aload_n hx hb dL_law_1178 rfl (lv_at hl 1 rfl) ?_
  refine l_arg (k := 1) (p0 := 0) (p4 := 4) hx hb hX hbl hbA hS hl rfl rfl (by omega) (by omega) (by omega) e1 dL_law_1179 dL_law_1180 dL_law_1182 dL_law_1183 dL_law_1184 ?_
  refine l_arg (k := 2) (p0 := 0) (p4 := 4) hx hb hX hbl hbA hS hl rfl rfl (by omega) (by omega) (by omega) e2 dL_law_1185 dL_law_1186 dL_law_1188 dL_law_1189 dL_law_1190 ?_
  refine l_arg (k := 3) (p0 := 0) (p4 := 4) hx hb hX hbl hbA hS hl rfl rfl (by omega) (by omega) (by omega) e3 dL_law_1191 dL_law_1192 dL_law_1194 dL_law_1195 dL_law_1196 ?_
  refine l_arg (k := 4) (p0 := 0) (p4 := 4) hx hb hX hbl hbA hS hl rfl rfl (by omega) (by omega) (by omega) e4 dL_law_1197 dL_law_1198 dL_law_1200 dL_law_1201 dL_law_1202 ?_
  refine g_calli (va_runV (As := [.int (zI p1), .int (zI p2), .int (zI p3), .int (zI p4)]) (rest := []) ⟨hx, hb, hml, hown, hts⟩ (kX11_slot l D cy ad jf A u p1 p2 p3 p4 j1 j2 j3 j4 hR.k0 hR.b25 (u.2.1 34) (u.2.1 35) (u.2.1 36) (u.2.1 37) hR.sw) (cwV 4 hts gL_law_X11_slot rfl rfl rfl (by decide +kernel) ⟨Nat.le_of_ble_eq_true rfl, Nat.le_of_ble_eq_true rfl⟩) (g_preV (C := RX11) hG hC hS 0 (by decide) rfl rfl) rfl rfl hl.1 rfl (lv_room (Nat.le_of_ble_eq_true rfl)) dL_law_1203 ⟨by show _ ≤ 601024; omega, by show _ ≤ 7293034; omega⟩) hS (fun r1 u1 H locs hp1 hG hS => ?_)
  obtain ⟨q1, q2, q3⟩ := re_slot hR p1 p2 p3 p4
  obtain ⟨hr1, hu1⟩ := hp1
  rw [← hu1] at q1 q2 q3
  have hM := hR.m.kept q1
  refine lv_aload_n hx hb dL_law_1206 rfl (lv_at hl 2 rfl) ?_
  refine l_arg (k := 1) (p0 := 0) (p4 := 4) hx hb hX hbl hbA hS hl rfl rfl (by omega) (by omega) (by omega) e1 dL_law_1207 dL_law_1208 dL_law_1210 dL_law_1211 dL_law_1212 ?_
  refine l_arg (k := 2) (p0 := 0) (p4 := 4) hx hb hX hbl hbA hS hl rfl rfl (by omega) (by omega) (by omega) e2 dL_law_1213 dL_law_1214 dL_law_1216 dL_law_1217 dL_law_1218 ?_
  refine l_arg (k := 3) (p0 := 0) (p4 := 4) hx hb hX hbl hbA hS hl rfl rfl (by omega) (by omega) (by omega) e3 dL_law_1219 dL_law_1220 dL_law_1222 dL_law_1223 dL_law_1224 ?_
  refine l_arg (k := 4) (p0 := 0) (p4 := 4) hx hb hX hbl hbA hS hl rfl rfl (by omega) (by omega) (by omega) e4 dL_law_1225 dL_law_1226 dL_law_1228 dL_law_1229 dL_law_1230 ?_
  refine g_calli (va_runV (As := [.int (zI p1), .int (zI p2), .int (zI p3), .int (zI p4)]) (rest := [.int r1]) ⟨hx, hb, hml, hown, hts⟩ (kX12_slot l D cy ad jf A u1 p1 p2 p3 p4 j1 j2 j3 j4 hM.i23 hM.i51) (cwV 4 hts gL_law_X12_slot rfl rfl rfl (by decide +kernel) ⟨Nat.le_of_ble_eq_true rfl, Nat.le_of_ble_eq_true rfl⟩) (g_preV (C := RX12) hG hC hS 8 (by decide) rfl rfl) rfl rfl hl.1 rfl (lv_room (Nat.le_of_ble_eq_true rfl)) dL_law_1231 ⟨by show _ ≤ 601024; omega, by show _ ≤ 7293034; omega⟩) hS (fun r2 u2 H locs hp2 hG hS => ?_)
  refine lv_icmp_eq (tgt := 1602) hx hb dL_law_1234 (by decide) (fun c9 => ?_) (fun c9 => absurd ?_ c9)
  · refine W.widen (k := cells + 3) (n := slots + 300) (by omega) (by omega) ?_
    exact kk u2 jf _ _ _ (by rw [hp2.2]; exact q3) hG hS hl
  · rw [hr1, q2, hp2.1]
set_option maxHeartbeats 4000000 in
set_option maxRecDepth 100000 in
theorem lc_25 {p : Program} {l : Launch} {e : Env} {s : State} {m : MethodId} {below : List Frame} {meth : Method} {c : Code} {b L : Nat} {ys : Nat → Int} {D : va_G} {cy : Nat → ClassId} {ad : Nat → Nat} {jf : Nat → Int64} {A : Nat → Prop} {u : gS} {H : Heap} {locs : List Loc} {ls : Array Slot} {cells slots : Nat} {Q : State → Prop} {i : Int} (E : lE p l s m meth c b L ys D cy A) (hR : Rel cy u) (hG : gH D cy ad jf A u H) (hS : va_S A s.heap H locs) (hl : lv_has ls 8 (lV ad b i)) (hi : 0 ≤ i ∧ i + 6 ≤ (L : Int)) (hcs : cells + 3 ≤ 601024 ∧ slots + 300 ≤ 7293034) (kk : ∀ (u' : gS) (jf' : Nat → Int64) (H' : Heap) (locs' : List Loc) (ls' : Array Slot), Rel cy u' → gH D cy ad jf' A u' H' → va_S A s.heap H' locs' → lv_has ls' 8 (lV ad b i) → W p l e room_1 s m #[Value.ref b] below meth c H' locs' (cells + 3) (slots + 300) Q (F0 m 1602 ls' [])) : W p l e room_1 s m #[Value.ref b] below meth c H locs cells slots Q (F0 m 1239 ls []) := by
  obtain ⟨hx, hb, hml, hown, hts, hX, hbl, hbA, hC, hTh, hl9, hys, hL⟩ := E
  have hl : lv_has ls 8 [(0, .ref b), (1, .ref (ad 0)), (2, .ref (ad 8)), (3, .ref (ad 64)), (4, .int (zI i))] := hl
  refine lv_aload_n hx hb dL_law_1239 rfl (lv_at hl 1 rfl) ?_
  refine g_calli (va_runV (As := []) (rest := []) ⟨hx, hb, hml, hown, hts⟩ (kX11_done l D cy ad jf A u  hR.b25 hR.c26) (cwV 0 hts gL_law_X11_done rfl rfl rfl (by decide +kernel) ⟨Nat.le_of_ble_eq_true rfl, Nat.le_of_ble_eq_true rfl⟩) (g_preV (C := RX11) hG hC hS 0 (by decide) rfl rfl) rfl rfl hl.1 rfl (lv_room (Nat.le_of_ble_eq_true rfl)) dL_law_1240 ⟨by show _ ≤ 601024; omega, by show _ ≤ 7293034; omega⟩) hS (fun r1 u1 H locs hp1 hG hS => ?_)
  obtain ⟨hr1, T9, H9, hu1⟩ := hp1
  have hM := hR.m.kept (by rw [hu1]; exact sM_np u T9 H9 : sM u u1)
  refine lv_aload_n hx hb dL_law_1243 rfl (lv_at hl 2 rfl) ?_
  refine g_calli (va_runV (As := []) (rest := [.int r1]) ⟨hx, hb, hml, hown, hts⟩ (kX12_done l D cy ad jf A u1  hM.i23 hM.b49 hM.i50 hM.i51 hM.b54 hM.z51 hM.i53) (cwV 0 hts gL_law_X12_done rfl rfl rfl (by decide +kernel) ⟨Nat.le_of_ble_eq_true rfl, Nat.le_of_ble_eq_true rfl⟩) (g_preV (C := RX12) hG hC hS 8 (by decide) rfl rfl) rfl rfl hl.1 rfl (lv_room (Nat.le_of_ble_eq_true rfl)) dL_law_1244 ⟨by show _ ≤ 601024; omega, by show _ ≤ 7293034; omega⟩) hS (fun r2 u2 H locs hp2 hG hS => ?_)
  obtain ⟨hr2, f9, H8, A9, B9, C9, hu2, h91, h92⟩ := hp2
  refine lv_icmp_eq (tgt := 1602) hx hb dL_law_1247 (by decide) (fun c9 => ?_) (fun c9 => absurd ?_ c9)
  · refine W.widen (k := cells + 3) (n := slots + 300) (by omega) (by omega) ?_
    exact kk u2 jf _ _ _ (by rw [hu2, hu1]; exact re_np hR T9 H9 f9 H8 A9 B9 C9 h91 h92) hG hS hl
  · rw [hr1, hr2, hu1, re_done hR T9 H9]
set_option maxHeartbeats 4000000 in
set_option maxRecDepth 100000 in
theorem lc_26 {p : Program} {l : Launch} {e : Env} {s : State} {m : MethodId} {below : List Frame} {meth : Method} {c : Code} {b L : Nat} {ys : Nat → Int} {D : va_G} {cy : Nat → ClassId} {ad : Nat → Nat} {jf : Nat → Int64} {A : Nat → Prop} {u : gS} {H : Heap} {locs : List Loc} {ls : Array Slot} {cells slots : Nat} {Q : State → Prop} {i : Int} (E : lE p l s m meth c b L ys D cy A) (hR : Rel cy u) (hG : gH D cy ad jf A u H) (hS : va_S A s.heap H locs) (hl : lv_has ls 8 (lV ad b i)) (hi : 0 ≤ i ∧ i + 6 ≤ (L : Int)) (hcs : cells + 3 ≤ 601024 ∧ slots + 300 ≤ 7293034) (kk : ∀ (u' : gS) (jf' : Nat → Int64) (H' : Heap) (locs' : List Loc) (ls' : Array Slot), Rel cy u' → gH D cy ad jf' A u' H' → va_S A s.heap H' locs' → lv_has ls' 8 (lV ad b i) → W p l e room_1 s m #[Value.ref b] below meth c H' locs' (cells + 3) (slots + 300) Q (F0 m 1602 ls' [])) : W p l e room_1 s m #[Value.ref b] below meth c H locs cells slots Q (F0 m 1252 ls []) := by
  obtain ⟨hx, hb, hml, hown, hts, hX, hbl, hbA, hC, hTh, hl9, hys, hL⟩ := E
  have hl : lv_has ls 8 [(0, .ref b), (1, .ref (ad 0)), (2, .ref (ad 8)), (3, .ref (ad 64)), (4, .int (zI i))] := hl
  obtain ⟨p1, e1⟩ : ∃ z : Int, z = ys (i + 1).toNat := ⟨_, rfl⟩
  have j1 : -2147483648 ≤ p1 ∧ p1 < 2147483648 := by rw [e1]; exact hys _
  obtain ⟨p2, e2⟩ : ∃ z : Int, z = ys (i + 2).toNat := ⟨_, rfl⟩
  have j2 : -2147483648 ≤ p2 ∧ p2 < 2147483648 := by rw [e2]; exact hys _
  refine lv_aload_n hx hb dL_law_1252 rfl (lv_at hl 1 rfl) ?_
  refine l_arg (k := 1) (p0 := 0) (p4 := 4) hx hb hX hbl hbA hS hl rfl rfl (by omega) (by omega) (by omega) e1 dL_law_1253 dL_law_1254 dL_law_1256 dL_law_1257 dL_law_1258 ?_
  refine l_arg (k := 2) (p0 := 0) (p4 := 4) hx hb hX hbl hbA hS hl rfl rfl (by omega) (by omega) (by omega) e2 dL_law_1259 dL_law_1260 dL_law_1262 dL_law_1263 dL_law_1264 ?_
  refine g_calli (va_runV (As := [.int (zI p1), .int (zI p2)]) (rest := []) ⟨hx, hb, hml, hown, hts⟩ (kX11_goes l D cy ad jf A u p1 p2 j1 j2 hR.b25 hR.c26 hR.c27) (cwV 2 hts gL_law_X11_goes rfl rfl rfl (by decide +kernel) ⟨Nat.le_of_ble_eq_true rfl, Nat.le_of_ble_eq_true rfl⟩) (g_preV (C := RX11) hG hC hS 0 (by decide) rfl rfl) rfl rfl hl.1 rfl (lv_room (Nat.le_of_ble_eq_true rfl)) dL_law_1265 ⟨by show _ ≤ 601024; omega, by show _ ≤ 7293034; omega⟩) hS (fun r1 u1 H locs hp1 hG hS => ?_)
  obtain ⟨hr1, T9, H9, hu1⟩ := hp1
  have hM := hR.m.kept (by rw [hu1]; exact sM_np u T9 H9 : sM u u1)
  refine lv_aload_n hx hb dL_law_1268 rfl (lv_at hl 2 rfl) ?_
  refine l_arg (k := 1) (p0 := 0) (p4 := 4) hx hb hX hbl hbA hS hl rfl rfl (by omega) (by omega) (by omega) e1 dL_law_1269 dL_law_1270 dL_law_1272 dL_law_1273 dL_law_1274 ?_
  refine l_arg (k := 2) (p0 := 0) (p4 := 4) hx hb hX hbl hbA hS hl rfl rfl (by omega) (by omega) (by omega) e2 dL_law_1275 dL_law_1276 dL_law_1278 dL_law_1279 dL_law_1280 ?_
  refine g_calli (va_runV (As := [.int (zI p1), .int (zI p2)]) (rest := [.int r1]) ⟨hx, hb, hml, hown, hts⟩ (kX12_goes l D cy ad jf A u1 p1 p2 j1 j2 hM.i23 hM.b49 hM.i50 hM.i51 hM.b54 hM.z51 hM.i53) (cwV 2 hts gL_law_X12_goes rfl rfl rfl (by decide +kernel) ⟨Nat.le_of_ble_eq_true rfl, Nat.le_of_ble_eq_true rfl⟩) (g_preV (C := RX12) hG hC hS 8 (by decide) rfl rfl) rfl rfl hl.1 rfl (lv_room (Nat.le_of_ble_eq_true rfl)) dL_law_1281 ⟨by show _ ≤ 601024; omega, by show _ ≤ 7293034; omega⟩) hS (fun r2 u2 H locs hp2 hG hS => ?_)
  obtain ⟨hr2, f9, H8, A9, B9, C9, hu2, h91, h92⟩ := hp2
  refine lv_icmp_eq (tgt := 1602) hx hb dL_law_1284 (by decide) (fun c9 => ?_) (fun c9 => absurd ?_ c9)
  · refine W.widen (k := cells + 3) (n := slots + 300) (by omega) (by omega) ?_
    exact kk u2 jf _ _ _ (by rw [hu2, hu1]; exact re_np hR T9 H9 f9 H8 A9 B9 C9 h91 h92) hG hS hl
  · rw [hr1, hr2, hu1, re_goes hR p1 p2 T9 H9]
set_option maxHeartbeats 4000000 in
set_option maxRecDepth 100000 in
theorem lc_27 {p : Program} {l : Launch} {e : Env} {s : State} {m : MethodId} {below : List Frame} {meth : Method} {c : Code} {b L : Nat} {ys : Nat → Int} {D : va_G} {cy : Nat → ClassId} {ad : Nat → Nat} {jf : Nat → Int64} {A : Nat → Prop} {u : gS} {H : Heap} {locs : List Loc} {ls : Array Slot} {cells slots : Nat} {Q : State → Prop} {i : Int} (E : lE p l s m meth c b L ys D cy A) (hR : Rel cy u) (hG : gH D cy ad jf A u H) (hS : va_S A s.heap H locs) (hl : lv_has ls 8 (lV ad b i)) (hi : 0 ≤ i ∧ i + 6 ≤ (L : Int)) (hcs : cells + 3 ≤ 601024 ∧ slots + 300 ≤ 7293034) (kk : ∀ (u' : gS) (jf' : Nat → Int64) (H' : Heap) (locs' : List Loc) (ls' : Array Slot), Rel cy u' → gH D cy ad jf' A u' H' → va_S A s.heap H' locs' → lv_has ls' 8 (lV ad b i) → W p l e room_1 s m #[Value.ref b] below meth c H' locs' (cells + 3) (slots + 300) Q (F0 m 1602 ls' [])) : W p l e room_1 s m #[Value.ref b] below meth c H locs cells slots Q (F0 m 1289 ls []) := by
  obtain ⟨hx, hb, hml, hown, hts, hX, hbl, hbA, hC, hTh, hl9, hys, hL⟩ := E
  have hl : lv_has ls 8 [(0, .ref b), (1, .ref (ad 0)), (2, .ref (ad 8)), (3, .ref (ad 64)), (4, .int (zI i))] := hl
  obtain ⟨p1, e1⟩ : ∃ z : Int, z = ys (i + 1).toNat := ⟨_, rfl⟩
  have j1 : -2147483648 ≤ p1 ∧ p1 < 2147483648 := by rw [e1]; exact hys _
  refine lv_aload_n hx hb dL_law_1289 rfl (lv_at hl 1 rfl) ?_
  refine l_arg (k := 1) (p0 := 0) (p4 := 4) hx hb hX hbl hbA hS hl rfl rfl (by omega) (by omega) (by omega) e1 dL_law_1290 dL_law_1291 dL_law_1293 dL_law_1294 dL_law_1295 ?_
  refine g_calli (va_runV (As := [.int (zI p1)]) (rest := []) ⟨hx, hb, hml, hown, hts⟩ (kX11_count l D cy ad jf A u p1 j1 hR.c18) (cwV 1 hts gL_law_X11_count rfl rfl rfl (by decide +kernel) ⟨Nat.le_of_ble_eq_true rfl, Nat.le_of_ble_eq_true rfl⟩) (g_preV (C := RX11) hG hC hS 0 (by decide) rfl rfl) rfl rfl hl.1 rfl (lv_room (Nat.le_of_ble_eq_true rfl)) dL_law_1296 ⟨by show _ ≤ 601024; omega, by show _ ≤ 7293034; omega⟩) hS (fun r1 u1 H locs hp1 hG hS => ?_)
  obtain ⟨hr1, hu1⟩ := hp1
  rw [hu1] at hG
  have hM := hR.m
  refine lv_aload_n hx hb dL_law_1299 rfl (lv_at hl 2 rfl) ?_
  refine l_arg (k := 1) (p0 := 0) (p4 := 4) hx hb hX hbl hbA hS hl rfl rfl (by omega) (by omega) (by omega) e1 dL_law_1300 dL_law_1301 dL_law_1303 dL_law_1304 dL_law_1305 ?_
  refine g_calli (va_runV (As := [.int (zI p1)]) (rest := [.int r1]) ⟨hx, hb, hml, hown, hts⟩ (kX12_count l D cy ad jf A u p1 j1 hM.i23 hM.b31 hM.b49) (cwV 1 hts gL_law_X12_count rfl rfl rfl (by decide +kernel) ⟨Nat.le_of_ble_eq_true rfl, Nat.le_of_ble_eq_true rfl⟩) (g_preV (C := RX12) hG hC hS 8 (by decide) rfl rfl) rfl rfl hl.1 rfl (lv_room (Nat.le_of_ble_eq_true rfl)) dL_law_1306 ⟨by show _ ≤ 601024; omega, by show _ ≤ 7293034; omega⟩) hS (fun r2 u2 H locs hp2 hG hS => ?_)
  rw [hp2.2] at hG
  refine lv_icmp_eq (tgt := 1602) hx hb dL_law_1309 (by decide) (fun c9 => ?_) (fun c9 => absurd ?_ c9)
  · refine W.widen (k := cells + 3) (n := slots + 300) (by omega) (by omega) ?_
    exact kk u jf _ _ _ (hR) hG hS hl
  · rw [hr1, hp2.1, re_count hR p1]
set_option maxHeartbeats 4000000 in
set_option maxRecDepth 100000 in
theorem lc_28 {p : Program} {l : Launch} {e : Env} {s : State} {m : MethodId} {below : List Frame} {meth : Method} {c : Code} {b L : Nat} {ys : Nat → Int} {D : va_G} {cy : Nat → ClassId} {ad : Nat → Nat} {jf : Nat → Int64} {A : Nat → Prop} {u : gS} {H : Heap} {locs : List Loc} {ls : Array Slot} {cells slots : Nat} {Q : State → Prop} {i : Int} (E : lE p l s m meth c b L ys D cy A) (hR : Rel cy u) (hG : gH D cy ad jf A u H) (hS : va_S A s.heap H locs) (hl : lv_has ls 8 (lV ad b i)) (hi : 0 ≤ i ∧ i + 6 ≤ (L : Int)) (hcs : cells + 3 ≤ 601024 ∧ slots + 300 ≤ 7293034) (kk : ∀ (u' : gS) (jf' : Nat → Int64) (H' : Heap) (locs' : List Loc) (ls' : Array Slot), Rel cy u' → gH D cy ad jf' A u' H' → va_S A s.heap H' locs' → lv_has ls' 8 (lV ad b i) → W p l e room_1 s m #[Value.ref b] below meth c H' locs' (cells + 3) (slots + 300) Q (F0 m 1602 ls' [])) : W p l e room_1 s m #[Value.ref b] below meth c H locs cells slots Q (F0 m 1314 ls []) := by
  obtain ⟨hx, hb, hml, hown, hts, hX, hbl, hbA, hC, hTh, hl9, hys, hL⟩ := E
  have hl : lv_has ls 8 [(0, .ref b), (1, .ref (ad 0)), (2, .ref (ad 8)), (3, .ref (ad 64)), (4, .int (zI i))] := hl
  obtain ⟨p1, e1⟩ : ∃ z : Int, z = ys (i + 1).toNat := ⟨_, rfl⟩
  have j1 : -2147483648 ≤ p1 ∧ p1 < 2147483648 := by rw [e1]; exact hys _
  obtain ⟨p2, e2⟩ : ∃ z : Int, z = ys (i + 2).toNat := ⟨_, rfl⟩
  have j2 : -2147483648 ≤ p2 ∧ p2 < 2147483648 := by rw [e2]; exact hys _
  obtain ⟨p3, e3⟩ : ∃ z : Int, z = ys (i + 3).toNat := ⟨_, rfl⟩
  have j3 : -2147483648 ≤ p3 ∧ p3 < 2147483648 := by rw [e3]; exact hys _
  refine lv_aload_n hx hb dL_law_1314 rfl (lv_at hl 1 rfl) ?_
  refine l_arg (k := 1) (p0 := 0) (p4 := 4) hx hb hX hbl hbA hS hl rfl rfl (by omega) (by omega) (by omega) e1 dL_law_1315 dL_law_1316 dL_law_1318 dL_law_1319 dL_law_1320 ?_
  refine l_arg (k := 2) (p0 := 0) (p4 := 4) hx hb hX hbl hbA hS hl rfl rfl (by omega) (by omega) (by omega) e2 dL_law_1321 dL_law_1322 dL_law_1324 dL_law_1325 dL_law_1326 ?_
  refine l_arg (k := 3) (p0 := 0) (p4 := 4) hx hb hX hbl hbA hS hl rfl rfl (by omega) (by omega) (by omega) e3 dL_law_1327 dL_law_1328 dL_law_1330 dL_law_1331 dL_law_1332 ?_
  refine g_calli (va_runV (As := [.int (zI p1), .int (zI p2), .int (zI p3)]) (rest := []) ⟨hx, hb, hml, hown, hts⟩ (kX11_keep l D cy ad jf A u p1 p2 p3 j1 j2 j3 hR.k0 hR.c6 hR.c13 hR.c14 hR.k15 hR.c22 (u.2.1 34) (u.2.1 35) (u.2.1 36) (u.2.1 37) hR.sw) (cwV 3 hts gL_law_X11_keep rfl rfl rfl (by decide +kernel) ⟨Nat.le_of_ble_eq_true rfl, Nat.le_of_ble_eq_true rfl⟩) (g_preV (C := RX11) hG hC hS 0 (by decide) rfl rfl) rfl rfl hl.1 rfl (lv_room (Nat.le_of_ble_eq_true rfl)) dL_law_1333 ⟨by show _ ≤ 601024; omega, by show _ ≤ 7293034; omega⟩) hS (fun r1 u1 H locs hp1 hG hS => ?_)
  obtain ⟨q1, q2, q3⟩ := re_keep hR hp1
  have hM := hR.m.kept q1
  refine lv_aload_n hx hb dL_law_1336 rfl (lv_at hl 2 rfl) ?_
  refine l_arg (k := 1) (p0 := 0) (p4 := 4) hx hb hX hbl hbA hS hl rfl rfl (by omega) (by omega) (by omega) e1 dL_law_1337 dL_law_1338 dL_law_1340 dL_law_1341 dL_law_1342 ?_
  refine l_arg (k := 2) (p0 := 0) (p4 := 4) hx hb hX hbl hbA hS hl rfl rfl (by omega) (by omega) (by omega) e2 dL_law_1343 dL_law_1344 dL_law_1346 dL_law_1347 dL_law_1348 ?_
  refine l_arg (k := 3) (p0 := 0) (p4 := 4) hx hb hX hbl hbA hS hl rfl rfl (by omega) (by omega) (by omega) e3 dL_law_1349 dL_law_1350 dL_law_1352 dL_law_1353 dL_law_1354 ?_
  refine g_calli (va_runV (As := [.int (zI p1), .int (zI p2), .int (zI p3)]) (rest := [.int r1]) ⟨hx, hb, hml, hown, hts⟩ (kX12_keep l D cy ad jf A u1 p1 p2 p3 j1 j2 j3 hM.i23 hM.i24 hM.i26 hM.i34 hM.i35 hM.i36 hM.i37 hM.i38 hM.i39 hM.i40 hM.i46) (cwV 3 hts gL_law_X12_keep rfl rfl rfl (by decide +kernel) ⟨Nat.le_of_ble_eq_true rfl, Nat.le_of_ble_eq_true rfl⟩) (g_preV (C := RX12) hG hC hS 8 (by decide) rfl rfl) rfl rfl hl.1 rfl (lv_room (Nat.le_of_ble_eq_true rfl)) dL_law_1355 ⟨by show _ ≤ 601024; omega, by show _ ≤ 7293034; omega⟩) hS (fun r2 u2 H locs hp2 hG hS => ?_)
  refine lv_icmp_eq (tgt := 1602) hx hb dL_law_1358 (by decide) (fun c9 => ?_) (fun c9 => absurd ?_ c9)
  · refine W.widen (k := cells + 3) (n := slots + 300) (by omega) (by omega) ?_
    exact kk u2 jf _ _ _ (by rw [hp2.2]; exact q3) hG hS hl
  · rw [q2, hp2.1]
set_option maxHeartbeats 4000000 in
set_option maxRecDepth 100000 in
theorem lc_29 {p : Program} {l : Launch} {e : Env} {s : State} {m : MethodId} {below : List Frame} {meth : Method} {c : Code} {b L : Nat} {ys : Nat → Int} {D : va_G} {cy : Nat → ClassId} {ad : Nat → Nat} {jf : Nat → Int64} {A : Nat → Prop} {u : gS} {H : Heap} {locs : List Loc} {ls : Array Slot} {cells slots : Nat} {Q : State → Prop} {i : Int} (E : lE p l s m meth c b L ys D cy A) (hR : Rel cy u) (hG : gH D cy ad jf A u H) (hS : va_S A s.heap H locs) (hl : lv_has ls 8 (lV ad b i)) (hi : 0 ≤ i ∧ i + 6 ≤ (L : Int)) (hcs : cells + 3 ≤ 601024 ∧ slots + 300 ≤ 7293034) (kk : ∀ (u' : gS) (jf' : Nat → Int64) (H' : Heap) (locs' : List Loc) (ls' : Array Slot), Rel cy u' → gH D cy ad jf' A u' H' → va_S A s.heap H' locs' → lv_has ls' 8 (lV ad b i) → W p l e room_1 s m #[Value.ref b] below meth c H' locs' (cells + 3) (slots + 300) Q (F0 m 1602 ls' [])) : W p l e room_1 s m #[Value.ref b] below meth c H locs cells slots Q (F0 m 1363 ls []) := by
  obtain ⟨hx, hb, hml, hown, hts, hX, hbl, hbA, hC, hTh, hl9, hys, hL⟩ := E
  have hl : lv_has ls 8 [(0, .ref b), (1, .ref (ad 0)), (2, .ref (ad 8)), (3, .ref (ad 64)), (4, .int (zI i))] := hl
  obtain ⟨p1, e1⟩ : ∃ z : Int, z = ys (i + 1).toNat := ⟨_, rfl⟩
  have j1 : -2147483648 ≤ p1 ∧ p1 < 2147483648 := by rw [e1]; exact hys _
  obtain ⟨p2, e2⟩ : ∃ z : Int, z = ys (i + 2).toNat := ⟨_, rfl⟩
  have j2 : -2147483648 ≤ p2 ∧ p2 < 2147483648 := by rw [e2]; exact hys _
  obtain ⟨p3, e3⟩ : ∃ z : Int, z = ys (i + 3).toNat := ⟨_, rfl⟩
  have j3 : -2147483648 ≤ p3 ∧ p3 < 2147483648 := by rw [e3]; exact hys _
  refine lv_aload_n hx hb dL_law_1363 rfl (lv_at hl 1 rfl) ?_
  refine l_arg (k := 1) (p0 := 0) (p4 := 4) hx hb hX hbl hbA hS hl rfl rfl (by omega) (by omega) (by omega) e1 dL_law_1364 dL_law_1365 dL_law_1367 dL_law_1368 dL_law_1369 ?_
  refine l_arg (k := 2) (p0 := 0) (p4 := 4) hx hb hX hbl hbA hS hl rfl rfl (by omega) (by omega) (by omega) e2 dL_law_1370 dL_law_1371 dL_law_1373 dL_law_1374 dL_law_1375 ?_
  refine l_arg (k := 3) (p0 := 0) (p4 := 4) hx hb hX hbl hbA hS hl rfl rfl (by omega) (by omega) (by omega) e3 dL_law_1376 dL_law_1377 dL_law_1379 dL_law_1380 dL_law_1381 ?_
  refine g_calli (va_runV (As := [.int (zI p1), .int (zI p2), .int (zI p3)]) (rest := []) ⟨hx, hb, hml, hown, hts⟩ (kX11_make l D cy ad jf A u p1 p2 p3 j1 j2 j3) (cwV 3 hts gL_law_X11_make rfl rfl rfl (by decide +kernel) ⟨Nat.le_of_ble_eq_true rfl, Nat.le_of_ble_eq_true rfl⟩) (g_preV (C := RX11) hG hC hS 0 (by decide) rfl rfl) rfl rfl hl.1 rfl (lv_room (Nat.le_of_ble_eq_true rfl)) dL_law_1382 ⟨by show _ ≤ 601024; omega, by show _ ≤ 7293034; omega⟩) hS (fun r1 u1 H locs hp1 hG hS => ?_)
  obtain ⟨q1, q2, q3⟩ := re_make hR hp1
  have hM := hR.m.kept q1
  refine lv_aload_n hx hb dL_law_1385 rfl (lv_at hl 2 rfl) ?_
  refine l_arg (k := 1) (p0 := 0) (p4 := 4) hx hb hX hbl hbA hS hl rfl rfl (by omega) (by omega) (by omega) e1 dL_law_1386 dL_law_1387 dL_law_1389 dL_law_1390 dL_law_1391 ?_
  refine l_arg (k := 2) (p0 := 0) (p4 := 4) hx hb hX hbl hbA hS hl rfl rfl (by omega) (by omega) (by omega) e2 dL_law_1392 dL_law_1393 dL_law_1395 dL_law_1396 dL_law_1397 ?_
  refine l_arg (k := 3) (p0 := 0) (p4 := 4) hx hb hX hbl hbA hS hl rfl rfl (by omega) (by omega) (by omega) e3 dL_law_1398 dL_law_1399 dL_law_1401 dL_law_1402 dL_law_1403 ?_
  refine g_calli (va_runV (As := [.int (zI p1), .int (zI p2), .int (zI p3)]) (rest := [.int r1]) ⟨hx, hb, hml, hown, hts⟩ (kX12_make l D cy ad jf A u1 p1 p2 p3 j1 j2 j3) (cwV 3 hts gL_law_X12_make rfl rfl rfl (by decide +kernel) ⟨Nat.le_of_ble_eq_true rfl, Nat.le_of_ble_eq_true rfl⟩) (g_preV (C := RX12) hG hC hS 8 (by decide) rfl rfl) rfl rfl hl.1 rfl (lv_room (Nat.le_of_ble_eq_true rfl)) dL_law_1404 ⟨by show _ ≤ 601024; omega, by show _ ≤ 7293034; omega⟩) hS (fun r2 u2 H locs hp2 hG hS => ?_)
  refine lv_icmp_eq (tgt := 1602) hx hb dL_law_1407 (by decide) (fun c9 => ?_) (fun c9 => absurd ?_ c9)
  · refine W.widen (k := cells + 3) (n := slots + 300) (by omega) (by omega) ?_
    exact kk u2 jf _ _ _ (by rw [hp2.2]; exact q3) hG hS hl
  · rw [q2, hp2.1]
set_option maxHeartbeats 4000000 in
set_option maxRecDepth 100000 in
theorem lc_30 {p : Program} {l : Launch} {e : Env} {s : State} {m : MethodId} {below : List Frame} {meth : Method} {c : Code} {b L : Nat} {ys : Nat → Int} {D : va_G} {cy : Nat → ClassId} {ad : Nat → Nat} {jf : Nat → Int64} {A : Nat → Prop} {u : gS} {H : Heap} {locs : List Loc} {ls : Array Slot} {cells slots : Nat} {Q : State → Prop} {i : Int} (E : lE p l s m meth c b L ys D cy A) (hR : Rel cy u) (hG : gH D cy ad jf A u H) (hS : va_S A s.heap H locs) (hl : lv_has ls 8 (lV ad b i)) (hi : 0 ≤ i ∧ i + 6 ≤ (L : Int)) (hcs : cells + 3 ≤ 601024 ∧ slots + 300 ≤ 7293034) (kk : ∀ (u' : gS) (jf' : Nat → Int64) (H' : Heap) (locs' : List Loc) (ls' : Array Slot), Rel cy u' → gH D cy ad jf' A u' H' → va_S A s.heap H' locs' → lv_has ls' 8 (lV ad b i) → W p l e room_1 s m #[Value.ref b] below meth c H' locs' (cells + 3) (slots + 300) Q (F0 m 1602 ls' [])) : W p l e room_1 s m #[Value.ref b] below meth c H locs cells slots Q (F0 m 1412 ls []) := by
  obtain ⟨hx, hb, hml, hown, hts, hX, hbl, hbA, hC, hTh, hl9, hys, hL⟩ := E
  have hl : lv_has ls 8 [(0, .ref b), (1, .ref (ad 0)), (2, .ref (ad 8)), (3, .ref (ad 64)), (4, .int (zI i))] := hl
  obtain ⟨p1, e1⟩ : ∃ z : Int, z = ys (i + 1).toNat := ⟨_, rfl⟩
  have j1 : -2147483648 ≤ p1 ∧ p1 < 2147483648 := by rw [e1]; exact hys _
  obtain ⟨p2, e2⟩ : ∃ z : Int, z = ys (i + 2).toNat := ⟨_, rfl⟩
  have j2 : -2147483648 ≤ p2 ∧ p2 < 2147483648 := by rw [e2]; exact hys _
  obtain ⟨SP, LI, FD, BA, GG, hsl, hwt, hgg⟩ := rel_sl hR.sl
  refine lv_aload_n hx hb dL_law_1412 rfl (lv_at hl 1 rfl) ?_
  refine l_arg (k := 1) (p0 := 0) (p4 := 4) hx hb hX hbl hbA hS hl rfl rfl (by omega) (by omega) (by omega) e1 dL_law_1413 dL_law_1414 dL_law_1416 dL_law_1417 dL_law_1418 ?_
  refine l_arg (k := 2) (p0 := 0) (p4 := 4) hx hb hX hbl hbA hS hl rfl rfl (by omega) (by omega) (by omega) e2 dL_law_1419 dL_law_1420 dL_law_1422 dL_law_1423 dL_law_1424 ?_
  refine lv_aload_n hx hb dL_law_1425 rfl (lv_at hl 3 rfl) ?_
  refine vx_calli (vx_runSX (As := [.ref (ad 0), .int (zI p1), .int (zI p2), .ref (ad 64)]) (rest := []) ⟨hx, hb, hml, hown, hts⟩ (kL_element l D cy ad jf A hl9 u p1 p2 j1 j2 (u.2.1 58) (u.2.1 60) (u.2.1 59) SP LI FD BA (fun d => (u.2.1 62 d).toNat) GG hsl) (vx_cwSW 4 hts gL_law_L_element rfl rfl rfl (by decide +kernel) ⟨Nat.le_of_ble_eq_true rfl, Nat.le_of_ble_eq_true rfl⟩) (gX_preS hG hC hTh hS) rfl rfl hl.1 rfl (lv_room (Nat.le_of_ble_eq_true rfl)) dL_law_1426 ⟨by show _ ≤ 601024; omega, by show _ ≤ 7293034; omega⟩) hS (fun _ _ h => h) (fun _ h => h) (fun _ _ h => h) (fun E ce q9 v9 t H locs _ _ _ hBX => absurd hBX.1 id) (fun r9 v9 t H locs ht _ hpo hB _ _ hS => ?_)
  obtain ⟨v1, jf9⟩ := v9
  have hG : gH D cy ad jf9 A v1 H := by rw [← ht]; exact hB.1
  rcases hpo with ⟨hr9, hok, hv1, hj9⟩ | ⟨hr9, hno, hv1⟩ | ⟨hr9, hno, hv1⟩
  · have hv1 : v1 = u := hv1
    rw [hv1] at hG
    refine lv_istore (lv' := [(5, .int r9), (0, .ref b), (1, .ref (ad 0)), (2, .ref (ad 8)), (3, .ref (ad 64)), (4, .int (zI i))]) hx hb dL_law_1429 hl (by decide) rfl (fun ls hl => ?_)
    refine lv_aload_n hx hb dL_law_1431 rfl (lv_at hl 3 rfl) ?_
    refine l_arg (k := 1) (p0 := 1) (p4 := 5) hx hb hX hbl hbA hS hl rfl rfl (by omega) (by omega) (by omega) e1 dL_law_1432 dL_law_1433 dL_law_1435 dL_law_1436 dL_law_1437 ?_
    refine l_arg (k := 2) (p0 := 1) (p4 := 5) hx hb hX hbl hbA hS hl rfl rfl (by omega) (by omega) (by omega) e2 dL_law_1438 dL_law_1439 dL_law_1441 dL_law_1442 dL_law_1443 ?_
    have hM := hR.m
    refine va_calll (va_runV (As := [.int (zI p1), .int (zI p2)]) (rest := []) ⟨hx, hb, hml, hown, hts⟩ (kX12_element l D cy ad jf9 A u p1 p2 j1 j2 hM.i58 hM.i62) (cwV 2 hts gL_law_X12_element rfl rfl rfl (by decide +kernel) ⟨Nat.le_of_ble_eq_true rfl, Nat.le_of_ble_eq_true rfl⟩) (g_preV (C := RX12) hG hC hS 8 (by decide) rfl rfl) rfl rfl hl.1 rfl (lv_room (Nat.le_of_ble_eq_true rfl)) dL_law_1444 ⟨by show _ ≤ 601024; omega, by show _ ≤ 7293034; omega⟩) hS (fun _ _ h => h) (fun _ h => h) (fun r2 u2 t2 H locs ht2 _ hp2 hB2 _ _ hS => ?_)
    have hG : gH D cy ad jf9 A u2 H := by rw [← ht2]; exact hB2.1
    refine lv_lstore (lv' := [(6, .long r2), (5, .int r9), (0, .ref b), (1, .ref (ad 0)), (2, .ref (ad 8)), (3, .ref (ad 64)), (4, .int (zI i))]) hx hb dL_law_1447 hl (by decide) rfl (fun ls hl => ?_)
    refine lv_aload_n hx hb dL_law_1449 rfl (lv_at hl 4 rfl) ?_
    refine g_calli (va_runV (As := []) (rest := []) ⟨hx, hb, hml, hown, hts⟩ (kX12_thrown l D cy ad jf9 A u2) (cwV 0 hts gL_law_X12_thrown rfl rfl rfl (by decide +kernel) ⟨Nat.le_of_ble_eq_true rfl, Nat.le_of_ble_eq_true rfl⟩) (g_preV (C := RX12) hG hC hS 8 (by decide) rfl rfl) rfl rfl hl.1 rfl (lv_room (Nat.le_of_ble_eq_true rfl)) dL_law_1450 ⟨by show _ ≤ 601024; omega, by show _ ≤ 7293034; omega⟩) hS (fun r3 u3 H locs hp3 hG hS => ?_)
    rw [hp3.2, hp2.2] at hG
    have hz := re_ele0 hR hgg hok.1 hok.2
    have h3 : r3 = zI 0 := by rw [hp3.1, hp2.2]; show zI (mEleT u p1 p2) = _; rw [hz.1]
    refine lv_iload hx hb dL_law_1453 (lv_at hl 1 rfl) ?_
    refine lv_icmp_eq (tgt := 1460) hx hb dL_law_1455 (by decide) (fun c9 => ?_) (fun c9 => absurd (h3.trans hr9.symm) c9)
    refine lv_iload hx hb dL_law_1460 (lv_at hl 1 rfl) ?_
    rw [hr9]
    refine z_if_ne (tgt := 1476) hx hb dL_law_1462 (by decide) (by decide) (by decide) (fun c8 => ?_) (fun c8 => ?_)
    · exact absurd rfl c8
    · refine lv_aload_n hx hb dL_law_1465 rfl (lv_at hl 5 rfl) ?_
      refine z_iconst hx hb dL_law_1466 ?_
      refine g_lald hx hb hC.1 hG dL_law_1467 ?_
      refine lv_lload hx hb dL_law_1468 (lv_at hl 0 rfl) ?_
      refine W.lcmp hx hb dL_law_1470 ?_
      have hj9 : jf9 0 = _ := hj9
      rw [hj9, hp2.1, hz.2, lg_cmp_self]
      refine lv_if_eq (tgt := 1476) hx hb dL_law_1471 (by decide) (fun _ => ?_) (fun c7 => absurd rfl c7)
      refine lv_goto (tgt := 1602) hx hb dL_law_1476 (by decide) ?_
      refine W.widen (k := cells + 3) (n := slots + 300) (by omega) (by omega) ?_
      exact kk _ jf9 _ _ _ (re_20 hR _) hG hS (lv_sub hl [2, 3, 4, 5, 6] rfl)
  · have hv1 : v1 = u := hv1
    rw [hv1] at hG
    refine lv_istore (lv' := [(5, .int r9), (0, .ref b), (1, .ref (ad 0)), (2, .ref (ad 8)), (3, .ref (ad 64)), (4, .int (zI i))]) hx hb dL_law_1429 hl (by decide) rfl (fun ls hl => ?_)
    refine lv_aload_n hx hb dL_law_1431 rfl (lv_at hl 3 rfl) ?_
    refine l_arg (k := 1) (p0 := 1) (p4 := 5) hx hb hX hbl hbA hS hl rfl rfl (by omega) (by omega) (by omega) e1 dL_law_1432 dL_law_1433 dL_law_1435 dL_law_1436 dL_law_1437 ?_
    refine l_arg (k := 2) (p0 := 1) (p4 := 5) hx hb hX hbl hbA hS hl rfl rfl (by omega) (by omega) (by omega) e2 dL_law_1438 dL_law_1439 dL_law_1441 dL_law_1442 dL_law_1443 ?_
    have hM := hR.m
    refine va_calll (va_runV (As := [.int (zI p1), .int (zI p2)]) (rest := []) ⟨hx, hb, hml, hown, hts⟩ (kX12_element l D cy ad jf9 A u p1 p2 j1 j2 hM.i58 hM.i62) (cwV 2 hts gL_law_X12_element rfl rfl rfl (by decide +kernel) ⟨Nat.le_of_ble_eq_true rfl, Nat.le_of_ble_eq_true rfl⟩) (g_preV (C := RX12) hG hC hS 8 (by decide) rfl rfl) rfl rfl hl.1 rfl (lv_room (Nat.le_of_ble_eq_true rfl)) dL_law_1444 ⟨by show _ ≤ 601024; omega, by show _ ≤ 7293034; omega⟩) hS (fun _ _ h => h) (fun _ h => h) (fun r2 u2 t2 H locs ht2 _ hp2 hB2 _ _ hS => ?_)
    have hG : gH D cy ad jf9 A u2 H := by rw [← ht2]; exact hB2.1
    refine lv_lstore (lv' := [(6, .long r2), (5, .int r9), (0, .ref b), (1, .ref (ad 0)), (2, .ref (ad 8)), (3, .ref (ad 64)), (4, .int (zI i))]) hx hb dL_law_1447 hl (by decide) rfl (fun ls hl => ?_)
    refine lv_aload_n hx hb dL_law_1449 rfl (lv_at hl 4 rfl) ?_
    refine g_calli (va_runV (As := []) (rest := []) ⟨hx, hb, hml, hown, hts⟩ (kX12_thrown l D cy ad jf9 A u2) (cwV 0 hts gL_law_X12_thrown rfl rfl rfl (by decide +kernel) ⟨Nat.le_of_ble_eq_true rfl, Nat.le_of_ble_eq_true rfl⟩) (g_preV (C := RX12) hG hC hS 8 (by decide) rfl rfl) rfl rfl hl.1 rfl (lv_room (Nat.le_of_ble_eq_true rfl)) dL_law_1450 ⟨by show _ ≤ 601024; omega, by show _ ≤ 7293034; omega⟩) hS (fun r3 u3 H locs hp3 hG hS => ?_)
    rw [hp3.2, hp2.2] at hG
    have hz := re_ele1 (u := u) (p2 := p2) hno
    have h3 : r3 = zI 1 := by rw [hp3.1, hp2.2]; show zI (mEleT u p1 p2) = _; rw [hz]
    refine lv_iload hx hb dL_law_1453 (lv_at hl 1 rfl) ?_
    refine lv_icmp_eq (tgt := 1460) hx hb dL_law_1455 (by decide) (fun c9 => ?_) (fun c9 => absurd (h3.trans hr9.symm) c9)
    refine lv_iload hx hb dL_law_1460 (lv_at hl 1 rfl) ?_
    rw [hr9]
    refine z_if_ne (tgt := 1476) hx hb dL_law_1462 (by decide) (by decide) (by decide) (fun c8 => ?_) (fun c8 => ?_)
    · refine lv_goto (tgt := 1602) hx hb dL_law_1476 (by decide) ?_
      refine W.widen (k := cells + 3) (n := slots + 300) (by omega) (by omega) ?_
      exact kk _ jf9 _ _ _ (re_20 hR _) hG hS (lv_sub hl [2, 3, 4, 5, 6] rfl)
    · exact absurd c8 (by decide)
  · have hv1 : v1 = u := hv1
    rw [hv1] at hG
    refine lv_istore (lv' := [(5, .int r9), (0, .ref b), (1, .ref (ad 0)), (2, .ref (ad 8)), (3, .ref (ad 64)), (4, .int (zI i))]) hx hb dL_law_1429 hl (by decide) rfl (fun ls hl => ?_)
    refine lv_aload_n hx hb dL_law_1431 rfl (lv_at hl 3 rfl) ?_
    refine l_arg (k := 1) (p0 := 1) (p4 := 5) hx hb hX hbl hbA hS hl rfl rfl (by omega) (by omega) (by omega) e1 dL_law_1432 dL_law_1433 dL_law_1435 dL_law_1436 dL_law_1437 ?_
    refine l_arg (k := 2) (p0 := 1) (p4 := 5) hx hb hX hbl hbA hS hl rfl rfl (by omega) (by omega) (by omega) e2 dL_law_1438 dL_law_1439 dL_law_1441 dL_law_1442 dL_law_1443 ?_
    have hM := hR.m
    refine va_calll (va_runV (As := [.int (zI p1), .int (zI p2)]) (rest := []) ⟨hx, hb, hml, hown, hts⟩ (kX12_element l D cy ad jf9 A u p1 p2 j1 j2 hM.i58 hM.i62) (cwV 2 hts gL_law_X12_element rfl rfl rfl (by decide +kernel) ⟨Nat.le_of_ble_eq_true rfl, Nat.le_of_ble_eq_true rfl⟩) (g_preV (C := RX12) hG hC hS 8 (by decide) rfl rfl) rfl rfl hl.1 rfl (lv_room (Nat.le_of_ble_eq_true rfl)) dL_law_1444 ⟨by show _ ≤ 601024; omega, by show _ ≤ 7293034; omega⟩) hS (fun _ _ h => h) (fun _ h => h) (fun r2 u2 t2 H locs ht2 _ hp2 hB2 _ _ hS => ?_)
    have hG : gH D cy ad jf9 A u2 H := by rw [← ht2]; exact hB2.1
    refine lv_lstore (lv' := [(6, .long r2), (5, .int r9), (0, .ref b), (1, .ref (ad 0)), (2, .ref (ad 8)), (3, .ref (ad 64)), (4, .int (zI i))]) hx hb dL_law_1447 hl (by decide) rfl (fun ls hl => ?_)
    refine lv_aload_n hx hb dL_law_1449 rfl (lv_at hl 4 rfl) ?_
    refine g_calli (va_runV (As := []) (rest := []) ⟨hx, hb, hml, hown, hts⟩ (kX12_thrown l D cy ad jf9 A u2) (cwV 0 hts gL_law_X12_thrown rfl rfl rfl (by decide +kernel) ⟨Nat.le_of_ble_eq_true rfl, Nat.le_of_ble_eq_true rfl⟩) (g_preV (C := RX12) hG hC hS 8 (by decide) rfl rfl) rfl rfl hl.1 rfl (lv_room (Nat.le_of_ble_eq_true rfl)) dL_law_1450 ⟨by show _ ≤ 601024; omega, by show _ ≤ 7293034; omega⟩) hS (fun r3 u3 H locs hp3 hG hS => ?_)
    rw [hp3.2, hp2.2] at hG
    have hz := re_ele2 hR hsl hno.1 hno.2
    have h3 : r3 = zI 2 := by rw [hp3.1, hp2.2]; show zI (mEleT u p1 p2) = _; rw [hz]
    refine lv_iload hx hb dL_law_1453 (lv_at hl 1 rfl) ?_
    refine lv_icmp_eq (tgt := 1460) hx hb dL_law_1455 (by decide) (fun c9 => ?_) (fun c9 => absurd (h3.trans hr9.symm) c9)
    refine lv_iload hx hb dL_law_1460 (lv_at hl 1 rfl) ?_
    rw [hr9]
    refine z_if_ne (tgt := 1476) hx hb dL_law_1462 (by decide) (by decide) (by decide) (fun c8 => ?_) (fun c8 => ?_)
    · refine lv_goto (tgt := 1602) hx hb dL_law_1476 (by decide) ?_
      refine W.widen (k := cells + 3) (n := slots + 300) (by omega) (by omega) ?_
      exact kk _ jf9 _ _ _ (re_20 hR _) hG hS (lv_sub hl [2, 3, 4, 5, 6] rfl)
    · exact absurd c8 (by decide)
set_option maxHeartbeats 4000000 in
set_option maxRecDepth 100000 in
theorem lc_31 {p : Program} {l : Launch} {e : Env} {s : State} {m : MethodId} {below : List Frame} {meth : Method} {c : Code} {b L : Nat} {ys : Nat → Int} {D : va_G} {cy : Nat → ClassId} {ad : Nat → Nat} {jf : Nat → Int64} {A : Nat → Prop} {u : gS} {H : Heap} {locs : List Loc} {ls : Array Slot} {cells slots : Nat} {Q : State → Prop} {i : Int} (E : lE p l s m meth c b L ys D cy A) (hR : Rel cy u) (hG : gH D cy ad jf A u H) (hS : va_S A s.heap H locs) (hl : lv_has ls 8 (lV ad b i)) (hi : 0 ≤ i ∧ i + 6 ≤ (L : Int)) (hcs : cells + 3 ≤ 601024 ∧ slots + 300 ≤ 7293034) (kk : ∀ (u' : gS) (jf' : Nat → Int64) (H' : Heap) (locs' : List Loc) (ls' : Array Slot), Rel cy u' → gH D cy ad jf' A u' H' → va_S A s.heap H' locs' → lv_has ls' 8 (lV ad b i) → W p l e room_1 s m #[Value.ref b] below meth c H' locs' (cells + 3) (slots + 300) Q (F0 m 1602 ls' [])) : W p l e room_1 s m #[Value.ref b] below meth c H locs cells slots Q (F0 m 1479 ls []) := by
  obtain ⟨hx, hb, hml, hown, hts, hX, hbl, hbA, hC, hTh, hl9, hys, hL⟩ := E
  have hl : lv_has ls 8 [(0, .ref b), (1, .ref (ad 0)), (2, .ref (ad 8)), (3, .ref (ad 64)), (4, .int (zI i))] := hl
  obtain ⟨p1, e1⟩ : ∃ z : Int, z = ys (i + 1).toNat := ⟨_, rfl⟩
  have j1 : -2147483648 ≤ p1 ∧ p1 < 2147483648 := by rw [e1]; exact hys _
  obtain ⟨p2, e2⟩ : ∃ z : Int, z = ys (i + 2).toNat := ⟨_, rfl⟩
  have j2 : -2147483648 ≤ p2 ∧ p2 < 2147483648 := by rw [e2]; exact hys _
  obtain ⟨p3, e3⟩ : ∃ z : Int, z = ys (i + 3).toNat := ⟨_, rfl⟩
  have j3 : -2147483648 ≤ p3 ∧ p3 < 2147483648 := by rw [e3]; exact hys _
  obtain ⟨p4, e4⟩ : ∃ z : Int, z = ys (i + 4).toNat := ⟨_, rfl⟩
  have j4 : -2147483648 ≤ p4 ∧ p4 < 2147483648 := by rw [e4]; exact hys _
  obtain ⟨p5, e5⟩ : ∃ z : Int, z = ys (i + 5).toNat := ⟨_, rfl⟩
  have j5 : -2147483648 ≤ p5 ∧ p5 < 2147483648 := by rw [e5]; exact hys _
  obtain ⟨SP, LI, FD, BA, GG, hsl, hwt, hgg⟩ := rel_sl hR.sl
  refine lv_aload_n hx hb dL_law_1479 rfl (lv_at hl 1 rfl) ?_
  refine l_arg (k := 1) (p0 := 0) (p4 := 4) hx hb hX hbl hbA hS hl rfl rfl (by omega) (by omega) (by omega) e1 dL_law_1480 dL_law_1481 dL_law_1483 dL_law_1484 dL_law_1485 ?_
  refine l_arg (k := 2) (p0 := 0) (p4 := 4) hx hb hX hbl hbA hS hl rfl rfl (by omega) (by omega) (by omega) e2 dL_law_1486 dL_law_1487 dL_law_1489 dL_law_1490 dL_law_1491 ?_
  refine l_arg (k := 3) (p0 := 0) (p4 := 4) hx hb hX hbl hbA hS hl rfl rfl (by omega) (by omega) (by omega) e3 dL_law_1492 dL_law_1493 dL_law_1495 dL_law_1496 dL_law_1497 ?_
  refine l_arg (k := 4) (p0 := 0) (p4 := 4) hx hb hX hbl hbA hS hl rfl rfl (by omega) (by omega) (by omega) e4 dL_law_1498 dL_law_1499 dL_law_1501 dL_law_1502 dL_law_1503 ?_
  refine l_arg (k := 5) (p0 := 0) (p4 := 4) hx hb hX hbl hbA hS hl rfl rfl (by omega) (by omega) (by omega) e5 dL_law_1504 dL_law_1505 dL_law_1507 dL_law_1508 dL_law_1509 ?_
  refine g_calli (va_runV (As := [.int (zI p1), .int (zI p2), .int (zI p3), .int (zI p4), .int (zI p5)]) (rest := []) ⟨hx, hb, hml, hown, hts⟩ (kX11_copy l D cy ad jf A u p1 p2 p3 p4 p5 j1 j2 j3 j4 j5 (u.2.1 58) (u.2.1 60) (u.2.1 59) SP LI FD BA (fun d => (u.2.1 62 d).toNat) GG hsl) (cwV 5 hts gL_law_X11_copy rfl rfl rfl (by decide +kernel) ⟨Nat.le_of_ble_eq_true rfl, Nat.le_of_ble_eq_true rfl⟩) (g_preV (C := RX11) hG hC hS 0 (by decide) rfl rfl) rfl rfl hl.1 rfl (lv_room (Nat.le_of_ble_eq_true rfl)) dL_law_1510 ⟨by show _ ≤ 601024; omega, by show _ ≤ 7293034; omega⟩) hS (fun r1 u1 H locs hp1 hG hS => ?_)
  obtain ⟨q1, q2, q3⟩ := re_copy hR hsl hgg hp1
  have hM := hR.m.kept q1
  refine lv_aload_n hx hb dL_law_1513 rfl (lv_at hl 2 rfl) ?_
  refine l_arg (k := 1) (p0 := 0) (p4 := 4) hx hb hX hbl hbA hS hl rfl rfl (by omega) (by omega) (by omega) e1 dL_law_1514 dL_law_1515 dL_law_1517 dL_law_1518 dL_law_1519 ?_
  refine l_arg (k := 2) (p0 := 0) (p4 := 4) hx hb hX hbl hbA hS hl rfl rfl (by omega) (by omega) (by omega) e2 dL_law_1520 dL_law_1521 dL_law_1523 dL_law_1524 dL_law_1525 ?_
  refine l_arg (k := 3) (p0 := 0) (p4 := 4) hx hb hX hbl hbA hS hl rfl rfl (by omega) (by omega) (by omega) e3 dL_law_1526 dL_law_1527 dL_law_1529 dL_law_1530 dL_law_1531 ?_
  refine l_arg (k := 4) (p0 := 0) (p4 := 4) hx hb hX hbl hbA hS hl rfl rfl (by omega) (by omega) (by omega) e4 dL_law_1532 dL_law_1533 dL_law_1535 dL_law_1536 dL_law_1537 ?_
  refine l_arg (k := 5) (p0 := 0) (p4 := 4) hx hb hX hbl hbA hS hl rfl rfl (by omega) (by omega) (by omega) e5 dL_law_1538 dL_law_1539 dL_law_1541 dL_law_1542 dL_law_1543 ?_
  refine g_calli (va_runV (As := [.int (zI p1), .int (zI p2), .int (zI p3), .int (zI p4), .int (zI p5)]) (rest := [.int r1]) ⟨hx, hb, hml, hown, hts⟩ (kX12_copy l D cy ad jf A u1 p1 p2 p3 p4 p5 j1 j2 j3 j4 j5 hM.i58 hM.i62) (cwV 5 hts gL_law_X12_copy rfl rfl rfl (by decide +kernel) ⟨Nat.le_of_ble_eq_true rfl, Nat.le_of_ble_eq_true rfl⟩) (g_preV (C := RX12) hG hC hS 8 (by decide) rfl rfl) rfl rfl hl.1 rfl (lv_room (Nat.le_of_ble_eq_true rfl)) dL_law_1544 ⟨by show _ ≤ 601024; omega, by show _ ≤ 7293034; omega⟩) hS (fun r2 u2 H locs hp2 hG hS => ?_)
  refine lv_icmp_eq (tgt := 1602) hx hb dL_law_1547 (by decide) (fun c9 => ?_) (fun c9 => absurd ?_ c9)
  · refine W.widen (k := cells + 3) (n := slots + 300) (by omega) (by omega) ?_
    exact kk u2 jf _ _ _ (by rw [hp2.2]; exact q3) hG hS hl
  · rw [q2, hp2.1]
set_option maxHeartbeats 4000000 in
set_option maxRecDepth 100000 in
theorem lc_32 {p : Program} {l : Launch} {e : Env} {s : State} {m : MethodId} {below : List Frame} {meth : Method} {c : Code} {b L : Nat} {ys : Nat → Int} {D : va_G} {cy : Nat → ClassId} {ad : Nat → Nat} {jf : Nat → Int64} {A : Nat → Prop} {u : gS} {H : Heap} {locs : List Loc} {ls : Array Slot} {cells slots : Nat} {Q : State → Prop} {i : Int} (E : lE p l s m meth c b L ys D cy A) (hR : Rel cy u) (hG : gH D cy ad jf A u H) (hS : va_S A s.heap H locs) (hl : lv_has ls 8 (lV ad b i)) (hi : 0 ≤ i ∧ i + 6 ≤ (L : Int)) (hcs : cells + 3 ≤ 601024 ∧ slots + 300 ≤ 7293034) (kk : ∀ (u' : gS) (jf' : Nat → Int64) (H' : Heap) (locs' : List Loc) (ls' : Array Slot), Rel cy u' → gH D cy ad jf' A u' H' → va_S A s.heap H' locs' → lv_has ls' 8 (lV ad b i) → W p l e room_1 s m #[Value.ref b] below meth c H' locs' (cells + 3) (slots + 300) Q (F0 m 1602 ls' [])) : W p l e room_1 s m #[Value.ref b] below meth c H locs cells slots Q (F0 m 1552 ls []) := by
  obtain ⟨hx, hb, hml, hown, hts, hX, hbl, hbA, hC, hTh, hl9, hys, hL⟩ := E
  have hl : lv_has ls 8 [(0, .ref b), (1, .ref (ad 0)), (2, .ref (ad 8)), (3, .ref (ad 64)), (4, .int (zI i))] := hl
  obtain ⟨p1, e1⟩ : ∃ z : Int, z = ys (i + 1).toNat := ⟨_, rfl⟩
  have j1 : -2147483648 ≤ p1 ∧ p1 < 2147483648 := by rw [e1]; exact hys _
  obtain ⟨SP, LI, FD, BA, GG, hsl, hwt, hgg⟩ := rel_sl hR.sl
  refine lv_aload_n hx hb dL_law_1552 rfl (lv_at hl 1 rfl) ?_
  refine l_arg (k := 1) (p0 := 0) (p4 := 4) hx hb hX hbl hbA hS hl rfl rfl (by omega) (by omega) (by omega) e1 dL_law_1553 dL_law_1554 dL_law_1556 dL_law_1557 dL_law_1558 ?_
  refine g_calli (va_runV (As := [.int (zI p1)]) (rest := []) ⟨hx, hb, hml, hown, hts⟩ (kX11_weight l D cy ad jf A u p1 j1 (u.2.1 58) (u.2.1 60) (u.2.1 59) SP LI FD BA (fun d => (u.2.1 62 d).toNat) GG hsl) (cwV 1 hts gL_law_X11_weight rfl rfl rfl (by decide +kernel) ⟨Nat.le_of_ble_eq_true rfl, Nat.le_of_ble_eq_true rfl⟩) (g_preV (C := RX11) hG hC hS 0 (by decide) rfl rfl) rfl rfl hl.1 rfl (lv_room (Nat.le_of_ble_eq_true rfl)) dL_law_1559 ⟨by show _ ≤ 601024; omega, by show _ ≤ 7293034; omega⟩) hS (fun r1 u1 H locs hp1 hG hS => ?_)
  obtain ⟨hr1, hu1⟩ := hp1
  rw [hu1] at hG
  have hM := hR.m
  refine lv_aload_n hx hb dL_law_1562 rfl (lv_at hl 2 rfl) ?_
  refine l_arg (k := 1) (p0 := 0) (p4 := 4) hx hb hX hbl hbA hS hl rfl rfl (by omega) (by omega) (by omega) e1 dL_law_1563 dL_law_1564 dL_law_1566 dL_law_1567 dL_law_1568 ?_
  refine g_calli (va_runV (As := [.int (zI p1)]) (rest := [.int r1]) ⟨hx, hb, hml, hown, hts⟩ (kX12_weight l D cy ad jf A u p1 j1 hM.i58 hM.i61) (cwV 1 hts gL_law_X12_weight rfl rfl rfl (by decide +kernel) ⟨Nat.le_of_ble_eq_true rfl, Nat.le_of_ble_eq_true rfl⟩) (g_preV (C := RX12) hG hC hS 8 (by decide) rfl rfl) rfl rfl hl.1 rfl (lv_room (Nat.le_of_ble_eq_true rfl)) dL_law_1569 ⟨by show _ ≤ 601024; omega, by show _ ≤ 7293034; omega⟩) hS (fun r2 u2 H locs hp2 hG hS => ?_)
  rw [hp2.2] at hG
  refine lv_icmp_eq (tgt := 1602) hx hb dL_law_1572 (by decide) (fun c9 => ?_) (fun c9 => absurd ?_ c9)
  · refine W.widen (k := cells + 3) (n := slots + 300) (by omega) (by omega) ?_
    exact kk u jf _ _ _ (hR) hG hS hl
  · rw [hr1, hp2.1, re_weight (cy := cy) hwt p1]
set_option maxHeartbeats 4000000 in
set_option maxRecDepth 100000 in
theorem lc_33 {p : Program} {l : Launch} {e : Env} {s : State} {m : MethodId} {below : List Frame} {meth : Method} {c : Code} {b L : Nat} {ys : Nat → Int} {D : va_G} {cy : Nat → ClassId} {ad : Nat → Nat} {jf : Nat → Int64} {A : Nat → Prop} {u : gS} {H : Heap} {locs : List Loc} {ls : Array Slot} {cells slots : Nat} {Q : State → Prop} {i : Int} (E : lE p l s m meth c b L ys D cy A) (hR : Rel cy u) (hG : gH D cy ad jf A u H) (hS : va_S A s.heap H locs) (hl : lv_has ls 8 (lV ad b i)) (hi : 0 ≤ i ∧ i + 6 ≤ (L : Int)) (hcs : cells + 3 ≤ 601024 ∧ slots + 300 ≤ 7293034) (kk : ∀ (u' : gS) (jf' : Nat → Int64) (H' : Heap) (locs' : List Loc) (ls' : Array Slot), Rel cy u' → gH D cy ad jf' A u' H' → va_S A s.heap H' locs' → lv_has ls' 8 (lV ad b i) → W p l e room_1 s m #[Value.ref b] below meth c H' locs' (cells + 3) (slots + 300) Q (F0 m 1602 ls' [])) : W p l e room_1 s m #[Value.ref b] below meth c H locs cells slots Q (F0 m 1577 ls []) := by
  obtain ⟨hx, hb, hml, hown, hts, hX, hbl, hbA, hC, hTh, hl9, hys, hL⟩ := E
  have hl : lv_has ls 8 [(0, .ref b), (1, .ref (ad 0)), (2, .ref (ad 8)), (3, .ref (ad 64)), (4, .int (zI i))] := hl
  obtain ⟨p1, e1⟩ : ∃ z : Int, z = ys (i + 1).toNat := ⟨_, rfl⟩
  have j1 : -2147483648 ≤ p1 ∧ p1 < 2147483648 := by rw [e1]; exact hys _
  obtain ⟨SP, LI, FD, BA, GG, hsl, hwt, hgg⟩ := rel_sl hR.sl
  refine lv_aload_n hx hb dL_law_1577 rfl (lv_at hl 1 rfl) ?_
  refine l_arg (k := 1) (p0 := 0) (p4 := 4) hx hb hX hbl hbA hS hl rfl rfl (by omega) (by omega) (by omega) e1 dL_law_1578 dL_law_1579 dL_law_1581 dL_law_1582 dL_law_1583 ?_
  refine g_calli (va_runV (As := [.int (zI p1)]) (rest := []) ⟨hx, hb, hml, hown, hts⟩ (kX11_toss l D cy ad jf A hl9 u p1 j1 (u.2.1 58) (u.2.1 60) (u.2.1 59) SP LI FD BA (fun d => (u.2.1 62 d).toNat) GG hsl) (cwV 1 hts gL_law_X11_toss rfl rfl rfl (by decide +kernel) ⟨Nat.le_of_ble_eq_true rfl, Nat.le_of_ble_eq_true rfl⟩) (gX_preV (C := RX11) hG hC hTh hS 0 (by decide) rfl rfl) rfl rfl hl.1 rfl (lv_room (Nat.le_of_ble_eq_true rfl)) dL_law_1584 ⟨by show _ ≤ 601024; omega, by show _ ≤ 7293034; omega⟩) hS (fun r1 u1 H locs hp1 hG hS => ?_)
  obtain ⟨hr1, hu1⟩ := hp1
  rw [hu1] at hG
  have hM := hR.m
  refine lv_aload_n hx hb dL_law_1587 rfl (lv_at hl 2 rfl) ?_
  refine l_arg (k := 1) (p0 := 0) (p4 := 4) hx hb hX hbl hbA hS hl rfl rfl (by omega) (by omega) (by omega) e1 dL_law_1588 dL_law_1589 dL_law_1591 dL_law_1592 dL_law_1593 ?_
  refine g_calli (va_runV (As := [.int (zI p1)]) (rest := [.int r1]) ⟨hx, hb, hml, hown, hts⟩ (kX12_toss l D cy ad jf A u p1 j1 hM.i58 hM.i59 hM.i60) (cwV 1 hts gL_law_X12_toss rfl rfl rfl (by decide +kernel) ⟨Nat.le_of_ble_eq_true rfl, Nat.le_of_ble_eq_true rfl⟩) (g_preV (C := RX12) hG hC hS 8 (by decide) rfl rfl) rfl rfl hl.1 rfl (lv_room (Nat.le_of_ble_eq_true rfl)) dL_law_1594 ⟨by show _ ≤ 601024; omega, by show _ ≤ 7293034; omega⟩) hS (fun r2 u2 H locs hp2 hG hS => ?_)
  rw [hp2.2] at hG
  refine lv_icmp_eq (tgt := 1602) hx hb dL_law_1597 (by decide) (fun c9 => ?_) (fun c9 => absurd ?_ c9)
  · refine W.widen (k := cells + 3) (n := slots + 300) (by omega) (by omega) ?_
    exact kk u jf _ _ _ (hR) hG hS hl
  · rw [hr1, hp2.1, re_toss u p1]
