/-! ===== the law's walk ===== -/
abbrev mL (q : String) : MM := (⟨RL, q, "([I)Z"⟩, cL_law, 8, some .boolean)
abbrev RmL : Room := Rm 14 600000 7302250
theorem and63 (x : Int32) : ∃ w, w < 64 ∧ x &&& 63 = nI w := by
  refine ⟨(x &&& 63).toBitVec.toNat, ?_, ?_⟩
  · rw [Int32.toBitVec_and, BitVec.toNat_and]
    exact Nat.lt_of_le_of_lt Nat.and_le_right (by decide)
  · rw [← Int32.toBitVec_inj]
    show (x &&& 63).toBitVec = BitVec.ofNat 32 _
    rw [BitVec.ofNat_toNat, BitVec.setWidth_eq]
section LAW
variable {S : State → Prop} {l : Launch} {G : Gl} {M M1 M2 : MM} {rm : Room} {K : List Frame → Array Value → State → State → Prop} {mc ms mc1 ms1 pc : Nat} {L L' : List (Nat × Value)} {st st0 : List Value} {h : Hp} {T : Value → Prop}
/-- an element of the script -/
theorem y_sc {b n i kn : Nat} {kc : Int} {xs : Nat → Int32} (j0 j3 : Nat) (hk : Int32.ofInt kc = nI kn) (nb : ¬ G.2.2.1 b) (hj0 : L[j0]? = some (0, .ref b)) (hj3 : L[j3]? = some (3, .int (nI i))) (hi : i + kn < n) (hn : n < 2 ^ 31) (d0 : decode M.2.1 pc = .ok (.aload_n 0, 1)) (d1 : decode M.2.1 (pc + 1) = .ok (.iload_n 3, 1)) (d2 : decode M.2.1 (pc + 2) = .ok (.iconst kc, 1)) (d3 : decode M.2.1 (pc + 3) = .ok (.iadd, 1)) (d4 : decode M.2.1 (pc + 4) = .ok (.iaload, 1))
    (kk : XS (Scr b n xs) l G M rm K mc ms (pc + 5) L (.int (xs (i + kn)) :: st) h) : XS (Scr b n xs) l G M rm K mc ms pc L st h := by
  refine y_aload_n j0 d0 rfl hj0 ?_
  refine y_iload_n j3 d1 rfl hj3 ?_
  refine y_iconst (v := nI kn) d2 hk ?_
  refine y_iadd d3 ?_
  refine y_eqS (st' := .int (nI (i + kn)) :: .ref b :: st) (by rw [nI_add]) ?_
  exact y_sld nb hi hn d4 kk
/-- an int as a boolean -/
theorem y_bl {x : Int32} (d0 : decode M.2.1 pc = .ok (.ifCond .eq 7, 3)) (d1 : decode M.2.1 (pc + 3) = .ok (.iconst 1, 1)) (d2 : decode M.2.1 (pc + 4) = .ok (.goto 4, 3)) (d3 : decode M.2.1 (pc + 7) = .ok (.iconst 0, 1)) (kk : XS S l G M rm K mc ms (pc + 8) L (.int (if x = 0 then 0 else 1) :: st) h) : XS S l G M rm K mc ms pc L (.int x :: st) h := by
  refine y_if_eq (pc + 7) d0 (by omega) (fun z => ?_) (fun z => ?_)
  · refine y_iconst (v := 0) d3 (by decide) ?_
    rw [if_pos z] at kk
    exact kk
  · refine y_iconst (v := 1) d1 (by decide) ?_
    refine y_goto (pc + 8) d2 (by omega) ?_
    rw [if_neg z] at kk
    exact kk
/-- the class's call -/
theorem y_p1 {args : List Value} {index n : Nat} (pr : Pair l G M1 M2 args T) (R : Rel G h) (cw : CWV RL index n M1) (hown : M.1.cls = RL) (hc1 : M1.1.cls = RX11) (hl1 : M1.2.2.1 ≤ 19) (hn : args.length = n) (hW : (st.map fun v => v.category).sum ≤ 8) (hd : decode M.2.1 pc = .ok (.invokevirtual index, 3)) (hst : st0 = args.reverse ++ .ref (Ad G 0) :: st) (hb : 10 + mc1 ≤ mc ∧ 1300 + ms1 ≤ ms)
    (kk : ∀ (v : Value) (h' : Hp) (d2 : Nat), T v → Fr (nM G) h h' → d2 ≤ 13 → Ct l G M2 d2 0 0 (.ref (Ad G 20) :: args) h' (fun w h'' => w = some v ∧ Rel G h'' ∧ Fr G.2.2.1 h' h'') → XS S l G M RmL K mc1 ms1 (pc + 3) L (v :: st) h') : XS S l G M RmL K mc ms pc L st0 h := by
  obtain ⟨v, P, d1, d2, mc', ms', e1, e2, e3, e4, t, fr, c1, c2⟩ := pr h R
  obtain ⟨N, ns, np, no, nx, k, Hf, isv, flt, Sv, c, f, d, rs, ds, tx, lx, tv, lv, C, -⟩ := R
  refine y_callW (mc1 := mc1) (ms1 := ms1) (As := args) c1 cw hown (by rw [hc1]; exact x_recv C.1 rfl) hn ⟨?_, ?_⟩ hW hd hst ⟨by omega, by omega⟩ (fun w h' q => ?_)
  · show d1 + 1 ≤ 14
    omega
  · show 8 + (M1.2.2.1 + 11) + 38 * d1 ≤ 38 * 14
    omega
  · obtain ⟨rfl, hp⟩ := q
    exact kk v h' d2 t (fr h' hp) e2 (c2 h' hp)
/-- the model's -/
theorem y_p2 {args : List Value} {index n d2 : Nat} {h' : Hp} {v : Value} (c2 : Ct l G M2 d2 0 0 (.ref (Ad G 20) :: args) h' (fun w h'' => w = some v ∧ Rel G h'' ∧ Fr G.2.2.1 h' h'')) (R : Rel G h) (fr : Fr (nM G) h h') (hd2 : d2 ≤ 13) (cw : CWV RL index n M2) (hown : M.1.cls = RL) (hc2 : M2.1.cls = RX12) (hl2 : M2.2.2.1 ≤ 19) (hn : args.length = n) (hW : (st.map fun v => v.category).sum ≤ 8) (hd : decode M.2.1 pc = .ok (.invokevirtual index, 3)) (hst : st0 = args.reverse ++ .ref (Ad G 20) :: st)
    (kk : ∀ (h'' : Hp), Rel G h'' → Fr G.2.2.1 h' h'' → XS S l G M RmL K mc ms (pc + 3) L (v :: st) h'') : XS S l G M RmL K mc ms pc L st0 h' := by
  obtain ⟨N, ns, np, no, nx, k, Hf, isv, flt, Sv, c, f, d, rs, ds, tx, lx, tv, lv, C, S, -⟩ := R
  obtain ⟨why, wha, beh, its, siz, att, wro, tol, Bf, cn, kd, nb_, e20, -⟩ := S
  have g20 := fr _ _ e20 (fun z => z.2 rfl)
  refine y_callW (mc1 := mc) (ms1 := ms) (As := args) c2 cw hown (by rw [hc2]; exact x_recv g20 rfl) hn ⟨?_, ?_⟩ hW hd hst ⟨by omega, by omega⟩ (fun w h'' q => ?_)
  · show d2 + 1 ≤ 14
    omega
  · show 8 + (M2.2.2.1 + 11) + 38 * d2 ≤ 38 * 14
    omega
  · obtain ⟨rfl, R2, F2⟩ := q
    exact kk h'' R2 F2
end LAW
theorem lc_0 {l : Launch} {G : Gl} {K : List Frame → Array Value → State → State → Prop} {mc ms mc1 ms1 : Nat} {h : Hp} {b n i : Nat} {xs : Nat → Int32} {q : String} (ok : Ok G) (R : Rel G h) (nb : ¬ G.2.2.1 b) (hi : i + 3 < n) (hn : n < 2 ^ 31) (hm : 10 + mc1 ≤ mc ∧ 1300 + ms1 ≤ ms) (kk : ∀ h', Rel G h' → XS (Scr b n xs) l G (mL q) RmL K mc1 ms1 1315 [(3, .int (nI i)), (2, .ref (Ad G 20)), (1, .ref (Ad G 0)), (0, .ref b)] [] h') : XS (Scr b n xs) l G (mL q) RmL K mc ms 220 [(3, .int (nI i)), (2, .ref (Ad G 20)), (1, .ref (Ad G 0)), (0, .ref b)] [] h := by
  refine y_aload_n 2 dL_law_220 rfl rfl ?_
  refine y_p1 (mc1 := mc1) (ms1 := ms1) (args := []) (pr_clear ok) R vL_13 rfl rfl (ble rfl) rfl (ble rfl) dL_law_221 rfl hm (fun v h1 d2 tv fr hd2 c2 => ?_)
  obtain ⟨x, rfl⟩ := tv
  refine y_aload_n 1 dL_law_224 rfl rfl ?_
  refine y_p2 (args := []) c2 R fr hd2 vL_17 rfl rfl (ble rfl) rfl (ble rfl) dL_law_225 rfl (fun h2 R2 F2 => ?_)
  exact y_icmp_eq 1315 dL_law_228 (by decide) (fun _ => kk h2 R2) (fun z => absurd rfl z)
theorem lc_1 {l : Launch} {G : Gl} {K : List Frame → Array Value → State → State → Prop} {mc ms mc1 ms1 : Nat} {h : Hp} {b n i : Nat} {xs : Nat → Int32} {q : String} (ok : Ok G) (R : Rel G h) (nb : ¬ G.2.2.1 b) (hi : i + 3 < n) (hn : n < 2 ^ 31) (hm : 10 + mc1 ≤ mc ∧ 1300 + ms1 ≤ ms) (kk : ∀ h', Rel G h' → XS (Scr b n xs) l G (mL q) RmL K mc1 ms1 1315 [(3, .int (nI i)), (2, .ref (Ad G 20)), (1, .ref (Ad G 0)), (0, .ref b)] [] h') : XS (Scr b n xs) l G (mL q) RmL K mc ms 233 [(3, .int (nI i)), (2, .ref (Ad G 20)), (1, .ref (Ad G 0)), (0, .ref b)] [] h := by
  refine y_aload_n 2 dL_law_233 rfl rfl ?_
  refine y_sc (kn := 1) 3 0 (by decide) nb rfl rfl (by omega) hn dL_law_234 dL_law_235 dL_law_236 dL_law_237 dL_law_238 ?_
  refine y_i2c dL_law_239 ?_
  refine y_p1 (mc1 := mc1) (ms1 := ms1) (args := [.int (((xs (i + 1)).toUInt32 % 65536).toInt32)]) (pr_append ok (((xs (i + 1)).toUInt32 % 65536).toInt32)) R vL_18 rfl rfl (ble rfl) rfl (ble rfl) dL_law_240 rfl hm (fun v h1 d2 tv fr hd2 c2 => ?_)
  obtain ⟨x, rfl⟩ := tv
  refine y_aload_n 1 dL_law_243 rfl rfl ?_
  refine y_sc (kn := 1) 3 0 (by decide) nb rfl rfl (by omega) hn dL_law_244 dL_law_245 dL_law_246 dL_law_247 dL_law_248 ?_
  refine y_i2c dL_law_249 ?_
  refine y_p2 (args := [.int (((xs (i + 1)).toUInt32 % 65536).toInt32)]) c2 R fr hd2 vL_22 rfl rfl (ble rfl) rfl (ble rfl) dL_law_250 rfl (fun h2 R2 F2 => ?_)
  exact y_icmp_eq 1315 dL_law_253 (by decide) (fun _ => kk h2 R2) (fun z => absurd rfl z)
theorem lc_2 {l : Launch} {G : Gl} {K : List Frame → Array Value → State → State → Prop} {mc ms mc1 ms1 : Nat} {h : Hp} {b n i : Nat} {xs : Nat → Int32} {q : String} (ok : Ok G) (R : Rel G h) (nb : ¬ G.2.2.1 b) (hi : i + 3 < n) (hn : n < 2 ^ 31) (hm : 10 + mc1 ≤ mc ∧ 1300 + ms1 ≤ ms) (kk : ∀ h', Rel G h' → XS (Scr b n xs) l G (mL q) RmL K mc1 ms1 1315 [(3, .int (nI i)), (2, .ref (Ad G 20)), (1, .ref (Ad G 0)), (0, .ref b)] [] h') : XS (Scr b n xs) l G (mL q) RmL K mc ms 258 [(3, .int (nI i)), (2, .ref (Ad G 20)), (1, .ref (Ad G 0)), (0, .ref b)] [] h := by
  refine y_aload_n 2 dL_law_258 rfl rfl ?_
  refine y_sc (kn := 1) 3 0 (by decide) nb rfl rfl (by omega) hn dL_law_259 dL_law_260 dL_law_261 dL_law_262 dL_law_263 ?_
  refine y_sc (kn := 2) 3 0 (by decide) nb rfl rfl (by omega) hn dL_law_264 dL_law_265 dL_law_266 dL_law_267 dL_law_268 ?_
  refine y_p1 (mc1 := mc1) (ms1 := ms1) (args := [.int (xs (i + 1)), .int (xs (i + 2))]) (pr_sheet ok (xs (i + 1)) (xs (i + 2))) R vL_23 rfl rfl (ble rfl) rfl (ble rfl) dL_law_269 rfl hm (fun v h1 d2 tv fr hd2 c2 => ?_)
  obtain ⟨x, rfl⟩ := tv
  refine y_aload_n 1 dL_law_272 rfl rfl ?_
  refine y_sc (kn := 1) 3 0 (by decide) nb rfl rfl (by omega) hn dL_law_273 dL_law_274 dL_law_275 dL_law_276 dL_law_277 ?_
  refine y_sc (kn := 2) 3 0 (by decide) nb rfl rfl (by omega) hn dL_law_278 dL_law_279 dL_law_280 dL_law_281 dL_law_282 ?_
  refine y_p2 (args := [.int (xs (i + 1)), .int (xs (i + 2))]) c2 R fr hd2 vL_27 rfl rfl (ble rfl) rfl (ble rfl) dL_law_283 rfl (fun h2 R2 F2 => ?_)
  exact y_icmp_eq 1315 dL_law_286 (by decide) (fun _ => kk h2 R2) (fun z => absurd rfl z)
theorem lc_3 {l : Launch} {G : Gl} {K : List Frame → Array Value → State → State → Prop} {mc ms mc1 ms1 : Nat} {h : Hp} {b n i : Nat} {xs : Nat → Int32} {q : String} (ok : Ok G) (R : Rel G h) (nb : ¬ G.2.2.1 b) (hi : i + 3 < n) (hn : n < 2 ^ 31) (hm : 10 + mc1 ≤ mc ∧ 1300 + ms1 ≤ ms) (kk : ∀ h', Rel G h' → XS (Scr b n xs) l G (mL q) RmL K mc1 ms1 1315 [(3, .int (nI i)), (2, .ref (Ad G 20)), (1, .ref (Ad G 0)), (0, .ref b)] [] h') : XS (Scr b n xs) l G (mL q) RmL K mc ms 291 [(3, .int (nI i)), (2, .ref (Ad G 20)), (1, .ref (Ad G 0)), (0, .ref b)] [] h := by
  refine y_aload_n 2 dL_law_291 rfl rfl ?_
  refine y_sc (kn := 1) 3 0 (by decide) nb rfl rfl (by omega) hn dL_law_292 dL_law_293 dL_law_294 dL_law_295 dL_law_296 ?_
  refine y_sc (kn := 2) 3 0 (by decide) nb rfl rfl (by omega) hn dL_law_297 dL_law_298 dL_law_299 dL_law_300 dL_law_301 ?_
  refine y_p1 (mc1 := mc1) (ms1 := ms1) (args := [.int (xs (i + 1)), .int (xs (i + 2))]) (pr_raise ok (xs (i + 1)) (xs (i + 2))) R vL_28 rfl rfl (ble rfl) rfl (ble rfl) dL_law_302 rfl hm (fun v h1 d2 tv fr hd2 c2 => ?_)
  obtain ⟨x, rfl⟩ := tv
  refine y_aload_n 1 dL_law_305 rfl rfl ?_
  refine y_sc (kn := 1) 3 0 (by decide) nb rfl rfl (by omega) hn dL_law_306 dL_law_307 dL_law_308 dL_law_309 dL_law_310 ?_
  refine y_sc (kn := 2) 3 0 (by decide) nb rfl rfl (by omega) hn dL_law_311 dL_law_312 dL_law_313 dL_law_314 dL_law_315 ?_
  refine y_p2 (args := [.int (xs (i + 1)), .int (xs (i + 2))]) c2 R fr hd2 vL_31 rfl rfl (ble rfl) rfl (ble rfl) dL_law_316 rfl (fun h2 R2 F2 => ?_)
  exact y_icmp_eq 1315 dL_law_319 (by decide) (fun _ => kk h2 R2) (fun z => absurd rfl z)
theorem lc_4 {l : Launch} {G : Gl} {K : List Frame → Array Value → State → State → Prop} {mc ms mc1 ms1 : Nat} {h : Hp} {b n i : Nat} {xs : Nat → Int32} {q : String} (ok : Ok G) (R : Rel G h) (nb : ¬ G.2.2.1 b) (hi : i + 3 < n) (hn : n < 2 ^ 31) (hm : 10 + mc1 ≤ mc ∧ 1300 + ms1 ≤ ms) (kk : ∀ h', Rel G h' → XS (Scr b n xs) l G (mL q) RmL K mc1 ms1 1315 [(3, .int (nI i)), (2, .ref (Ad G 20)), (1, .ref (Ad G 0)), (0, .ref b)] [] h') : XS (Scr b n xs) l G (mL q) RmL K mc ms 324 [(3, .int (nI i)), (2, .ref (Ad G 20)), (1, .ref (Ad G 0)), (0, .ref b)] [] h := by
  refine y_aload_n 2 dL_law_324 rfl rfl ?_
  refine y_sc (kn := 1) 3 0 (by decide) nb rfl rfl (by omega) hn dL_law_325 dL_law_326 dL_law_327 dL_law_328 dL_law_329 ?_
  refine y_sc (kn := 2) 3 0 (by decide) nb rfl rfl (by omega) hn dL_law_330 dL_law_331 dL_law_332 dL_law_333 dL_law_334 ?_
  refine y_p1 (mc1 := mc1) (ms1 := ms1) (args := [.int (xs (i + 1)), .int (xs (i + 2))]) (pr_planish ok (xs (i + 1)) (xs (i + 2))) R vL_32 rfl rfl (ble rfl) rfl (ble rfl) dL_law_335 rfl hm (fun v h1 d2 tv fr hd2 c2 => ?_)
  obtain ⟨x, rfl⟩ := tv
  refine y_aload_n 1 dL_law_338 rfl rfl ?_
  refine y_sc (kn := 1) 3 0 (by decide) nb rfl rfl (by omega) hn dL_law_339 dL_law_340 dL_law_341 dL_law_342 dL_law_343 ?_
  refine y_sc (kn := 2) 3 0 (by decide) nb rfl rfl (by omega) hn dL_law_344 dL_law_345 dL_law_346 dL_law_347 dL_law_348 ?_
  refine y_p2 (args := [.int (xs (i + 1)), .int (xs (i + 2))]) c2 R fr hd2 vL_35 rfl rfl (ble rfl) rfl (ble rfl) dL_law_349 rfl (fun h2 R2 F2 => ?_)
  exact y_icmp_eq 1315 dL_law_352 (by decide) (fun _ => kk h2 R2) (fun z => absurd rfl z)
theorem lc_5 {l : Launch} {G : Gl} {K : List Frame → Array Value → State → State → Prop} {mc ms mc1 ms1 : Nat} {h : Hp} {b n i : Nat} {xs : Nat → Int32} {q : String} (ok : Ok G) (R : Rel G h) (nb : ¬ G.2.2.1 b) (hi : i + 3 < n) (hn : n < 2 ^ 31) (hm : 10 + mc1 ≤ mc ∧ 1300 + ms1 ≤ ms) (kk : ∀ h', Rel G h' → XS (Scr b n xs) l G (mL q) RmL K mc1 ms1 1315 [(3, .int (nI i)), (2, .ref (Ad G 20)), (1, .ref (Ad G 0)), (0, .ref b)] [] h') : XS (Scr b n xs) l G (mL q) RmL K mc ms 357 [(3, .int (nI i)), (2, .ref (Ad G 20)), (1, .ref (Ad G 0)), (0, .ref b)] [] h := by
  refine y_aload_n 2 dL_law_357 rfl rfl ?_
  refine y_sc (kn := 1) 3 0 (by decide) nb rfl rfl (by omega) hn dL_law_358 dL_law_359 dL_law_360 dL_law_361 dL_law_362 ?_
  refine y_p1 (mc1 := mc1) (ms1 := ms1) (args := [.int (xs (i + 1))]) (pr_bars ok (xs (i + 1))) R vL_36 rfl rfl (ble rfl) rfl (ble rfl) dL_law_363 rfl hm (fun v h1 d2 tv fr hd2 c2 => ?_)
  obtain ⟨x, rfl⟩ := tv
  refine y_aload_n 1 dL_law_366 rfl rfl ?_
  refine y_sc (kn := 1) 3 0 (by decide) nb rfl rfl (by omega) hn dL_law_367 dL_law_368 dL_law_369 dL_law_370 dL_law_371 ?_
  refine y_p2 (args := [.int (xs (i + 1))]) c2 R fr hd2 vL_40 rfl rfl (ble rfl) rfl (ble rfl) dL_law_372 rfl (fun h2 R2 F2 => ?_)
  exact y_icmp_eq 1315 dL_law_375 (by decide) (fun _ => kk h2 R2) (fun z => absurd rfl z)
theorem lc_6 {l : Launch} {G : Gl} {K : List Frame → Array Value → State → State → Prop} {mc ms mc1 ms1 : Nat} {h : Hp} {b n i : Nat} {xs : Nat → Int32} {q : String} (ok : Ok G) (R : Rel G h) (nb : ¬ G.2.2.1 b) (hi : i + 3 < n) (hn : n < 2 ^ 31) (hm : 10 + mc1 ≤ mc ∧ 1300 + ms1 ≤ ms) (kk : ∀ h', Rel G h' → XS (Scr b n xs) l G (mL q) RmL K mc1 ms1 1315 [(3, .int (nI i)), (2, .ref (Ad G 20)), (1, .ref (Ad G 0)), (0, .ref b)] [] h') : XS (Scr b n xs) l G (mL q) RmL K mc ms 380 [(3, .int (nI i)), (2, .ref (Ad G 20)), (1, .ref (Ad G 0)), (0, .ref b)] [] h := by
  refine y_aload_n 2 dL_law_380 rfl rfl ?_
  refine y_sc (kn := 1) 3 0 (by decide) nb rfl rfl (by omega) hn dL_law_381 dL_law_382 dL_law_383 dL_law_384 dL_law_385 ?_
  refine y_sc (kn := 2) 3 0 (by decide) nb rfl rfl (by omega) hn dL_law_386 dL_law_387 dL_law_388 dL_law_389 dL_law_390 ?_
  refine y_p1 (mc1 := mc1) (ms1 := ms1) (args := [.int (xs (i + 1)), .int (xs (i + 2))]) (pr_tin ok (xs (i + 1)) (xs (i + 2))) R vL_41 rfl rfl (ble rfl) rfl (ble rfl) dL_law_391 rfl hm (fun v h1 d2 tv fr hd2 c2 => ?_)
  obtain ⟨x, rfl⟩ := tv
  refine y_aload_n 1 dL_law_394 rfl rfl ?_
  refine y_sc (kn := 1) 3 0 (by decide) nb rfl rfl (by omega) hn dL_law_395 dL_law_396 dL_law_397 dL_law_398 dL_law_399 ?_
  refine y_sc (kn := 2) 3 0 (by decide) nb rfl rfl (by omega) hn dL_law_400 dL_law_401 dL_law_402 dL_law_403 dL_law_404 ?_
  refine y_p2 (args := [.int (xs (i + 1)), .int (xs (i + 2))]) c2 R fr hd2 vL_44 rfl rfl (ble rfl) rfl (ble rfl) dL_law_405 rfl (fun h2 R2 F2 => ?_)
  exact y_icmp_eq 1315 dL_law_408 (by decide) (fun _ => kk h2 R2) (fun z => absurd rfl z)
theorem lc_7 {l : Launch} {G : Gl} {K : List Frame → Array Value → State → State → Prop} {mc ms mc1 ms1 : Nat} {h : Hp} {b n i : Nat} {xs : Nat → Int32} {q : String} (ok : Ok G) (R : Rel G h) (nb : ¬ G.2.2.1 b) (hi : i + 3 < n) (hn : n < 2 ^ 31) (hm : 10 + mc1 ≤ mc ∧ 1300 + ms1 ≤ ms) (kk : ∀ h', Rel G h' → XS (Scr b n xs) l G (mL q) RmL K mc1 ms1 1315 [(3, .int (nI i)), (2, .ref (Ad G 20)), (1, .ref (Ad G 0)), (0, .ref b)] [] h') : XS (Scr b n xs) l G (mL q) RmL K mc ms 413 [(3, .int (nI i)), (2, .ref (Ad G 20)), (1, .ref (Ad G 0)), (0, .ref b)] [] h := by
  refine y_aload_n 2 dL_law_413 rfl rfl ?_
  refine y_sc (kn := 1) 3 0 (by decide) nb rfl rfl (by omega) hn dL_law_414 dL_law_415 dL_law_416 dL_law_417 dL_law_418 ?_
  refine y_sc (kn := 2) 3 0 (by decide) nb rfl rfl (by omega) hn dL_law_419 dL_law_420 dL_law_421 dL_law_422 dL_law_423 ?_
  refine y_p1 (mc1 := mc1) (ms1 := ms1) (args := [.int (xs (i + 1)), .int (xs (i + 2))]) (pr_cook ok (xs (i + 1)) (xs (i + 2))) R vL_45 rfl rfl (ble rfl) rfl (ble rfl) dL_law_424 rfl hm (fun v h1 d2 tv fr hd2 c2 => ?_)
  obtain ⟨x, rfl⟩ := tv
  refine y_aload_n 1 dL_law_427 rfl rfl ?_
  refine y_sc (kn := 1) 3 0 (by decide) nb rfl rfl (by omega) hn dL_law_428 dL_law_429 dL_law_430 dL_law_431 dL_law_432 ?_
  refine y_sc (kn := 2) 3 0 (by decide) nb rfl rfl (by omega) hn dL_law_433 dL_law_434 dL_law_435 dL_law_436 dL_law_437 ?_
  refine y_p2 (args := [.int (xs (i + 1)), .int (xs (i + 2))]) c2 R fr hd2 vL_48 rfl rfl (ble rfl) rfl (ble rfl) dL_law_438 rfl (fun h2 R2 F2 => ?_)
  exact y_icmp_eq 1315 dL_law_441 (by decide) (fun _ => kk h2 R2) (fun z => absurd rfl z)
theorem lc_8 {l : Launch} {G : Gl} {K : List Frame → Array Value → State → State → Prop} {mc ms mc1 ms1 : Nat} {h : Hp} {b n i : Nat} {xs : Nat → Int32} {q : String} (ok : Ok G) (R : Rel G h) (nb : ¬ G.2.2.1 b) (hi : i + 3 < n) (hn : n < 2 ^ 31) (hm : 10 + mc1 ≤ mc ∧ 1300 + ms1 ≤ ms) (kk : ∀ h', Rel G h' → XS (Scr b n xs) l G (mL q) RmL K mc1 ms1 1315 [(3, .int (nI i)), (2, .ref (Ad G 20)), (1, .ref (Ad G 0)), (0, .ref b)] [] h') : XS (Scr b n xs) l G (mL q) RmL K mc ms 446 [(3, .int (nI i)), (2, .ref (Ad G 20)), (1, .ref (Ad G 0)), (0, .ref b)] [] h := by
  refine y_aload_n 2 dL_law_446 rfl rfl ?_
  refine y_sc (kn := 1) 3 0 (by decide) nb rfl rfl (by omega) hn dL_law_447 dL_law_448 dL_law_449 dL_law_450 dL_law_451 ?_
  refine y_sc (kn := 2) 3 0 (by decide) nb rfl rfl (by omega) hn dL_law_452 dL_law_453 dL_law_454 dL_law_455 dL_law_456 ?_
  refine y_sc (kn := 3) 3 0 (by decide) nb rfl rfl (by omega) hn dL_law_457 dL_law_458 dL_law_459 dL_law_460 dL_law_461 ?_
  refine y_p1 (mc1 := mc1) (ms1 := ms1) (args := [.int (xs (i + 1)), .int (xs (i + 2)), .int (xs (i + 3))]) (pr_baker ok (xs (i + 1)) (xs (i + 2)) (xs (i + 3))) R vL_49 rfl rfl (ble rfl) rfl (ble rfl) dL_law_462 rfl hm (fun v h1 d2 tv fr hd2 c2 => ?_)
  obtain ⟨x, rfl⟩ := tv
  refine y_aload_n 1 dL_law_465 rfl rfl ?_
  refine y_sc (kn := 1) 3 0 (by decide) nb rfl rfl (by omega) hn dL_law_466 dL_law_467 dL_law_468 dL_law_469 dL_law_470 ?_
  refine y_sc (kn := 2) 3 0 (by decide) nb rfl rfl (by omega) hn dL_law_471 dL_law_472 dL_law_473 dL_law_474 dL_law_475 ?_
  refine y_sc (kn := 3) 3 0 (by decide) nb rfl rfl (by omega) hn dL_law_476 dL_law_477 dL_law_478 dL_law_479 dL_law_480 ?_
  refine y_p2 (args := [.int (xs (i + 1)), .int (xs (i + 2)), .int (xs (i + 3))]) c2 R fr hd2 vL_53 rfl rfl (ble rfl) rfl (ble rfl) dL_law_481 rfl (fun h2 R2 F2 => ?_)
  exact y_icmp_eq 1315 dL_law_484 (by decide) (fun _ => kk h2 R2) (fun z => absurd rfl z)
theorem lc_9 {l : Launch} {G : Gl} {K : List Frame → Array Value → State → State → Prop} {mc ms mc1 ms1 : Nat} {h : Hp} {b n i : Nat} {xs : Nat → Int32} {q : String} (ok : Ok G) (R : Rel G h) (nb : ¬ G.2.2.1 b) (hi : i + 3 < n) (hn : n < 2 ^ 31) (hm : 10 + mc1 ≤ mc ∧ 1300 + ms1 ≤ ms) (kk : ∀ h', Rel G h' → XS (Scr b n xs) l G (mL q) RmL K mc1 ms1 1315 [(3, .int (nI i)), (2, .ref (Ad G 20)), (1, .ref (Ad G 0)), (0, .ref b)] [] h') : XS (Scr b n xs) l G (mL q) RmL K mc ms 489 [(3, .int (nI i)), (2, .ref (Ad G 20)), (1, .ref (Ad G 0)), (0, .ref b)] [] h := by
  refine y_aload_n 2 dL_law_489 rfl rfl ?_
  refine y_sc (kn := 1) 3 0 (by decide) nb rfl rfl (by omega) hn dL_law_490 dL_law_491 dL_law_492 dL_law_493 dL_law_494 ?_
  refine y_sc (kn := 2) 3 0 (by decide) nb rfl rfl (by omega) hn dL_law_495 dL_law_496 dL_law_497 dL_law_498 dL_law_499 ?_
  refine y_p1 (mc1 := mc1) (ms1 := ms1) (args := [.int (xs (i + 1)), .int (xs (i + 2))]) (pr_sell ok (xs (i + 1)) (xs (i + 2))) R vL_54 rfl rfl (ble rfl) rfl (ble rfl) dL_law_500 rfl hm (fun v h1 d2 tv fr hd2 c2 => ?_)
  obtain ⟨x, rfl⟩ := tv
  refine y_aload_n 1 dL_law_503 rfl rfl ?_
  refine y_sc (kn := 1) 3 0 (by decide) nb rfl rfl (by omega) hn dL_law_504 dL_law_505 dL_law_506 dL_law_507 dL_law_508 ?_
  refine y_sc (kn := 2) 3 0 (by decide) nb rfl rfl (by omega) hn dL_law_509 dL_law_510 dL_law_511 dL_law_512 dL_law_513 ?_
  refine y_p2 (args := [.int (xs (i + 1)), .int (xs (i + 2))]) c2 R fr hd2 vL_57 rfl rfl (ble rfl) rfl (ble rfl) dL_law_514 rfl (fun h2 R2 F2 => ?_)
  exact y_icmp_eq 1315 dL_law_517 (by decide) (fun _ => kk h2 R2) (fun z => absurd rfl z)
theorem lc_10 {l : Launch} {G : Gl} {K : List Frame → Array Value → State → State → Prop} {mc ms mc1 ms1 : Nat} {h : Hp} {b n i : Nat} {xs : Nat → Int32} {q : String} (ok : Ok G) (R : Rel G h) (nb : ¬ G.2.2.1 b) (hi : i + 3 < n) (hn : n < 2 ^ 31) (hm : 10 + mc1 ≤ mc ∧ 1300 + ms1 ≤ ms) (kk : ∀ h', Rel G h' → XS (Scr b n xs) l G (mL q) RmL K mc1 ms1 1315 [(3, .int (nI i)), (2, .ref (Ad G 20)), (1, .ref (Ad G 0)), (0, .ref b)] [] h') : XS (Scr b n xs) l G (mL q) RmL K mc ms 522 [(3, .int (nI i)), (2, .ref (Ad G 20)), (1, .ref (Ad G 0)), (0, .ref b)] [] h := by
  refine y_aload_n 2 dL_law_522 rfl rfl ?_
  refine y_p1 (mc1 := mc1) (ms1 := ms1) (args := []) (pr_read ok) R vL_58 rfl rfl (ble rfl) rfl (ble rfl) dL_law_523 rfl hm (fun v h1 d2 tv fr hd2 c2 => ?_)
  obtain ⟨x, rfl⟩ := tv
  refine y_aload_n 1 dL_law_526 rfl rfl ?_
  refine y_p2 (args := []) c2 R fr hd2 vL_61 rfl rfl (ble rfl) rfl (ble rfl) dL_law_527 rfl (fun h2 R2 F2 => ?_)
  exact y_icmp_eq 1315 dL_law_530 (by decide) (fun _ => kk h2 R2) (fun z => absurd rfl z)
theorem lc_11 {l : Launch} {G : Gl} {K : List Frame → Array Value → State → State → Prop} {mc ms mc1 ms1 : Nat} {h : Hp} {b n i : Nat} {xs : Nat → Int32} {q : String} (ok : Ok G) (R : Rel G h) (nb : ¬ G.2.2.1 b) (hi : i + 3 < n) (hn : n < 2 ^ 31) (hm : 10 + mc1 ≤ mc ∧ 1300 + ms1 ≤ ms) (kk : ∀ h', Rel G h' → XS (Scr b n xs) l G (mL q) RmL K mc1 ms1 1315 [(3, .int (nI i)), (2, .ref (Ad G 20)), (1, .ref (Ad G 0)), (0, .ref b)] [] h') : XS (Scr b n xs) l G (mL q) RmL K mc ms 535 [(3, .int (nI i)), (2, .ref (Ad G 20)), (1, .ref (Ad G 0)), (0, .ref b)] [] h := by
  refine y_aload_n 2 dL_law_535 rfl rfl ?_
  refine y_p1 (mc1 := mc1) (ms1 := ms1) (args := []) (pr_fault ok) R vL_62 rfl rfl (ble rfl) rfl (ble rfl) dL_law_536 rfl hm (fun v h1 d2 tv fr hd2 c2 => ?_)
  obtain ⟨x, rfl⟩ := tv
  refine y_aload_n 1 dL_law_539 rfl rfl ?_
  refine y_p2 (args := []) c2 R fr hd2 vL_65 rfl rfl (ble rfl) rfl (ble rfl) dL_law_540 rfl (fun h2 R2 F2 => ?_)
  exact y_icmp_eq 1315 dL_law_543 (by decide) (fun _ => kk h2 R2) (fun z => absurd rfl z)
theorem lc_12 {l : Launch} {G : Gl} {K : List Frame → Array Value → State → State → Prop} {mc ms mc1 ms1 : Nat} {h : Hp} {b n i : Nat} {xs : Nat → Int32} {q : String} (ok : Ok G) (R : Rel G h) (nb : ¬ G.2.2.1 b) (hi : i + 3 < n) (hn : n < 2 ^ 31) (hm : 10 + mc1 ≤ mc ∧ 1300 + ms1 ≤ ms) (kk : ∀ h', Rel G h' → XS (Scr b n xs) l G (mL q) RmL K mc1 ms1 1315 [(3, .int (nI i)), (2, .ref (Ad G 20)), (1, .ref (Ad G 0)), (0, .ref b)] [] h') : XS (Scr b n xs) l G (mL q) RmL K mc ms 548 [(3, .int (nI i)), (2, .ref (Ad G 20)), (1, .ref (Ad G 0)), (0, .ref b)] [] h := by
  refine y_aload_n 2 dL_law_548 rfl rfl ?_
  refine y_sc (kn := 1) 3 0 (by decide) nb rfl rfl (by omega) hn dL_law_549 dL_law_550 dL_law_551 dL_law_552 dL_law_553 ?_
  refine y_sc (kn := 2) 3 0 (by decide) nb rfl rfl (by omega) hn dL_law_554 dL_law_555 dL_law_556 dL_law_557 dL_law_558 ?_
  refine y_bl dL_law_559 dL_law_562 dL_law_563 dL_law_566 ?_
  refine y_p1 (mc1 := mc1) (ms1 := ms1) (args := [.int (xs (i + 1)), .int ((if xs (i + 2) = 0 then 0 else 1))]) (pr_reason ok (xs (i + 1)) ((if xs (i + 2) = 0 then 0 else 1))) R vL_66 rfl rfl (ble rfl) rfl (ble rfl) dL_law_567 rfl hm (fun v h1 d2 tv fr hd2 c2 => ?_)
  obtain ⟨x, rfl⟩ := tv
  refine y_aload_n 1 dL_law_570 rfl rfl ?_
  refine y_sc (kn := 1) 3 0 (by decide) nb rfl rfl (by omega) hn dL_law_571 dL_law_572 dL_law_573 dL_law_574 dL_law_575 ?_
  refine y_sc (kn := 2) 3 0 (by decide) nb rfl rfl (by omega) hn dL_law_576 dL_law_577 dL_law_578 dL_law_579 dL_law_580 ?_
  refine y_bl dL_law_581 dL_law_584 dL_law_585 dL_law_588 ?_
  refine y_p2 (args := [.int (xs (i + 1)), .int ((if xs (i + 2) = 0 then 0 else 1))]) c2 R fr hd2 vL_70 rfl rfl (ble rfl) rfl (ble rfl) dL_law_589 rfl (fun h2 R2 F2 => ?_)
  exact y_icmp_eq 1315 dL_law_592 (by decide) (fun _ => kk h2 R2) (fun z => absurd rfl z)
theorem lc_13 {l : Launch} {G : Gl} {K : List Frame → Array Value → State → State → Prop} {mc ms mc1 ms1 : Nat} {h : Hp} {b n i : Nat} {xs : Nat → Int32} {q : String} (ok : Ok G) (R : Rel G h) (nb : ¬ G.2.2.1 b) (hi : i + 3 < n) (hn : n < 2 ^ 31) (hm : 10 + mc1 ≤ mc ∧ 1300 + ms1 ≤ ms) (kk : ∀ h', Rel G h' → XS (Scr b n xs) l G (mL q) RmL K mc1 ms1 1315 [(3, .int (nI i)), (2, .ref (Ad G 20)), (1, .ref (Ad G 0)), (0, .ref b)] [] h') : XS (Scr b n xs) l G (mL q) RmL K mc ms 597 [(3, .int (nI i)), (2, .ref (Ad G 20)), (1, .ref (Ad G 0)), (0, .ref b)] [] h := by
  refine y_aload_n 2 dL_law_597 rfl rfl ?_
  refine y_sc (kn := 1) 3 0 (by decide) nb rfl rfl (by omega) hn dL_law_598 dL_law_599 dL_law_600 dL_law_601 dL_law_602 ?_
  refine y_sc (kn := 2) 3 0 (by decide) nb rfl rfl (by omega) hn dL_law_603 dL_law_604 dL_law_605 dL_law_606 dL_law_607 ?_
  refine y_p1 (mc1 := mc1) (ms1 := ms1) (args := [.int (xs (i + 1)), .int (xs (i + 2))]) (pr_sheetOf ok (xs (i + 1)) (xs (i + 2))) R vL_71 rfl rfl (ble rfl) rfl (ble rfl) dL_law_608 rfl hm (fun v h1 d2 tv fr hd2 c2 => ?_)
  obtain ⟨x, rfl⟩ := tv
  refine y_aload_n 1 dL_law_611 rfl rfl ?_
  refine y_sc (kn := 1) 3 0 (by decide) nb rfl rfl (by omega) hn dL_law_612 dL_law_613 dL_law_614 dL_law_615 dL_law_616 ?_
  refine y_sc (kn := 2) 3 0 (by decide) nb rfl rfl (by omega) hn dL_law_617 dL_law_618 dL_law_619 dL_law_620 dL_law_621 ?_
  refine y_p2 (args := [.int (xs (i + 1)), .int (xs (i + 2))]) c2 R fr hd2 vL_74 rfl rfl (ble rfl) rfl (ble rfl) dL_law_622 rfl (fun h2 R2 F2 => ?_)
  exact y_icmp_eq 1315 dL_law_625 (by decide) (fun _ => kk h2 R2) (fun z => absurd rfl z)
theorem lc_14 {l : Launch} {G : Gl} {K : List Frame → Array Value → State → State → Prop} {mc ms mc1 ms1 : Nat} {h : Hp} {b n i : Nat} {xs : Nat → Int32} {q : String} (ok : Ok G) (R : Rel G h) (nb : ¬ G.2.2.1 b) (hi : i + 3 < n) (hn : n < 2 ^ 31) (hm : 10 + mc1 ≤ mc ∧ 1300 + ms1 ≤ ms) (kk : ∀ h', Rel G h' → XS (Scr b n xs) l G (mL q) RmL K mc1 ms1 1315 [(3, .int (nI i)), (2, .ref (Ad G 20)), (1, .ref (Ad G 0)), (0, .ref b)] [] h') : XS (Scr b n xs) l G (mL q) RmL K mc ms 630 [(3, .int (nI i)), (2, .ref (Ad G 20)), (1, .ref (Ad G 0)), (0, .ref b)] [] h := by
  refine y_aload_n 2 dL_law_630 rfl rfl ?_
  refine y_sc (kn := 1) 3 0 (by decide) nb rfl rfl (by omega) hn dL_law_631 dL_law_632 dL_law_633 dL_law_634 dL_law_635 ?_
  refine y_sc (kn := 2) 3 0 (by decide) nb rfl rfl (by omega) hn dL_law_636 dL_law_637 dL_law_638 dL_law_639 dL_law_640 ?_
  refine y_p1 (mc1 := mc1) (ms1 := ms1) (args := [.int (xs (i + 1)), .int (xs (i + 2))]) (pr_potOf ok (xs (i + 1)) (xs (i + 2))) R vL_75 rfl rfl (ble rfl) rfl (ble rfl) dL_law_641 rfl hm (fun v h1 d2 tv fr hd2 c2 => ?_)
  obtain ⟨x, rfl⟩ := tv
  refine y_aload_n 1 dL_law_644 rfl rfl ?_
  refine y_sc (kn := 1) 3 0 (by decide) nb rfl rfl (by omega) hn dL_law_645 dL_law_646 dL_law_647 dL_law_648 dL_law_649 ?_
  refine y_sc (kn := 2) 3 0 (by decide) nb rfl rfl (by omega) hn dL_law_650 dL_law_651 dL_law_652 dL_law_653 dL_law_654 ?_
  refine y_p2 (args := [.int (xs (i + 1)), .int (xs (i + 2))]) c2 R fr hd2 vL_78 rfl rfl (ble rfl) rfl (ble rfl) dL_law_655 rfl (fun h2 R2 F2 => ?_)
  exact y_icmp_eq 1315 dL_law_658 (by decide) (fun _ => kk h2 R2) (fun z => absurd rfl z)
theorem lc_15 {l : Launch} {G : Gl} {K : List Frame → Array Value → State → State → Prop} {mc ms mc1 ms1 : Nat} {h : Hp} {b n i : Nat} {xs : Nat → Int32} {q : String} (ok : Ok G) (R : Rel G h) (nb : ¬ G.2.2.1 b) (hi : i + 3 < n) (hn : n < 2 ^ 31) (hm : 10 + mc1 ≤ mc ∧ 1300 + ms1 ≤ ms) (kk : ∀ h', Rel G h' → XS (Scr b n xs) l G (mL q) RmL K mc1 ms1 1315 [(3, .int (nI i)), (2, .ref (Ad G 20)), (1, .ref (Ad G 0)), (0, .ref b)] [] h') : XS (Scr b n xs) l G (mL q) RmL K mc ms 663 [(3, .int (nI i)), (2, .ref (Ad G 20)), (1, .ref (Ad G 0)), (0, .ref b)] [] h := by
  refine y_aload_n 2 dL_law_663 rfl rfl ?_
  refine y_sc (kn := 1) 3 0 (by decide) nb rfl rfl (by omega) hn dL_law_664 dL_law_665 dL_law_666 dL_law_667 dL_law_668 ?_
  refine y_sc (kn := 2) 3 0 (by decide) nb rfl rfl (by omega) hn dL_law_669 dL_law_670 dL_law_671 dL_law_672 dL_law_673 ?_
  refine y_p1 (mc1 := mc1) (ms1 := ms1) (args := [.int (xs (i + 1)), .int (xs (i + 2))]) (pr_orderOf ok (xs (i + 1)) (xs (i + 2))) R vL_79 rfl rfl (ble rfl) rfl (ble rfl) dL_law_674 rfl hm (fun v h1 d2 tv fr hd2 c2 => ?_)
  obtain ⟨x, rfl⟩ := tv
  refine y_aload_n 1 dL_law_677 rfl rfl ?_
  refine y_sc (kn := 1) 3 0 (by decide) nb rfl rfl (by omega) hn dL_law_678 dL_law_679 dL_law_680 dL_law_681 dL_law_682 ?_
  refine y_sc (kn := 2) 3 0 (by decide) nb rfl rfl (by omega) hn dL_law_683 dL_law_684 dL_law_685 dL_law_686 dL_law_687 ?_
  refine y_p2 (args := [.int (xs (i + 1)), .int (xs (i + 2))]) c2 R fr hd2 vL_82 rfl rfl (ble rfl) rfl (ble rfl) dL_law_688 rfl (fun h2 R2 F2 => ?_)
  exact y_icmp_eq 1315 dL_law_691 (by decide) (fun _ => kk h2 R2) (fun z => absurd rfl z)
theorem lc_16 {l : Launch} {G : Gl} {K : List Frame → Array Value → State → State → Prop} {mc ms mc1 ms1 : Nat} {h : Hp} {b n i : Nat} {xs : Nat → Int32} {q : String} (ok : Ok G) (R : Rel G h) (nb : ¬ G.2.2.1 b) (hi : i + 3 < n) (hn : n < 2 ^ 31) (hm : 10 + mc1 ≤ mc ∧ 1300 + ms1 ≤ ms) (kk : ∀ h', Rel G h' → XS (Scr b n xs) l G (mL q) RmL K mc1 ms1 1315 [(3, .int (nI i)), (2, .ref (Ad G 20)), (1, .ref (Ad G 0)), (0, .ref b)] [] h') : XS (Scr b n xs) l G (mL q) RmL K mc ms 696 [(3, .int (nI i)), (2, .ref (Ad G 20)), (1, .ref (Ad G 0)), (0, .ref b)] [] h := by
  refine y_aload_n 2 dL_law_696 rfl rfl ?_
  refine y_sc (kn := 1) 3 0 (by decide) nb rfl rfl (by omega) hn dL_law_697 dL_law_698 dL_law_699 dL_law_700 dL_law_701 ?_
  refine y_p1 (mc1 := mc1) (ms1 := ms1) (args := [.int (xs (i + 1))]) (pr_sound ok (xs (i + 1))) R vL_83 rfl rfl (ble rfl) rfl (ble rfl) dL_law_702 rfl hm (fun v h1 d2 tv fr hd2 c2 => ?_)
  obtain ⟨x, rfl⟩ := tv
  refine y_aload_n 1 dL_law_705 rfl rfl ?_
  refine y_sc (kn := 1) 3 0 (by decide) nb rfl rfl (by omega) hn dL_law_706 dL_law_707 dL_law_708 dL_law_709 dL_law_710 ?_
  refine y_p2 (args := [.int (xs (i + 1))]) c2 R fr hd2 vL_86 rfl rfl (ble rfl) rfl (ble rfl) dL_law_711 rfl (fun h2 R2 F2 => ?_)
  exact y_icmp_eq 1315 dL_law_714 (by decide) (fun _ => kk h2 R2) (fun z => absurd rfl z)
theorem lc_17 {l : Launch} {G : Gl} {K : List Frame → Array Value → State → State → Prop} {mc ms mc1 ms1 : Nat} {h : Hp} {b n i : Nat} {xs : Nat → Int32} {q : String} (ok : Ok G) (R : Rel G h) (nb : ¬ G.2.2.1 b) (hi : i + 3 < n) (hn : n < 2 ^ 31) (hm : 10 + mc1 ≤ mc ∧ 1300 + ms1 ≤ ms) (kk : ∀ h', Rel G h' → XS (Scr b n xs) l G (mL q) RmL K mc1 ms1 1315 [(3, .int (nI i)), (2, .ref (Ad G 20)), (1, .ref (Ad G 0)), (0, .ref b)] [] h') : XS (Scr b n xs) l G (mL q) RmL K mc ms 719 [(3, .int (nI i)), (2, .ref (Ad G 20)), (1, .ref (Ad G 0)), (0, .ref b)] [] h := by
  refine y_aload_n 2 dL_law_719 rfl rfl ?_
  refine y_sc (kn := 1) 3 0 (by decide) nb rfl rfl (by omega) hn dL_law_720 dL_law_721 dL_law_722 dL_law_723 dL_law_724 ?_
  refine y_p1 (mc1 := mc1) (ms1 := ms1) (args := [.int (xs (i + 1))]) (pr_soundAgain ok (xs (i + 1))) R vL_87 rfl rfl (ble rfl) rfl (ble rfl) dL_law_725 rfl hm (fun v h1 d2 tv fr hd2 c2 => ?_)
  obtain ⟨x, rfl⟩ := tv
  refine y_aload_n 1 dL_law_728 rfl rfl ?_
  refine y_sc (kn := 1) 3 0 (by decide) nb rfl rfl (by omega) hn dL_law_729 dL_law_730 dL_law_731 dL_law_732 dL_law_733 ?_
  refine y_p2 (args := [.int (xs (i + 1))]) c2 R fr hd2 vL_90 rfl rfl (ble rfl) rfl (ble rfl) dL_law_734 rfl (fun h2 R2 F2 => ?_)
  exact y_icmp_eq 1315 dL_law_737 (by decide) (fun _ => kk h2 R2) (fun z => absurd rfl z)
theorem lc_18 {l : Launch} {G : Gl} {K : List Frame → Array Value → State → State → Prop} {mc ms mc1 ms1 : Nat} {h : Hp} {b n i : Nat} {xs : Nat → Int32} {q : String} (ok : Ok G) (R : Rel G h) (nb : ¬ G.2.2.1 b) (hi : i + 3 < n) (hn : n < 2 ^ 31) (hm : 10 + mc1 ≤ mc ∧ 1300 + ms1 ≤ ms) (kk : ∀ h', Rel G h' → XS (Scr b n xs) l G (mL q) RmL K mc1 ms1 1315 [(3, .int (nI i)), (2, .ref (Ad G 20)), (1, .ref (Ad G 0)), (0, .ref b)] [] h') : XS (Scr b n xs) l G (mL q) RmL K mc ms 742 [(3, .int (nI i)), (2, .ref (Ad G 20)), (1, .ref (Ad G 0)), (0, .ref b)] [] h := by
  refine y_aload_n 2 dL_law_742 rfl rfl ?_
  refine y_sc (kn := 1) 3 0 (by decide) nb rfl rfl (by omega) hn dL_law_743 dL_law_744 dL_law_745 dL_law_746 dL_law_747 ?_
  refine y_sc (kn := 2) 3 0 (by decide) nb rfl rfl (by omega) hn dL_law_748 dL_law_749 dL_law_750 dL_law_751 dL_law_752 ?_
  refine y_p1 (mc1 := mc1) (ms1 := ms1) (args := [.int (xs (i + 1)), .int (xs (i + 2))]) (pr_isAlike ok (xs (i + 1)) (xs (i + 2))) R vL_91 rfl rfl (ble rfl) rfl (ble rfl) dL_law_753 rfl hm (fun v h1 d2 tv fr hd2 c2 => ?_)
  obtain ⟨x, rfl⟩ := tv
  refine y_aload_n 1 dL_law_756 rfl rfl ?_
  refine y_sc (kn := 1) 3 0 (by decide) nb rfl rfl (by omega) hn dL_law_757 dL_law_758 dL_law_759 dL_law_760 dL_law_761 ?_
  refine y_sc (kn := 2) 3 0 (by decide) nb rfl rfl (by omega) hn dL_law_762 dL_law_763 dL_law_764 dL_law_765 dL_law_766 ?_
  refine y_p2 (args := [.int (xs (i + 1)), .int (xs (i + 2))]) c2 R fr hd2 vL_95 rfl rfl (ble rfl) rfl (ble rfl) dL_law_767 rfl (fun h2 R2 F2 => ?_)
  exact y_icmp_eq 1315 dL_law_770 (by decide) (fun _ => kk h2 R2) (fun z => absurd rfl z)
theorem lc_19 {l : Launch} {G : Gl} {K : List Frame → Array Value → State → State → Prop} {mc ms mc1 ms1 : Nat} {h : Hp} {b n i : Nat} {xs : Nat → Int32} {q : String} (ok : Ok G) (R : Rel G h) (nb : ¬ G.2.2.1 b) (hi : i + 3 < n) (hn : n < 2 ^ 31) (hm : 10 + mc1 ≤ mc ∧ 1300 + ms1 ≤ ms) (kk : ∀ h', Rel G h' → XS (Scr b n xs) l G (mL q) RmL K mc1 ms1 1315 [(3, .int (nI i)), (2, .ref (Ad G 20)), (1, .ref (Ad G 0)), (0, .ref b)] [] h') : XS (Scr b n xs) l G (mL q) RmL K mc ms 775 [(3, .int (nI i)), (2, .ref (Ad G 20)), (1, .ref (Ad G 0)), (0, .ref b)] [] h := by
  refine y_aload_n 2 dL_law_775 rfl rfl ?_
  refine y_p1 (mc1 := mc1) (ms1 := ms1) (args := []) (pr_alike ok) R vL_96 rfl rfl (ble rfl) rfl (ble rfl) dL_law_776 rfl hm (fun v h1 d2 tv fr hd2 c2 => ?_)
  obtain ⟨x, rfl⟩ := tv
  refine y_aload_n 1 dL_law_779 rfl rfl ?_
  refine y_p2 (args := []) c2 R fr hd2 vL_99 rfl rfl (ble rfl) rfl (ble rfl) dL_law_780 rfl (fun h2 R2 F2 => ?_)
  exact y_icmp_eq 1315 dL_law_783 (by decide) (fun _ => kk h2 R2) (fun z => absurd rfl z)
theorem lc_20 {l : Launch} {G : Gl} {K : List Frame → Array Value → State → State → Prop} {mc ms mc1 ms1 : Nat} {h : Hp} {b n i : Nat} {xs : Nat → Int32} {q : String} (ok : Ok G) (R : Rel G h) (nb : ¬ G.2.2.1 b) (hi : i + 3 < n) (hn : n < 2 ^ 31) (hm : 10 + mc1 ≤ mc ∧ 1300 + ms1 ≤ ms) (kk : ∀ h', Rel G h' → XS (Scr b n xs) l G (mL q) RmL K mc1 ms1 1315 [(3, .int (nI i)), (2, .ref (Ad G 20)), (1, .ref (Ad G 0)), (0, .ref b)] [] h') : XS (Scr b n xs) l G (mL q) RmL K mc ms 788 [(3, .int (nI i)), (2, .ref (Ad G 20)), (1, .ref (Ad G 0)), (0, .ref b)] [] h := by
  refine y_aload_n 2 dL_law_788 rfl rfl ?_
  refine y_sc (kn := 1) 3 0 (by decide) nb rfl rfl (by omega) hn dL_law_789 dL_law_790 dL_law_791 dL_law_792 dL_law_793 ?_
  refine y_p1 (mc1 := mc1) (ms1 := ms1) (args := [.int (xs (i + 1))]) (pr_ranked ok (xs (i + 1))) R vL_100 rfl rfl (ble rfl) rfl (ble rfl) dL_law_794 rfl hm (fun v h1 d2 tv fr hd2 c2 => ?_)
  obtain ⟨x, rfl⟩ := tv
  refine y_aload_n 1 dL_law_797 rfl rfl ?_
  refine y_sc (kn := 1) 3 0 (by decide) nb rfl rfl (by omega) hn dL_law_798 dL_law_799 dL_law_800 dL_law_801 dL_law_802 ?_
  refine y_p2 (args := [.int (xs (i + 1))]) c2 R fr hd2 vL_103 rfl rfl (ble rfl) rfl (ble rfl) dL_law_803 rfl (fun h2 R2 F2 => ?_)
  exact y_icmp_eq 1315 dL_law_806 (by decide) (fun _ => kk h2 R2) (fun z => absurd rfl z)
theorem lc_21 {l : Launch} {G : Gl} {K : List Frame → Array Value → State → State → Prop} {mc ms mc1 ms1 : Nat} {h : Hp} {b n i : Nat} {xs : Nat → Int32} {q : String} (ok : Ok G) (R : Rel G h) (nb : ¬ G.2.2.1 b) (hi : i + 3 < n) (hn : n < 2 ^ 31) (hm : 10 + mc1 ≤ mc ∧ 1300 + ms1 ≤ ms) (kk : ∀ h', Rel G h' → XS (Scr b n xs) l G (mL q) RmL K mc1 ms1 1315 [(3, .int (nI i)), (2, .ref (Ad G 20)), (1, .ref (Ad G 0)), (0, .ref b)] [] h') : XS (Scr b n xs) l G (mL q) RmL K mc ms 811 [(3, .int (nI i)), (2, .ref (Ad G 20)), (1, .ref (Ad G 0)), (0, .ref b)] [] h := by
  refine y_aload_n 2 dL_law_811 rfl rfl ?_
  refine y_sc (kn := 1) 3 0 (by decide) nb rfl rfl (by omega) hn dL_law_812 dL_law_813 dL_law_814 dL_law_815 dL_law_816 ?_
  refine y_p1 (mc1 := mc1) (ms1 := ms1) (args := [.int (xs (i + 1))]) (pr_peal ok (xs (i + 1))) R vL_104 rfl rfl (ble rfl) rfl (ble rfl) dL_law_817 rfl hm (fun v h1 d2 tv fr hd2 c2 => ?_)
  obtain ⟨x, rfl⟩ := tv
  refine y_aload_n 1 dL_law_820 rfl rfl ?_
  refine y_sc (kn := 1) 3 0 (by decide) nb rfl rfl (by omega) hn dL_law_821 dL_law_822 dL_law_823 dL_law_824 dL_law_825 ?_
  refine y_p2 (args := [.int (xs (i + 1))]) c2 R fr hd2 vL_107 rfl rfl (ble rfl) rfl (ble rfl) dL_law_826 rfl (fun h2 R2 F2 => ?_)
  exact y_icmp_eq 1315 dL_law_829 (by decide) (fun _ => kk h2 R2) (fun z => absurd rfl z)
theorem lc_22 {l : Launch} {G : Gl} {K : List Frame → Array Value → State → State → Prop} {mc ms mc1 ms1 : Nat} {h : Hp} {b n i : Nat} {xs : Nat → Int32} {q : String} (ok : Ok G) (R : Rel G h) (nb : ¬ G.2.2.1 b) (hi : i + 3 < n) (hn : n < 2 ^ 31) (hm : 10 + mc1 ≤ mc ∧ 1300 + ms1 ≤ ms) (kk : ∀ h', Rel G h' → XS (Scr b n xs) l G (mL q) RmL K mc1 ms1 1315 [(3, .int (nI i)), (2, .ref (Ad G 20)), (1, .ref (Ad G 0)), (0, .ref b)] [] h') : XS (Scr b n xs) l G (mL q) RmL K mc ms 834 [(3, .int (nI i)), (2, .ref (Ad G 20)), (1, .ref (Ad G 0)), (0, .ref b)] [] h := by
  refine y_aload_n 2 dL_law_834 rfl rfl ?_
  refine y_sc (kn := 1) 3 0 (by decide) nb rfl rfl (by omega) hn dL_law_835 dL_law_836 dL_law_837 dL_law_838 dL_law_839 ?_
  refine y_p1 (mc1 := mc1) (ms1 := ms1) (args := [.int (xs (i + 1))]) (pr_nearest ok (xs (i + 1))) R vL_108 rfl rfl (ble rfl) rfl (ble rfl) dL_law_840 rfl hm (fun v h1 d2 tv fr hd2 c2 => ?_)
  obtain ⟨x, rfl⟩ := tv
  refine y_aload_n 1 dL_law_843 rfl rfl ?_
  refine y_sc (kn := 1) 3 0 (by decide) nb rfl rfl (by omega) hn dL_law_844 dL_law_845 dL_law_846 dL_law_847 dL_law_848 ?_
  refine y_p2 (args := [.int (xs (i + 1))]) c2 R fr hd2 vL_111 rfl rfl (ble rfl) rfl (ble rfl) dL_law_849 rfl (fun h2 R2 F2 => ?_)
  exact y_icmp_eq 1315 dL_law_852 (by decide) (fun _ => kk h2 R2) (fun z => absurd rfl z)
theorem lc_23 {l : Launch} {G : Gl} {K : List Frame → Array Value → State → State → Prop} {mc ms mc1 ms1 : Nat} {h : Hp} {b n i : Nat} {xs : Nat → Int32} {q : String} (ok : Ok G) (R : Rel G h) (nb : ¬ G.2.2.1 b) (hi : i + 3 < n) (hn : n < 2 ^ 31) (hm : 10 + mc1 ≤ mc ∧ 1300 + ms1 ≤ ms) (kk : ∀ h', Rel G h' → XS (Scr b n xs) l G (mL q) RmL K mc1 ms1 1315 [(3, .int (nI i)), (2, .ref (Ad G 20)), (1, .ref (Ad G 0)), (0, .ref b)] [] h') : XS (Scr b n xs) l G (mL q) RmL K mc ms 857 [(3, .int (nI i)), (2, .ref (Ad G 20)), (1, .ref (Ad G 0)), (0, .ref b)] [] h := by
  refine y_aload_n 2 dL_law_857 rfl rfl ?_
  refine y_sc (kn := 1) 3 0 (by decide) nb rfl rfl (by omega) hn dL_law_858 dL_law_859 dL_law_860 dL_law_861 dL_law_862 ?_
  refine y_sc (kn := 2) 3 0 (by decide) nb rfl rfl (by omega) hn dL_law_863 dL_law_864 dL_law_865 dL_law_866 dL_law_867 ?_
  refine y_sc (kn := 3) 3 0 (by decide) nb rfl rfl (by omega) hn dL_law_868 dL_law_869 dL_law_870 dL_law_871 dL_law_872 ?_
  refine y_p1 (mc1 := mc1) (ms1 := ms1) (args := [.int (xs (i + 1)), .int (xs (i + 2)), .int (xs (i + 3))]) (pr_wouldSound ok (xs (i + 1)) (xs (i + 2)) (xs (i + 3))) R vL_112 rfl rfl (ble rfl) rfl (ble rfl) dL_law_873 rfl hm (fun v h1 d2 tv fr hd2 c2 => ?_)
  obtain ⟨x, rfl⟩ := tv
  refine y_aload_n 1 dL_law_876 rfl rfl ?_
  refine y_sc (kn := 1) 3 0 (by decide) nb rfl rfl (by omega) hn dL_law_877 dL_law_878 dL_law_879 dL_law_880 dL_law_881 ?_
  refine y_sc (kn := 2) 3 0 (by decide) nb rfl rfl (by omega) hn dL_law_882 dL_law_883 dL_law_884 dL_law_885 dL_law_886 ?_
  refine y_sc (kn := 3) 3 0 (by decide) nb rfl rfl (by omega) hn dL_law_887 dL_law_888 dL_law_889 dL_law_890 dL_law_891 ?_
  refine y_p2 (args := [.int (xs (i + 1)), .int (xs (i + 2)), .int (xs (i + 3))]) c2 R fr hd2 vL_115 rfl rfl (ble rfl) rfl (ble rfl) dL_law_892 rfl (fun h2 R2 F2 => ?_)
  exact y_icmp_eq 1315 dL_law_895 (by decide) (fun _ => kk h2 R2) (fun z => absurd rfl z)
theorem lc_24 {l : Launch} {G : Gl} {K : List Frame → Array Value → State → State → Prop} {mc ms mc1 ms1 : Nat} {h : Hp} {b n i : Nat} {xs : Nat → Int32} {q : String} (ok : Ok G) (R : Rel G h) (nb : ¬ G.2.2.1 b) (hi : i + 3 < n) (hn : n < 2 ^ 31) (hm : 10 + mc1 ≤ mc ∧ 1300 + ms1 ≤ ms) (kk : ∀ h', Rel G h' → XS (Scr b n xs) l G (mL q) RmL K mc1 ms1 1315 [(3, .int (nI i)), (2, .ref (Ad G 20)), (1, .ref (Ad G 0)), (0, .ref b)] [] h') : XS (Scr b n xs) l G (mL q) RmL K mc ms 900 [(3, .int (nI i)), (2, .ref (Ad G 20)), (1, .ref (Ad G 0)), (0, .ref b)] [] h := by
  refine y_aload_n 2 dL_law_900 rfl rfl ?_
  refine y_sc (kn := 1) 3 0 (by decide) nb rfl rfl (by omega) hn dL_law_901 dL_law_902 dL_law_903 dL_law_904 dL_law_905 ?_
  refine y_sc (kn := 2) 3 0 (by decide) nb rfl rfl (by omega) hn dL_law_906 dL_law_907 dL_law_908 dL_law_909 dL_law_910 ?_
  refine y_p1 (mc1 := mc1) (ms1 := ms1) (args := [.int (xs (i + 1)), .int (xs (i + 2))]) (pr_blowsTo ok (xs (i + 1)) (xs (i + 2))) R vL_116 rfl rfl (ble rfl) rfl (ble rfl) dL_law_911 rfl hm (fun v h1 d2 tv fr hd2 c2 => ?_)
  obtain ⟨x, rfl⟩ := tv
  refine y_aload_n 1 dL_law_914 rfl rfl ?_
  refine y_sc (kn := 1) 3 0 (by decide) nb rfl rfl (by omega) hn dL_law_915 dL_law_916 dL_law_917 dL_law_918 dL_law_919 ?_
  refine y_sc (kn := 2) 3 0 (by decide) nb rfl rfl (by omega) hn dL_law_920 dL_law_921 dL_law_922 dL_law_923 dL_law_924 ?_
  refine y_p2 (args := [.int (xs (i + 1)), .int (xs (i + 2))]) c2 R fr hd2 vL_119 rfl rfl (ble rfl) rfl (ble rfl) dL_law_925 rfl (fun h2 R2 F2 => ?_)
  exact y_icmp_eq 1315 dL_law_928 (by decide) (fun _ => kk h2 R2) (fun z => absurd rfl z)
theorem lc_25 {l : Launch} {G : Gl} {K : List Frame → Array Value → State → State → Prop} {mc ms mc1 ms1 : Nat} {h : Hp} {b n i : Nat} {xs : Nat → Int32} {q : String} (ok : Ok G) (R : Rel G h) (nb : ¬ G.2.2.1 b) (hi : i + 3 < n) (hn : n < 2 ^ 31) (hm : 10 + mc1 ≤ mc ∧ 1300 + ms1 ≤ ms) (kk : ∀ h', Rel G h' → XS (Scr b n xs) l G (mL q) RmL K mc1 ms1 1315 [(3, .int (nI i)), (2, .ref (Ad G 20)), (1, .ref (Ad G 0)), (0, .ref b)] [] h') : XS (Scr b n xs) l G (mL q) RmL K mc ms 933 [(3, .int (nI i)), (2, .ref (Ad G 20)), (1, .ref (Ad G 0)), (0, .ref b)] [] h := by
  refine y_aload_n 2 dL_law_933 rfl rfl ?_
  refine y_sc (kn := 1) 3 0 (by decide) nb rfl rfl (by omega) hn dL_law_934 dL_law_935 dL_law_936 dL_law_937 dL_law_938 ?_
  refine y_p1 (mc1 := mc1) (ms1 := ms1) (args := [.int (xs (i + 1))]) (pr_mealsTo ok (xs (i + 1))) R vL_120 rfl rfl (ble rfl) rfl (ble rfl) dL_law_939 rfl hm (fun v h1 d2 tv fr hd2 c2 => ?_)
  obtain ⟨x, rfl⟩ := tv
  refine y_aload_n 1 dL_law_942 rfl rfl ?_
  refine y_sc (kn := 1) 3 0 (by decide) nb rfl rfl (by omega) hn dL_law_943 dL_law_944 dL_law_945 dL_law_946 dL_law_947 ?_
  refine y_p2 (args := [.int (xs (i + 1))]) c2 R fr hd2 vL_123 rfl rfl (ble rfl) rfl (ble rfl) dL_law_948 rfl (fun h2 R2 F2 => ?_)
  exact y_icmp_eq 1315 dL_law_951 (by decide) (fun _ => kk h2 R2) (fun z => absurd rfl z)
theorem lc_26 {l : Launch} {G : Gl} {K : List Frame → Array Value → State → State → Prop} {mc ms mc1 ms1 : Nat} {h : Hp} {b n i : Nat} {xs : Nat → Int32} {q : String} (ok : Ok G) (R : Rel G h) (nb : ¬ G.2.2.1 b) (hi : i + 3 < n) (hn : n < 2 ^ 31) (hm : 10 + mc1 ≤ mc ∧ 1300 + ms1 ≤ ms) (kk : ∀ h', Rel G h' → XS (Scr b n xs) l G (mL q) RmL K mc1 ms1 1315 [(3, .int (nI i)), (2, .ref (Ad G 20)), (1, .ref (Ad G 0)), (0, .ref b)] [] h') : XS (Scr b n xs) l G (mL q) RmL K mc ms 956 [(3, .int (nI i)), (2, .ref (Ad G 20)), (1, .ref (Ad G 0)), (0, .ref b)] [] h := by
  refine y_aload_n 2 dL_law_956 rfl rfl ?_
  refine y_sc (kn := 1) 3 0 (by decide) nb rfl rfl (by omega) hn dL_law_957 dL_law_958 dL_law_959 dL_law_960 dL_law_961 ?_
  refine y_sc (kn := 2) 3 0 (by decide) nb rfl rfl (by omega) hn dL_law_962 dL_law_963 dL_law_964 dL_law_965 dL_law_966 ?_
  refine y_p1 (mc1 := mc1) (ms1 := ms1) (args := [.int (xs (i + 1)), .int (xs (i + 2))]) (pr_barsFor ok (xs (i + 1)) (xs (i + 2))) R vL_124 rfl rfl (ble rfl) rfl (ble rfl) dL_law_967 rfl hm (fun v h1 d2 tv fr hd2 c2 => ?_)
  obtain ⟨x, rfl⟩ := tv
  refine y_aload_n 1 dL_law_970 rfl rfl ?_
  refine y_sc (kn := 1) 3 0 (by decide) nb rfl rfl (by omega) hn dL_law_971 dL_law_972 dL_law_973 dL_law_974 dL_law_975 ?_
  refine y_sc (kn := 2) 3 0 (by decide) nb rfl rfl (by omega) hn dL_law_976 dL_law_977 dL_law_978 dL_law_979 dL_law_980 ?_
  refine y_p2 (args := [.int (xs (i + 1)), .int (xs (i + 2))]) c2 R fr hd2 vL_127 rfl rfl (ble rfl) rfl (ble rfl) dL_law_981 rfl (fun h2 R2 F2 => ?_)
  exact y_icmp_eq 1315 dL_law_984 (by decide) (fun _ => kk h2 R2) (fun z => absurd rfl z)
theorem lc_27 {l : Launch} {G : Gl} {K : List Frame → Array Value → State → State → Prop} {mc ms mc1 ms1 : Nat} {h : Hp} {b n i : Nat} {xs : Nat → Int32} {q : String} (ok : Ok G) (R : Rel G h) (nb : ¬ G.2.2.1 b) (hi : i + 3 < n) (hn : n < 2 ^ 31) (hm : 10 + mc1 ≤ mc ∧ 1300 + ms1 ≤ ms) (kk : ∀ h', Rel G h' → XS (Scr b n xs) l G (mL q) RmL K mc1 ms1 1315 [(3, .int (nI i)), (2, .ref (Ad G 20)), (1, .ref (Ad G 0)), (0, .ref b)] [] h') : XS (Scr b n xs) l G (mL q) RmL K mc ms 989 [(3, .int (nI i)), (2, .ref (Ad G 20)), (1, .ref (Ad G 0)), (0, .ref b)] [] h := by
  refine y_aload_n 2 dL_law_989 rfl rfl ?_
  refine y_sc (kn := 1) 3 0 (by decide) nb rfl rfl (by omega) hn dL_law_990 dL_law_991 dL_law_992 dL_law_993 dL_law_994 ?_
  refine y_sc (kn := 2) 3 0 (by decide) nb rfl rfl (by omega) hn dL_law_995 dL_law_996 dL_law_997 dL_law_998 dL_law_999 ?_
  refine y_p1 (mc1 := mc1) (ms1 := ms1) (args := [.int (xs (i + 1)), .int (xs (i + 2))]) (pr_fits ok (xs (i + 1)) (xs (i + 2))) R vL_128 rfl rfl (ble rfl) rfl (ble rfl) dL_law_1000 rfl hm (fun v h1 d2 tv fr hd2 c2 => ?_)
  obtain ⟨x, rfl⟩ := tv
  refine y_aload_n 1 dL_law_1003 rfl rfl ?_
  refine y_sc (kn := 1) 3 0 (by decide) nb rfl rfl (by omega) hn dL_law_1004 dL_law_1005 dL_law_1006 dL_law_1007 dL_law_1008 ?_
  refine y_sc (kn := 2) 3 0 (by decide) nb rfl rfl (by omega) hn dL_law_1009 dL_law_1010 dL_law_1011 dL_law_1012 dL_law_1013 ?_
  refine y_p2 (args := [.int (xs (i + 1)), .int (xs (i + 2))]) c2 R fr hd2 vL_131 rfl rfl (ble rfl) rfl (ble rfl) dL_law_1014 rfl (fun h2 R2 F2 => ?_)
  exact y_icmp_eq 1315 dL_law_1017 (by decide) (fun _ => kk h2 R2) (fun z => absurd rfl z)
theorem lc_28 {l : Launch} {G : Gl} {K : List Frame → Array Value → State → State → Prop} {mc ms mc1 ms1 : Nat} {h : Hp} {b n i : Nat} {xs : Nat → Int32} {q : String} (ok : Ok G) (R : Rel G h) (nb : ¬ G.2.2.1 b) (hi : i + 3 < n) (hn : n < 2 ^ 31) (hm : 10 + mc1 ≤ mc ∧ 1300 + ms1 ≤ ms) (kk : ∀ h', Rel G h' → XS (Scr b n xs) l G (mL q) RmL K mc1 ms1 1315 [(3, .int (nI i)), (2, .ref (Ad G 20)), (1, .ref (Ad G 0)), (0, .ref b)] [] h') : XS (Scr b n xs) l G (mL q) RmL K mc ms 1022 [(3, .int (nI i)), (2, .ref (Ad G 20)), (1, .ref (Ad G 0)), (0, .ref b)] [] h := by
  refine y_aload_n 2 dL_law_1022 rfl rfl ?_
  refine y_sc (kn := 1) 3 0 (by decide) nb rfl rfl (by omega) hn dL_law_1023 dL_law_1024 dL_law_1025 dL_law_1026 dL_law_1027 ?_
  refine y_p1 (mc1 := mc1) (ms1 := ms1) (args := [.int (xs (i + 1))]) (pr_goodFor ok (xs (i + 1))) R vL_132 rfl rfl (ble rfl) rfl (ble rfl) dL_law_1028 rfl hm (fun v h1 d2 tv fr hd2 c2 => ?_)
  obtain ⟨x, rfl⟩ := tv
  refine y_aload_n 1 dL_law_1031 rfl rfl ?_
  refine y_sc (kn := 1) 3 0 (by decide) nb rfl rfl (by omega) hn dL_law_1032 dL_law_1033 dL_law_1034 dL_law_1035 dL_law_1036 ?_
  refine y_p2 (args := [.int (xs (i + 1))]) c2 R fr hd2 vL_135 rfl rfl (ble rfl) rfl (ble rfl) dL_law_1037 rfl (fun h2 R2 F2 => ?_)
  exact y_icmp_eq 1315 dL_law_1040 (by decide) (fun _ => kk h2 R2) (fun z => absurd rfl z)
theorem lc_29 {l : Launch} {G : Gl} {K : List Frame → Array Value → State → State → Prop} {mc ms mc1 ms1 : Nat} {h : Hp} {b n i : Nat} {xs : Nat → Int32} {q : String} (ok : Ok G) (R : Rel G h) (nb : ¬ G.2.2.1 b) (hi : i + 3 < n) (hn : n < 2 ^ 31) (hm : 10 + mc1 ≤ mc ∧ 1300 + ms1 ≤ ms) (kk : ∀ h', Rel G h' → XS (Scr b n xs) l G (mL q) RmL K mc1 ms1 1315 [(3, .int (nI i)), (2, .ref (Ad G 20)), (1, .ref (Ad G 0)), (0, .ref b)] [] h') : XS (Scr b n xs) l G (mL q) RmL K mc ms 1045 [(3, .int (nI i)), (2, .ref (Ad G 20)), (1, .ref (Ad G 0)), (0, .ref b)] [] h := by
  refine y_aload_n 2 dL_law_1045 rfl rfl ?_
  refine y_p1 (mc1 := mc1) (ms1 := ms1) (args := []) (pr_filled ok) R vL_136 rfl rfl (ble rfl) rfl (ble rfl) dL_law_1046 rfl hm (fun v h1 d2 tv fr hd2 c2 => ?_)
  obtain ⟨x, rfl⟩ := tv
  refine y_aload_n 1 dL_law_1049 rfl rfl ?_
  refine y_p2 (args := []) c2 R fr hd2 vL_139 rfl rfl (ble rfl) rfl (ble rfl) dL_law_1050 rfl (fun h2 R2 F2 => ?_)
  exact y_icmp_eq 1315 dL_law_1053 (by decide) (fun _ => kk h2 R2) (fun z => absurd rfl z)
theorem lc_30 {l : Launch} {G : Gl} {K : List Frame → Array Value → State → State → Prop} {mc ms mc1 ms1 : Nat} {h : Hp} {b n i : Nat} {xs : Nat → Int32} {q : String} (ok : Ok G) (R : Rel G h) (nb : ¬ G.2.2.1 b) (hi : i + 3 < n) (hn : n < 2 ^ 31) (hm : 10 + mc1 ≤ mc ∧ 1300 + ms1 ≤ ms) (kk : ∀ h', Rel G h' → XS (Scr b n xs) l G (mL q) RmL K mc1 ms1 1315 [(3, .int (nI i)), (2, .ref (Ad G 20)), (1, .ref (Ad G 0)), (0, .ref b)] [] h') : XS (Scr b n xs) l G (mL q) RmL K mc ms 1058 [(3, .int (nI i)), (2, .ref (Ad G 20)), (1, .ref (Ad G 0)), (0, .ref b)] [] h := by
  refine y_aload_n 2 dL_law_1058 rfl rfl ?_
  refine y_p1 (mc1 := mc1) (ms1 := ms1) (args := []) (pr_worth ok) R vL_140 rfl rfl (ble rfl) rfl (ble rfl) dL_law_1059 rfl hm (fun v h1 d2 tv fr hd2 c2 => ?_)
  obtain ⟨x, rfl⟩ := tv
  refine y_aload_n 1 dL_law_1062 rfl rfl ?_
  refine y_p2 (args := []) c2 R fr hd2 vL_143 rfl rfl (ble rfl) rfl (ble rfl) dL_law_1063 rfl (fun h2 R2 F2 => ?_)
  exact y_icmp_eq 1315 dL_law_1066 (by decide) (fun _ => kk h2 R2) (fun z => absurd rfl z)
theorem lc_31 {l : Launch} {G : Gl} {K : List Frame → Array Value → State → State → Prop} {mc ms mc1 ms1 : Nat} {h : Hp} {b n i : Nat} {xs : Nat → Int32} {q : String} (ok : Ok G) (R : Rel G h) (nb : ¬ G.2.2.1 b) (hi : i + 3 < n) (hn : n < 2 ^ 31) (hm : 10 + mc1 ≤ mc ∧ 1300 + ms1 ≤ ms) (kk : ∀ h', Rel G h' → XS (Scr b n xs) l G (mL q) RmL K mc1 ms1 1315 [(3, .int (nI i)), (2, .ref (Ad G 20)), (1, .ref (Ad G 0)), (0, .ref b)] [] h') : XS (Scr b n xs) l G (mL q) RmL K mc ms 1071 [(3, .int (nI i)), (2, .ref (Ad G 20)), (1, .ref (Ad G 0)), (0, .ref b)] [] h := by
  refine y_aload_n 2 dL_law_1071 rfl rfl ?_
  refine y_p1 (mc1 := mc1) (ms1 := ms1) (args := []) (pr_copper ok) R vL_144 rfl rfl (ble rfl) rfl (ble rfl) dL_law_1072 rfl hm (fun v h1 d2 tv fr hd2 c2 => ?_)
  obtain ⟨x, rfl⟩ := tv
  refine y_aload_n 1 dL_law_1075 rfl rfl ?_
  refine y_p2 (args := []) c2 R fr hd2 vL_147 rfl rfl (ble rfl) rfl (ble rfl) dL_law_1076 rfl (fun h2 R2 F2 => ?_)
  exact y_icmp_eq 1315 dL_law_1079 (by decide) (fun _ => kk h2 R2) (fun z => absurd rfl z)
theorem lc_32 {l : Launch} {G : Gl} {K : List Frame → Array Value → State → State → Prop} {mc ms mc1 ms1 : Nat} {h : Hp} {b n i : Nat} {xs : Nat → Int32} {q : String} (ok : Ok G) (R : Rel G h) (nb : ¬ G.2.2.1 b) (hi : i + 3 < n) (hn : n < 2 ^ 31) (hm : 10 + mc1 ≤ mc ∧ 1300 + ms1 ≤ ms) (kk : ∀ h', Rel G h' → XS (Scr b n xs) l G (mL q) RmL K mc1 ms1 1315 [(3, .int (nI i)), (2, .ref (Ad G 20)), (1, .ref (Ad G 0)), (0, .ref b)] [] h') : XS (Scr b n xs) l G (mL q) RmL K mc ms 1084 [(3, .int (nI i)), (2, .ref (Ad G 20)), (1, .ref (Ad G 0)), (0, .ref b)] [] h := by
  refine y_aload_n 2 dL_law_1084 rfl rfl ?_
  refine y_p1 (mc1 := mc1) (ms1 := ms1) (args := []) (pr_copperAgain ok) R vL_148 rfl rfl (ble rfl) rfl (ble rfl) dL_law_1085 rfl hm (fun v h1 d2 tv fr hd2 c2 => ?_)
  obtain ⟨x, rfl⟩ := tv
  refine y_aload_n 1 dL_law_1088 rfl rfl ?_
  refine y_p2 (args := []) c2 R fr hd2 vL_151 rfl rfl (ble rfl) rfl (ble rfl) dL_law_1089 rfl (fun h2 R2 F2 => ?_)
  exact y_icmp_eq 1315 dL_law_1092 (by decide) (fun _ => kk h2 R2) (fun z => absurd rfl z)
theorem lc_33 {l : Launch} {G : Gl} {K : List Frame → Array Value → State → State → Prop} {mc ms mc1 ms1 : Nat} {h : Hp} {b n i : Nat} {xs : Nat → Int32} {q : String} (ok : Ok G) (R : Rel G h) (nb : ¬ G.2.2.1 b) (hi : i + 3 < n) (hn : n < 2 ^ 31) (hm : 10 + mc1 ≤ mc ∧ 1300 + ms1 ≤ ms) (kk : ∀ h', Rel G h' → XS (Scr b n xs) l G (mL q) RmL K mc1 ms1 1315 [(3, .int (nI i)), (2, .ref (Ad G 20)), (1, .ref (Ad G 0)), (0, .ref b)] [] h') : XS (Scr b n xs) l G (mL q) RmL K mc ms 1097 [(3, .int (nI i)), (2, .ref (Ad G 20)), (1, .ref (Ad G 0)), (0, .ref b)] [] h := by
  refine y_aload_n 2 dL_law_1097 rfl rfl ?_
  refine y_p1 (mc1 := mc1) (ms1 := ms1) (args := []) (pr_coinsAgain ok) R vL_152 rfl rfl (ble rfl) rfl (ble rfl) dL_law_1098 rfl hm (fun v h1 d2 tv fr hd2 c2 => ?_)
  obtain ⟨x, rfl⟩ := tv
  refine y_aload_n 1 dL_law_1101 rfl rfl ?_
  refine y_p2 (args := []) c2 R fr hd2 vL_155 rfl rfl (ble rfl) rfl (ble rfl) dL_law_1102 rfl (fun h2 R2 F2 => ?_)
  exact y_icmp_eq 1315 dL_law_1105 (by decide) (fun _ => kk h2 R2) (fun z => absurd rfl z)
theorem lc_34 {l : Launch} {G : Gl} {K : List Frame → Array Value → State → State → Prop} {mc ms mc1 ms1 : Nat} {h : Hp} {b n i : Nat} {xs : Nat → Int32} {q : String} (ok : Ok G) (R : Rel G h) (nb : ¬ G.2.2.1 b) (hi : i + 3 < n) (hn : n < 2 ^ 31) (hm : 10 + mc1 ≤ mc ∧ 1300 + ms1 ≤ ms) (kk : ∀ h', Rel G h' → XS (Scr b n xs) l G (mL q) RmL K mc1 ms1 1315 [(3, .int (nI i)), (2, .ref (Ad G 20)), (1, .ref (Ad G 0)), (0, .ref b)] [] h') : XS (Scr b n xs) l G (mL q) RmL K mc ms 1110 [(3, .int (nI i)), (2, .ref (Ad G 20)), (1, .ref (Ad G 0)), (0, .ref b)] [] h := by
  refine y_aload_n 2 dL_law_1110 rfl rfl ?_
  refine y_p1 (mc1 := mc1) (ms1 := ms1) (args := []) (pr_barsAgain ok) R vL_156 rfl rfl (ble rfl) rfl (ble rfl) dL_law_1111 rfl hm (fun v h1 d2 tv fr hd2 c2 => ?_)
  obtain ⟨x, rfl⟩ := tv
  refine y_aload_n 1 dL_law_1114 rfl rfl ?_
  refine y_p2 (args := []) c2 R fr hd2 vL_159 rfl rfl (ble rfl) rfl (ble rfl) dL_law_1115 rfl (fun h2 R2 F2 => ?_)
  exact y_icmp_eq 1315 dL_law_1118 (by decide) (fun _ => kk h2 R2) (fun z => absurd rfl z)
theorem lc_35 {l : Launch} {G : Gl} {K : List Frame → Array Value → State → State → Prop} {mc ms mc1 ms1 : Nat} {h : Hp} {b n i : Nat} {xs : Nat → Int32} {q : String} (ok : Ok G) (R : Rel G h) (nb : ¬ G.2.2.1 b) (hi : i + 3 < n) (hn : n < 2 ^ 31) (hm : 10 + mc1 ≤ mc ∧ 1300 + ms1 ≤ ms) (kk : ∀ h', Rel G h' → XS (Scr b n xs) l G (mL q) RmL K mc1 ms1 1315 [(3, .int (nI i)), (2, .ref (Ad G 20)), (1, .ref (Ad G 0)), (0, .ref b)] [] h') : XS (Scr b n xs) l G (mL q) RmL K mc ms 1123 [(3, .int (nI i)), (2, .ref (Ad G 20)), (1, .ref (Ad G 0)), (0, .ref b)] [] h := by
  refine y_aload_n 2 dL_law_1123 rfl rfl ?_
  refine y_sc (kn := 1) 3 0 (by decide) nb rfl rfl (by omega) hn dL_law_1124 dL_law_1125 dL_law_1126 dL_law_1127 dL_law_1128 ?_
  refine y_p1 (mc1 := mc1) (ms1 := ms1) (args := [.int (xs (i + 1))]) (pr_describe ok (xs (i + 1))) R vL_160 rfl rfl (ble rfl) rfl (ble rfl) dL_law_1129 rfl hm (fun v h1 d2 tv fr hd2 c2 => ?_)
  obtain ⟨x, rfl⟩ := tv
  refine y_aload_n 1 dL_law_1132 rfl rfl ?_
  refine y_sc (kn := 1) 3 0 (by decide) nb rfl rfl (by omega) hn dL_law_1133 dL_law_1134 dL_law_1135 dL_law_1136 dL_law_1137 ?_
  refine y_p2 (args := [.int (xs (i + 1))]) c2 R fr hd2 vL_163 rfl rfl (ble rfl) rfl (ble rfl) dL_law_1138 rfl (fun h2 R2 F2 => ?_)
  exact y_icmp_eq 1315 dL_law_1141 (by decide) (fun _ => kk h2 R2) (fun z => absurd rfl z)
theorem lc_36 {l : Launch} {G : Gl} {K : List Frame → Array Value → State → State → Prop} {mc ms mc1 ms1 : Nat} {h : Hp} {b n i : Nat} {xs : Nat → Int32} {q : String} (ok : Ok G) (R : Rel G h) (nb : ¬ G.2.2.1 b) (hi : i + 3 < n) (hn : n < 2 ^ 31) (hm : 10 + mc1 ≤ mc ∧ 1300 + ms1 ≤ ms) (kk : ∀ h', Rel G h' → XS (Scr b n xs) l G (mL q) RmL K mc1 ms1 1315 [(3, .int (nI i)), (2, .ref (Ad G 20)), (1, .ref (Ad G 0)), (0, .ref b)] [] h') : XS (Scr b n xs) l G (mL q) RmL K mc ms 1146 [(3, .int (nI i)), (2, .ref (Ad G 20)), (1, .ref (Ad G 0)), (0, .ref b)] [] h := by
  refine y_aload_n 2 dL_law_1146 rfl rfl ?_
  refine y_sc (kn := 1) 3 0 (by decide) nb rfl rfl (by omega) hn dL_law_1147 dL_law_1148 dL_law_1149 dL_law_1150 dL_law_1151 ?_
  refine y_p1 (mc1 := mc1) (ms1 := ms1) (args := [.int (xs (i + 1))]) (pr_written ok (xs (i + 1))) R vL_164 rfl rfl (ble rfl) rfl (ble rfl) dL_law_1152 rfl hm (fun v h1 d2 tv fr hd2 c2 => ?_)
  obtain ⟨x, rfl⟩ := tv
  refine y_aload_n 1 dL_law_1155 rfl rfl ?_
  refine y_sc (kn := 1) 3 0 (by decide) nb rfl rfl (by omega) hn dL_law_1156 dL_law_1157 dL_law_1158 dL_law_1159 dL_law_1160 ?_
  refine y_p2 (args := [.int (xs (i + 1))]) c2 R fr hd2 vL_167 rfl rfl (ble rfl) rfl (ble rfl) dL_law_1161 rfl (fun h2 R2 F2 => ?_)
  exact y_icmp_eq 1315 dL_law_1164 (by decide) (fun _ => kk h2 R2) (fun z => absurd rfl z)
theorem lc_37 {l : Launch} {G : Gl} {K : List Frame → Array Value → State → State → Prop} {mc ms mc1 ms1 : Nat} {h : Hp} {b n i : Nat} {xs : Nat → Int32} {q : String} (ok : Ok G) (R : Rel G h) (nb : ¬ G.2.2.1 b) (hi : i + 3 < n) (hn : n < 2 ^ 31) (hm : 10 + mc1 ≤ mc ∧ 1300 + ms1 ≤ ms) (kk : ∀ h', Rel G h' → XS (Scr b n xs) l G (mL q) RmL K mc1 ms1 1315 [(3, .int (nI i)), (2, .ref (Ad G 20)), (1, .ref (Ad G 0)), (0, .ref b)] [] h') : XS (Scr b n xs) l G (mL q) RmL K mc ms 1169 [(3, .int (nI i)), (2, .ref (Ad G 20)), (1, .ref (Ad G 0)), (0, .ref b)] [] h := by
  refine y_aload_n 2 dL_law_1169 rfl rfl ?_
  refine y_p1 (mc1 := mc1) (ms1 := ms1) (args := []) (pr_meanSound ok) R vL_168 rfl rfl (ble rfl) rfl (ble rfl) dL_law_1170 rfl hm (fun v h1 d2 tv fr hd2 c2 => ?_)
  obtain ⟨x, rfl, nx⟩ := tv
  refine y_f2d dL_law_1173 nx ?_
  refine y_dstore dL_law_1174 (ble rfl) rfl ?_
  refine y_eqL (L' := [(4, .double (FP.f2d x)), (3, .int (nI i)), (2, .ref (Ad G 20)), (1, .ref (Ad G 0)), (0, .ref b)]) rfl ?_
  refine y_aload_n 2 dL_law_1176 rfl rfl ?_
  refine y_p2 (args := []) c2 R fr hd2 vL_172 rfl rfl (ble rfl) rfl (ble rfl) dL_law_1177 rfl (fun h2 R2 F2 => ?_)
  refine y_f2d dL_law_1180 nx ?_
  refine y_dstore dL_law_1181 (ble rfl) rfl ?_
  refine y_eqL (L' := [(6, .double (FP.f2d x)), (4, .double (FP.f2d x)), (3, .int (nI i)), (2, .ref (Ad G 20)), (1, .ref (Ad G 0)), (0, .ref b)]) rfl ?_
  have fin : XS (Scr b n xs) l G (mL q) RmL K mc1 ms1 1209 [(6, .double (FP.f2d x)), (4, .double (FP.f2d x)), (3, .int (nI i)), (2, .ref (Ad G 20)), (1, .ref (Ad G 0)), (0, .ref b)] [] h2 := y_goto 1315 dL_law_1209 (by decide) (y_locs [2, 3, 4, 5] rfl (kk h2 R2))
  refine y_dload 1 dL_law_1183 rfl ?_
  refine y_dload 0 dL_law_1185 rfl ?_
  refine y_dcmp dL_law_1187 ?_
  refine y_if_eq 1209 dL_law_1188 (by decide) (fun _ => fin) (fun z1 => ?_)
  refine y_dload 1 dL_law_1191 rfl ?_
  refine y_dload 1 dL_law_1193 rfl ?_
  refine y_dcmp dL_law_1195 ?_
  refine y_if_eq 1207 dL_law_1196 (by decide) (fun z => absurd z z1) (fun _ => ?_)
  refine y_dload 0 dL_law_1199 rfl ?_
  refine y_dload 0 dL_law_1201 rfl ?_
  refine y_dcmp dL_law_1203 ?_
  exact y_if_ne 1209 dL_law_1204 (by decide) (fun _ => fin) (fun z => absurd z z1)
theorem lc_38 {l : Launch} {G : Gl} {K : List Frame → Array Value → State → State → Prop} {mc ms mc1 ms1 : Nat} {h : Hp} {b n i : Nat} {xs : Nat → Int32} {q : String} (ok : Ok G) (R : Rel G h) (nb : ¬ G.2.2.1 b) (hi : i + 3 < n) (hn : n < 2 ^ 31) (hm : 10 + mc1 ≤ mc ∧ 1300 + ms1 ≤ ms) (kk : ∀ h', Rel G h' → XS (Scr b n xs) l G (mL q) RmL K mc1 ms1 1315 [(3, .int (nI i)), (2, .ref (Ad G 20)), (1, .ref (Ad G 0)), (0, .ref b)] [] h') : XS (Scr b n xs) l G (mL q) RmL K mc ms 1212 [(3, .int (nI i)), (2, .ref (Ad G 20)), (1, .ref (Ad G 0)), (0, .ref b)] [] h := by
  refine y_aload_n 2 dL_law_1212 rfl rfl ?_
  refine y_p1 (mc1 := mc1) (ms1 := ms1) (args := []) (pr_soldShare ok) R vL_173 rfl rfl (ble rfl) rfl (ble rfl) dL_law_1213 rfl hm (fun v h1 d2 tv fr hd2 c2 => ?_)
  obtain ⟨x, rfl⟩ := tv
  refine y_dstore dL_law_1216 (ble rfl) rfl ?_
  refine y_eqL (L' := [(4, .double x), (3, .int (nI i)), (2, .ref (Ad G 20)), (1, .ref (Ad G 0)), (0, .ref b)]) rfl ?_
  refine y_aload_n 2 dL_law_1218 rfl rfl ?_
  refine y_p2 (args := []) c2 R fr hd2 vL_177 rfl rfl (ble rfl) rfl (ble rfl) dL_law_1219 rfl (fun h2 R2 F2 => ?_)
  refine y_dstore dL_law_1222 (ble rfl) rfl ?_
  refine y_eqL (L' := [(6, .double x), (4, .double x), (3, .int (nI i)), (2, .ref (Ad G 20)), (1, .ref (Ad G 0)), (0, .ref b)]) rfl ?_
  have fin : XS (Scr b n xs) l G (mL q) RmL K mc1 ms1 1250 [(6, .double x), (4, .double x), (3, .int (nI i)), (2, .ref (Ad G 20)), (1, .ref (Ad G 0)), (0, .ref b)] [] h2 := y_goto 1315 dL_law_1250 (by decide) (y_locs [2, 3, 4, 5] rfl (kk h2 R2))
  refine y_dload 1 dL_law_1224 rfl ?_
  refine y_dload 0 dL_law_1226 rfl ?_
  refine y_dcmp dL_law_1228 ?_
  refine y_if_eq 1250 dL_law_1229 (by decide) (fun _ => fin) (fun z1 => ?_)
  refine y_dload 1 dL_law_1232 rfl ?_
  refine y_dload 1 dL_law_1234 rfl ?_
  refine y_dcmp dL_law_1236 ?_
  refine y_if_eq 1248 dL_law_1237 (by decide) (fun z => absurd z z1) (fun _ => ?_)
  refine y_dload 0 dL_law_1240 rfl ?_
  refine y_dload 0 dL_law_1242 rfl ?_
  refine y_dcmp dL_law_1244 ?_
  exact y_if_ne 1250 dL_law_1245 (by decide) (fun _ => fin) (fun z => absurd z z1)
theorem lc_39 {l : Launch} {G : Gl} {K : List Frame → Array Value → State → State → Prop} {mc ms mc1 ms1 : Nat} {h : Hp} {b n i : Nat} {xs : Nat → Int32} {q : String} (ok : Ok G) (R : Rel G h) (nb : ¬ G.2.2.1 b) (hi : i + 3 < n) (hn : n < 2 ^ 31) (hm : 10 + mc1 ≤ mc ∧ 1300 + ms1 ≤ ms) (kk : ∀ h', Rel G h' → XS (Scr b n xs) l G (mL q) RmL K mc1 ms1 1315 [(3, .int (nI i)), (2, .ref (Ad G 20)), (1, .ref (Ad G 0)), (0, .ref b)] [] h') : XS (Scr b n xs) l G (mL q) RmL K mc ms 1253 [(3, .int (nI i)), (2, .ref (Ad G 20)), (1, .ref (Ad G 0)), (0, .ref b)] [] h := by
  refine y_aload_n 2 dL_law_1253 rfl rfl ?_
  refine y_sc (kn := 1) 3 0 (by decide) nb rfl rfl (by omega) hn dL_law_1254 dL_law_1255 dL_law_1256 dL_law_1257 dL_law_1258 ?_
  refine y_p1 (mc1 := mc1) (ms1 := ms1) (args := [.int (xs (i + 1))]) (pr_account ok (xs (i + 1))) R vL_178 rfl rfl (ble rfl) rfl (ble rfl) dL_law_1259 rfl hm (fun v h1 d2 tv fr hd2 c2 => ?_)
  obtain ⟨x, rfl⟩ := tv
  refine y_aload_n 1 dL_law_1262 rfl rfl ?_
  refine y_sc (kn := 1) 3 0 (by decide) nb rfl rfl (by omega) hn dL_law_1263 dL_law_1264 dL_law_1265 dL_law_1266 dL_law_1267 ?_
  refine y_p2 (args := [.int (xs (i + 1))]) c2 R fr hd2 vL_181 rfl rfl (ble rfl) rfl (ble rfl) dL_law_1268 rfl (fun h2 R2 F2 => ?_)
  exact y_icmp_eq 1315 dL_law_1271 (by decide) (fun _ => kk h2 R2) (fun z => absurd rfl z)
theorem lc_40 {l : Launch} {G : Gl} {K : List Frame → Array Value → State → State → Prop} {mc ms mc1 ms1 : Nat} {h : Hp} {b n i : Nat} {xs : Nat → Int32} {q : String} (ok : Ok G) (R : Rel G h) (nb : ¬ G.2.2.1 b) (hi : i + 3 < n) (hn : n < 2 ^ 31) (hm : 10 + mc1 ≤ mc ∧ 1300 + ms1 ≤ ms) (kk : ∀ h', Rel G h' → XS (Scr b n xs) l G (mL q) RmL K mc1 ms1 1315 [(3, .int (nI i)), (2, .ref (Ad G 20)), (1, .ref (Ad G 0)), (0, .ref b)] [] h') : XS (Scr b n xs) l G (mL q) RmL K mc ms 1276 [(3, .int (nI i)), (2, .ref (Ad G 20)), (1, .ref (Ad G 0)), (0, .ref b)] [] h := by
  refine y_aload_n 2 dL_law_1276 rfl rfl ?_
  refine y_p1 (mc1 := mc1) (ms1 := ms1) (args := []) (pr_undo ok) R vL_182 rfl rfl (ble rfl) rfl (ble rfl) dL_law_1277 rfl hm (fun v h1 d2 tv fr hd2 c2 => ?_)
  obtain ⟨x, rfl⟩ := tv
  refine y_aload_n 1 dL_law_1280 rfl rfl ?_
  refine y_p2 (args := []) c2 R fr hd2 vL_185 rfl rfl (ble rfl) rfl (ble rfl) dL_law_1281 rfl (fun h2 R2 F2 => ?_)
  exact y_icmp_eq 1315 dL_law_1284 (by decide) (fun _ => kk h2 R2) (fun z => absurd rfl z)
theorem lc_41 {l : Launch} {G : Gl} {K : List Frame → Array Value → State → State → Prop} {mc ms mc1 ms1 : Nat} {h : Hp} {b n i : Nat} {xs : Nat → Int32} {q : String} (ok : Ok G) (R : Rel G h) (nb : ¬ G.2.2.1 b) (hi : i + 3 < n) (hn : n < 2 ^ 31) (hm : 10 + mc1 ≤ mc ∧ 1300 + ms1 ≤ ms) (kk : ∀ h', Rel G h' → XS (Scr b n xs) l G (mL q) RmL K mc1 ms1 1315 [(3, .int (nI i)), (2, .ref (Ad G 20)), (1, .ref (Ad G 0)), (0, .ref b)] [] h') : XS (Scr b n xs) l G (mL q) RmL K mc ms 1289 [(3, .int (nI i)), (2, .ref (Ad G 20)), (1, .ref (Ad G 0)), (0, .ref b)] [] h := by
  refine y_aload_n 2 dL_law_1289 rfl rfl ?_
  refine y_p1 (mc1 := mc1) (ms1 := ms1) (args := []) (pr_save ok) R vL_186 rfl rfl (ble rfl) rfl (ble rfl) dL_law_1290 rfl hm (fun v h1 d2 tv fr hd2 c2 => ?_)
  obtain ⟨x, rfl⟩ := tv
  refine y_aload_n 1 dL_law_1293 rfl rfl ?_
  refine y_p2 (args := []) c2 R fr hd2 vL_189 rfl rfl (ble rfl) rfl (ble rfl) dL_law_1294 rfl (fun h2 R2 F2 => ?_)
  exact y_icmp_eq 1315 dL_law_1297 (by decide) (fun _ => kk h2 R2) (fun z => absurd rfl z)
theorem lc_42 {l : Launch} {G : Gl} {K : List Frame → Array Value → State → State → Prop} {mc ms mc1 ms1 : Nat} {h : Hp} {b n i : Nat} {xs : Nat → Int32} {q : String} (ok : Ok G) (R : Rel G h) (nb : ¬ G.2.2.1 b) (hi : i + 3 < n) (hn : n < 2 ^ 31) (hm : 10 + mc1 ≤ mc ∧ 1300 + ms1 ≤ ms) (kk : ∀ h', Rel G h' → XS (Scr b n xs) l G (mL q) RmL K mc1 ms1 1315 [(3, .int (nI i)), (2, .ref (Ad G 20)), (1, .ref (Ad G 0)), (0, .ref b)] [] h') : XS (Scr b n xs) l G (mL q) RmL K mc ms 1302 [(3, .int (nI i)), (2, .ref (Ad G 20)), (1, .ref (Ad G 0)), (0, .ref b)] [] h := by
  refine y_aload_n 2 dL_law_1302 rfl rfl ?_
  refine y_p1 (mc1 := mc1) (ms1 := ms1) (args := []) (pr_restore ok) R vL_190 rfl rfl (ble rfl) rfl (ble rfl) dL_law_1303 rfl hm (fun v h1 d2 tv fr hd2 c2 => ?_)
  obtain ⟨x, rfl⟩ := tv
  refine y_aload_n 1 dL_law_1306 rfl rfl ?_
  refine y_p2 (args := []) c2 R fr hd2 vL_193 rfl rfl (ble rfl) rfl (ble rfl) dL_law_1307 rfl (fun h2 R2 F2 => ?_)
  exact y_icmp_eq 1315 dL_law_1310 (by decide) (fun _ => kk h2 R2) (fun z => absurd rfl z)
