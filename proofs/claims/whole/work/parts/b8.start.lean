/-! ===== the law from its start to its loop ===== -/
theorem StC.kp {G : Gl} {h h' : Hp} {u : Nat → Nat} (S : StC G h u) (K : ∀ x y, h x = some y → h' x = some y) : StC G h' u := by
  obtain ⟨t1, S9, t2, t3, t4, S10, t5, ⟨f6, t6, g6⟩, S8, t7, t8, t9, t10, t15, t11, t12, t13, t14, t16⟩ := S
  have F : Fr (fun _ => False) h h' := fun a e k _ => K a e k
  exact ⟨K _ _ t1, S9.fr F id (fun _ _ => id), K _ _ t2, K _ _ t3, K _ _ t4, S10.fr F id (fun _ _ => id), K _ _ t5, ⟨f6, K _ _ t6, g6⟩, fun x hx => (S8 x hx).fr F id (fun _ _ => id), K _ _ t7, K _ _ t8, K _ _ t9, K _ _ t10, K _ _ t15, K _ _ t11, K _ _ t12, K _ _ t13, K _ _ t14, K _ _ t16⟩
set_option maxRecDepth 100000 in
theorem law_start {l : Launch} {G : Gl} {b n : Nat} {xs : Nat → Int32} {q : String} {h : Hp} (hn : n ≤ 2048) (nb : ¬ G.2.2.1 b) (hz : ∃ z, ∀ p, z ≤ p → G.2.2.1 p) (k3 : ∀ i j : Nat, i < 3 → j < 3 → G.2.2.2 i = G.2.2.2 j → i = j) (k6 : ∀ i j : Nat, i < 6 → j < 6 → G.2.2.2 (3 + i) = G.2.2.2 (3 + j) → i = j) : XS (Scr b n xs) l G (mL q) RmL (KQ G RmL QT) 600000 7302250 0 [(0, .ref b)] [] h := by
  refine y_new (own := RL) (ci := 10) (fs := [.null, .null, .null, .null, .null, .null, .null, .null, .int 0, .int 0]) tyX11 inX11 tyX11_ok rfl rfl (List.mem_append_right _ (List.mem_of_getElem? (i := 27) (by decide +kernel))) (List.mem_append_right _ (List.mem_of_getElem? (i := 28) (by decide +kernel))) (List.mem_append_right _ (List.mem_of_getElem? (i := 1) (by decide +kernel))) (by intro j hj; rcases (show j = 0 ∨ j = 1 ∨ j = 2 ∨ j = 3 ∨ j = 4 ∨ j = 5 ∨ j = 6 ∨ j = 7 ∨ j = 8 ∨ j = 9 by omega) with rfl | rfl | rfl | rfl | rfl | rfl | rfl | rfl | rfl | rfl <;> rfl) dL_law_0 (fun q1 zq1 gq1 => ?_)
  refine y_dup dL_law_3 rfl ?_
  refine y_callI (mc1 := 599532) (ms1 := 7298867) (As := []) (ct_iStreet hset_s gq1) vL_9 rfl rfl ⟨ble rfl, ble rfl⟩ (ble rfl) dL_law_4 rfl ⟨by omega, by omega⟩ (fun w h1 c1 => ?_)
  obtain ⟨rfl, u, Fu, du, s0, SS, G1⟩ := c1
  refine y_astore_n (L' := [(1, _), (0, _)]) dL_law_7 rfl (ble rfl) rfl ?_
  refine y_new (own := RL) (ci := 11) (fs := [.null, .null, .null, .null, .int 0, .int 0, .null, .null, .null, .int 0, .int 0, .null, .int 0, .int 0, .int 0, .int 0, .int 0, .null, .int 0, .int 0, .int 0, .int 0, .null, .null]) tyX12 inX12 tyX12_ok rfl rfl (List.mem_append_right _ (List.mem_of_getElem? (i := 1249) (by decide +kernel))) (List.mem_append_right _ (List.mem_of_getElem? (i := 1250) (by decide +kernel))) (List.mem_append_right _ (List.mem_of_getElem? (i := 17) (by decide +kernel))) (by intro j hj; rcases (show j = 0 ∨ j = 1 ∨ j = 2 ∨ j = 3 ∨ j = 4 ∨ j = 5 ∨ j = 6 ∨ j = 7 ∨ j = 8 ∨ j = 9 ∨ j = 10 ∨ j = 11 ∨ j = 12 ∨ j = 13 ∨ j = 14 ∨ j = 15 ∨ j = 16 ∨ j = 17 ∨ j = 18 ∨ j = 19 ∨ j = 20 ∨ j = 21 ∨ j = 22 ∨ j = 23 by omega) with rfl | rfl | rfl | rfl | rfl | rfl | rfl | rfl | rfl | rfl | rfl | rfl | rfl | rfl | rfl | rfl | rfl | rfl | rfl | rfl | rfl | rfl | rfl | rfl <;> rfl) dL_law_8 (fun q2 zq2 gq2 => ?_)
  refine y_dup dL_law_11 rfl ?_
  refine y_callI (mc1 := 599520) (ms1 := 7295905) (As := []) (ct_iModel hset_s gq2) vL_12 rfl rfl ⟨ble rfl, ble rfl⟩ (ble rfl) dL_law_12 rfl ⟨by omega, by omega⟩ (fun w h3 c3 => ?_)
  obtain ⟨rfl, v, Fv, dv, m0, MC, G3⟩ := c3
  refine y_astore_n (L' := [(2, _), (1, _), (0, _)]) dL_law_15 rfl (ble rfl) rfl ?_
  refine y_iconst (v := nI 0) dL_law_16 (by decide) ?_
  refine y_istore_n (L' := [(3, _), (2, _), (1, _), (0, _)]) dL_law_17 rfl (ble rfl) rfl ?_
  have K13 : ∀ x y, h1 x = some y → h3 x = some y := fun x y e => by
    have nx : x ≠ q2 := none_ne (some_nn e) zq2
    exact G3.1 x y (by rw [hset_n nx]; exact e) nx
  have n1 : ∀ i, UC i → u i ≠ q1 := fun i hi e => by have := (Fu.2 i hi).1; rw [e, hset_s] at this; cases this
  have n2 : ∀ i, UC i → u i ≠ q2 := fun i hi => none_ne (du i hi) zq2
  have n3 : q1 ≠ q2 := none_ne (some_nn s0) zq2
  have n4 : ∀ i, UM i → v i ≠ q1 := fun i hi e => by
    have := (Fv.2 i hi).1
    rw [e, hset_n n3, s0] at this; cases this
  have n5 : ∀ i, UM i → v i ≠ q2 := fun i hi e => by have := (Fv.2 i hi).1; rw [e, hset_s] at this; cases this
  have n6 : ∀ i j, UC i → UM j → u i ≠ v j := fun i j hi hj e => by
    have := (Fv.2 j hj).1
    rw [← e, hset_n (n2 i hi)] at this
    exact du i hi this
  obtain ⟨z, hz⟩ := hz
  obtain ⟨NM, p0, pc, p20, pm, inj, AN, pb⟩ := names hz gq1 gq2 Fu.1 (fun i hi => (Fu.2 i hi).2) Fv.1 (fun i hi => (Fv.2 i hi).2) n1 n2 n3 n4 n5 n6
  have h15 := UC_n (i := 15) (by omega) (by omega)
  have h16 := UC_n (i := 16) (by omega) (by omega)
  obtain ⟨h4, hR, hO, R⟩ := rel0 (G := G) (NM := NM) p0 pc p20 pm inj pb (Fu.2 15 h15).2 (Fu.2 16 h16).2 (fun e => by have := Fu.1 15 16 h15 h16 e; omega) (K13 _ _ s0) (SS.kp K13) m0 MC
  have okn : Ok (Gn G NM) := ⟨fun i j hi hj e => inj i j hi hj (by rw [Gn_ad, Gn_ad] at e; exact e), fun i hi => by rw [Gn_ad]; exact AN i hi, fun i j hi hj e => k3 i j hi hj (by rw [Gn_k (by omega), Gn_k (by omega)] at e; exact e), fun i j hi hj e => k6 i j hi hj (by rw [Gn_k (by omega), Gn_k (by omega)] at e; exact e)⟩
  refine y_ren hR ?_
  refine y_G NM ?_
  refine y_eqL (L' := [(3, .int (nI 0)), (2, .ref (Ad (Gn G NM) 20)), (1, .ref (Ad (Gn G NM) 0)), (0, .ref b)]) (by rw [Gn_ad, Gn_ad, p0, p20]) ?_
  refine y_bud (mc' := 10 * 512) (ms' := 1300 * 512) (by omega) (by omega) ?_
  exact law_loop okn nb hn 512 0 h4 (by omega) (by omega) R
