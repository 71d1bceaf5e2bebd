/-! ===== the law ===== -/
abbrev mL (q : String) : MM := (⟨RL, q, "([I)Z"⟩, cL_law, 4, some .boolean)
/-- the answer of the law -/
def QT : Option Value → Hp → Prop := fun w _ => w = some (.int 1)
set_option maxRecDepth 100000 in
set_option maxHeartbeats 4000000 in
theorem law_loop {l : Launch} {G : Gl} {nm : String} (ok : Ok G) : ∀ (n k : Nat) (h : Hp), k + n = 24 → S1 G h → XX l G (mL nm) room_1 (KQ G room_1 QT) (0) (0) 15 [(2, .int (nI k)), (1, .ref (Ad G 0)), (0, .ref (G.2.2.2 60))] [] h
  | 0, k, h, hk, S => by
    obtain rfl : k = 24 := by omega
    refine x_iload_n 0 dL_law_15 rfl rfl ?_
    refine x_bipush (v := 24) dL_law_16 rfl ?_
    refine x_icmp_ge 86 dL_law_18 (by decide) (fun _ => ?_) (fun z => by first | exact absurd (by decide) z | exact absurd z (by decide))
    refine x_iconst (v := 1) dL_law_86 rfl ?_
    refine x_zret rfl (by first | rfl | (split <;> rfl) | (unfold b2i; split <;> rfl)) dL_law_87 ?_
    exact rfl
  | n + 1, k, h, hk, S => by
    have hk24 : k < 24 := by omega
    refine x_iload_n 0 dL_law_15 rfl rfl ?_
    refine x_bipush (v := 24) dL_law_16 rfl ?_
    refine x_icmp_ge 86 dL_law_18 (by decide) (fun z => by first | exact absurd z (nI_ge (a := k) (b := 24) hk24 (by omega)) | exact absurd (nI_ge (a := k) (b := 24) hk24 (by omega)) z) (fun _ => ?_)
    first | refine x_aload_n 1 dL_law_21 rfl rfl ?_ | refine x_aload_nN 1 dL_law_21 rfl rfl ?_
    first | refine x_aload_n 2 dL_law_22 rfl rfl ?_ | refine x_aload_nN 2 dL_law_22 rfl rfl ?_
    refine x_bipush (v := 60) dL_law_23 rfl ?_
    refine x_iconst (v := 4) dL_law_25 rfl ?_
    refine x_iload_n 0 dL_law_26 rfl rfl ?_
    refine x_imul dL_law_27 ?_
    rw [show (4 : Int32) * nI k = nI (4 * k) from pk_mul 4 k]
    refine x_iadd dL_law_28 ?_
    rw [show (60 : Int32) + nI (4 * k) = nI (60 + 4 * k) from nI_add 60 (4 * k)]
    refine x_callS (mc1 := 0) (ms1 := 0) (As := [.ref _, .ref _, .int _]) (ct_any ok S (by omega)) vL_143 rfl rfl ⟨ble rfl, ble rfl⟩ (ble rfl) dL_law_29 rfl ⟨by omega, by omega⟩ (fun w29 h29 q29 => ?_)
    obtain ⟨⟨v29, rfl⟩, S2⟩ := q29
    obtain ⟨N, ns, np, no, C, R, J, h1⟩ := S2
    refine x_istore_n (L' := [(3, _), (2, _), (1, _), (0, _)]) dL_law_32 rfl (ble rfl) rfl ?_
    first | refine x_aload_n 2 dL_law_33 rfl rfl ?_ | refine x_aload_nN 2 dL_law_33 rfl rfl ?_
    refine x_callS (mc1 := 0) (ms1 := 0) (As := [.ref _]) (ct_arePotsRight ok C R J) vL_147 rfl rfl ⟨ble rfl, ble rfl⟩ (ble rfl) dL_law_34 rfl ⟨by omega, by omega⟩ (fun w34 h34 q34 => ?_)
    obtain ⟨rfl, C2⟩ := q34
    refine x_if_eq 78 dL_law_37 (by decide) (fun z => by first | exact absurd z (by decide) | exact absurd (by decide) z) (fun _ => ?_)
    first | refine x_aload_n 2 dL_law_40 rfl rfl ?_ | refine x_aload_nN 2 dL_law_40 rfl rfl ?_
    refine x_cS1 (As := [.ref _]) (ct_areSumsRight ok C2 R J) vL_151 rfl rfl ⟨ble rfl, ble rfl⟩ (ble rfl) dL_law_41 rfl ?_
    refine x_if_eq 78 dL_law_44 (by decide) (fun z => by first | exact absurd z (by decide) | exact absurd (by decide) z) (fun _ => ?_)
    first | refine x_aload_n 2 dL_law_47 rfl rfl ?_ | refine x_aload_nN 2 dL_law_47 rfl rfl ?_
    refine x_iconst (v := 1) dL_law_48 rfl ?_
    first | refine x_aload_n 3 dL_law_49 rfl rfl ?_ | refine x_aload_nN 3 dL_law_49 rfl rfl ?_
    refine x_sipush (v := 300) dL_law_50 rfl ?_
    refine x_iload_n 1 dL_law_53 rfl rfl ?_
    refine x_iadd dL_law_54 ?_
    refine x_bipush (v := 20) dL_law_55 rfl ?_
    rw [show (300 : Int32) + nI k = nI (300 + k) from nI_add 300 k]
    refine x_callS (mc1 := 0) (ms1 := 0) (As := [.ref _, .int _, .int _]) (ct_pick (i := 300 + k) (m := 20) (by omega) (by omega) (by omega)) vL_15 rfl rfl ⟨ble rfl, ble rfl⟩ (ble rfl) dL_law_57 rfl ⟨by omega, by omega⟩ (fun w57 h57 q57 => ?_)
    obtain ⟨⟨r57, hr57, rfl⟩, rfl⟩ := q57
    refine x_iadd dL_law_60 ?_
    rw [show (1 : Int32) + nI r57 = nI (1 + r57) from nI_add 1 r57]
    first | refine x_aload_n 3 dL_law_61 rfl rfl ?_ | refine x_aload_nN 3 dL_law_61 rfl rfl ?_
    refine x_sipush (v := 330) dL_law_62 rfl ?_
    refine x_iload_n 1 dL_law_65 rfl rfl ?_
    refine x_iadd dL_law_66 ?_
    refine x_bipush (v := 121) dL_law_67 rfl ?_
    rw [show (330 : Int32) + nI k = nI (330 + k) from nI_add 330 k]
    refine x_callS (mc1 := 0) (ms1 := 0) (As := [.ref _, .int _, .int _]) (ct_pick (i := 330 + k) (m := 121) (by omega) (by omega) (by omega)) vL_15 rfl rfl ⟨ble rfl, ble rfl⟩ (ble rfl) dL_law_69 rfl ⟨by omega, by omega⟩ (fun w69 h69 q69 => ?_)
    obtain ⟨⟨r69, hr69, rfl⟩, rfl⟩ := q69
    refine x_callS (mc1 := 0) (ms1 := 0) (As := [.ref _, .int _, .int _]) (ct_areOrdersRight ok R (show nI 1 ≤ nI (1 + r57) from nI_le (by omega) (by omega)) (show nI (1 + r57) ≤ nI 20 from nI_le (by omega) (by omega)) (le0 (by omega)) (show nI r69 ≤ nI 120 from nI_le (by omega) (by omega)) C2) vL_154 rfl rfl ⟨ble rfl, ble rfl⟩ (ble rfl) dL_law_72 rfl ⟨by omega, by omega⟩ (fun w72 h72 q72 => ?_)
    obtain ⟨rfl, C3⟩ := q72
    refine x_if_ne 80 dL_law_75 (by decide) (fun _ => ?_) (fun z => by first | exact absurd (by decide) z | exact absurd z (by decide))
    refine x_iinc (L' := [(2, _), (3, _), (1, _), (0, _)]) (j := 1) (nI (_ + 1)) dL_law_80 rfl (nI_1 _) (ble rfl) rfl ?_
    refine x_goto 15 dL_law_83 (by decide) ?_
    refine x_locs (L' := [(2, _), (1, _), (0, _)]) [0, 2, 3] rfl ?_
    exact law_loop ok n (k + 1) _ (by omega) ⟨N, ns, np, no, C3, R, J, h1⟩
set_option maxRecDepth 100000 in
set_option maxHeartbeats 4000000 in
theorem law_lay {l : Launch} {G : Gl} {nm : String} (ok : Ok G) {h : Hp} (S : S0 G h) : XX l G (mL nm) room_1 (KQ G room_1 QT) (0) (0) 8 [(1, .ref (Ad G 0)), (0, .ref (G.2.2.2 60))] [] h := by
  first | refine x_aload_n 0 dL_law_8 rfl rfl ?_ | refine x_aload_nN 0 dL_law_8 rfl rfl ?_
  first | refine x_aload_n 1 dL_law_9 rfl rfl ?_ | refine x_aload_nN 1 dL_law_9 rfl rfl ?_
  refine x_callS (mc1 := 0) (ms1 := 0) (As := [.ref _, .ref _]) (ct_lay ok S) vL_139 rfl rfl ⟨ble rfl, ble rfl⟩ (ble rfl) dL_law_10 rfl ⟨by omega, by omega⟩ (fun w10 h10 q10 => ?_)
  obtain ⟨rfl, S2⟩ := q10
  refine x_iconst (v := 0) dL_law_13 rfl ?_
  refine x_istore_n (L' := [(2, _), (1, _), (0, _)]) dL_law_14 rfl (ble rfl) rfl ?_
  refine x_locs (L' := [(2, _), (1, _), (0, _)]) [0, 1, 2] rfl ?_
  exact law_loop ok 24 0 _ (by omega) S2
/-- names of a model that is not there -/
theorem far (u : Nat → Nat) (a0 z : Nat) : ∃ B, z ≤ B ∧ a0 < B ∧ ∀ i, i < 3000 → u i < B := by
  obtain ⟨B1, h1⟩ := bnd u 3000
  exact ⟨z + a0 + B1 + 1, by omega, by omega, fun i hi => by have := h1 i hi; omega⟩
theorem UC_l {i : Nat} (h : UC i) : i < 3000 := by
  rcases h with ⟨_, h⟩ | ⟨s, x, hs, hx, rfl⟩
  · omega
  · have := hx.lt; omega
set_option maxRecDepth 100000 in
theorem law_start {l : Launch} {G : Gl} {nm : String} {h : Hp} (hz : ∃ z, ∀ p, z ≤ p → G.2.2.1 p) (k3 : ∀ i j : Nat, i < 3 → j < 3 → G.2.2.2 i = G.2.2.2 j → i = j) (k6 : ∀ i j : Nat, i < 6 → j < 6 → G.2.2.2 (3 + i) = G.2.2.2 (3 + j) → i = j) : XX l G (mL nm) room_1 (KQ G room_1 QT) 654154 7139787 0 [(0, .ref (G.2.2.2 60))] [] h := by
  refine x_new (own := RL) (ci := 10) (fs := [.null, .null, .null, .null, .null, .null, .null, .null, .int 0, .int 0]) tyX11 inX11 tyX11_ok rfl rfl (List.mem_append_right _ (List.mem_of_getElem? (i := 18) (by decide +kernel))) (List.mem_append_right _ (List.mem_of_getElem? (i := 19) (by decide +kernel))) (List.mem_append_right _ (List.mem_of_getElem? (i := 1) (by decide +kernel))) (by intro j hj; rcases (show j = 0 ∨ j = 1 ∨ j = 2 ∨ j = 3 ∨ j = 4 ∨ j = 5 ∨ j = 6 ∨ j = 7 ∨ j = 8 ∨ j = 9 by omega) with rfl | rfl | rfl | rfl | rfl | rfl | rfl | rfl | rfl | rfl <;> rfl) dL_law_0 (fun q1 zq1 gq1 => ?_)
  refine x_dup dL_law_3 rfl ?_
  refine x_callI (mc1 := 0) (ms1 := 0) (As := []) (ct_iStreet hset_s gq1) vL_138 rfl rfl ⟨ble rfl, ble rfl⟩ (ble rfl) dL_law_4 rfl ⟨by omega, by omega⟩ (fun w h1 c1 => ?_)
  obtain ⟨rfl, u, Fu, du, s0, SS, G1⟩ := c1
  refine x_astore_n (L' := [(1, _), (0, _)]) dL_law_7 rfl (ble rfl) rfl ?_
  have n1 : ∀ i, UC i → u i ≠ q1 := fun i hi e => by have := (Fu.2 i hi).1; rw [e, hset_s] at this; cases this
  obtain ⟨z, hz⟩ := hz
  obtain ⟨B, b1, b2, b3⟩ := far u q1 z
  obtain ⟨NM, p0, pc, -, -, inj, AN, -⟩ := names (a20 := B) (v := fun i => B + 1 + i) hz gq1 (hz _ b1) Fu.1 (fun i hi => (Fu.2 i hi).2) (fun i j _ _ e => by omega) (fun i _ => hz _ (by omega)) n1 (fun i hi e => by have := b3 i (UC_l hi); omega) (by omega) (fun i _ e => by omega) (fun i _ e => by omega) (fun i j hi _ e => by have := b3 i (UC_l hi); omega)
  obtain ⟨h4, hR, C⟩ := cs0 (G := G) (NM := NM) p0 pc inj s0 SS
  have okn : Ok (Gn G NM) := ⟨fun i j hi hj e => inj i j hi hj (by rw [Gn_ad, Gn_ad] at e; exact e), fun i hi => by rw [Gn_ad]; exact AN i hi, fun i j hi hj e => k3 i j hi hj (by rw [Gn_k (by omega), Gn_k (by omega)] at e; exact e), fun i j hi hj e => k6 i j hi hj (by rw [Gn_k (by omega), Gn_k (by omega)] at e; exact e)⟩
  refine x_ren hR ?_
  refine x_G NM ?_
  refine x_eqL (L' := [(1, .ref (Ad (Gn G NM) 0)), (0, .ref ((Gn G NM).2.2.2 60))]) (by rw [Gn_ad, p0, Gn_k (by omega)]) ?_
  exact law_lay okn ⟨_, 0, 0, 0, C, RI_cl _, RJ_cl _, Or.inr ⟨rfl, clN_e _ 0 (by omega)⟩⟩
