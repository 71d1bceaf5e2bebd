/-! ===== the law: are the orders of pots right ===== -/
theorem q_ac4m {l : Launch} {G : Gl} {h : Hp} {N : Nat → Int32} {ns np no : Nat} (ok : Ok G) (C : Cs G h N ns np no) (R : RI N ns np no) : CtR l G mX11_account 6 [.ref (Ad G 0), .int 4] h (some (.int (nI (shN N np)))) h := by
  rw [← shN_e R]; exact q_ac4 ok C
theorem nI_lez {k : Nat} (h : k + 1 < 2 ^ 31) : ¬ nI (k + 1) ≤ 0 := Int32.not_le.mpr (show nI 0 < nI (k + 1) from nI_lt (by omega) h)
theorem alK_e (x y : Int32) : alK x y = if (if 0 ≤ x - y then x - y else 0 - (x - y)) ≤ 2 then 1 else 0 := rfl
theorem dif_p {N : Nat → Int32} {a b : Nat} (PA : PotI N a) (PB : PotI N b) (h : snM N a < snM N b) : ¬ snM N b - snM N a ≤ 0 := by
  obtain ⟨s, e1, hs⟩ := snM_e PA
  obtain ⟨t, e2, ht⟩ := snM_e PB
  rw [e1, e2] at h
  rw [e1, e2]
  exact Int32.not_le.mpr ((dlt_e s (by omega) t (by omega)).1.mpr h)
theorem pairF_s {N : Nat → Int32} {np : Nat} (AP : ∀ i, i < np → PotI N i) {a b : Nat} (ha : a < np) (hb : b < np) : alK (snM N b) (snM N a) = alK (snM N a) (snM N b) := by
  obtain ⟨s, e1, hs⟩ := snM_e (AP a ha)
  obtain ⟨t, e2, ht⟩ := snM_e (AP b hb)
  rw [e1, e2]; exact alK_s t (by omega) s (by omega)
theorem pF_a {N : Nat → Int32} {p q : Nat} (h : alK (snM N p) (snM N q) = 0) : 0 = pairF N p q := (if_neg (fun z => z.2.2 h)).symm
theorem pF_b {N : Nat → Int32} {p q : Nat} (h : inS N p = 0) : 0 = pairF N p q := (if_neg (fun z => inS_1 z.1 h)).symm
theorem pF_c {N : Nat → Int32} {p q : Nat} (h : inS N q = 0) : 0 = pairF N p q := (if_neg (fun z => inS_1 z.2.1 h)).symm
theorem pF_d {N : Nat → Int32} {p q : Nat} (h1 : ¬ inS N p = 0) (h2 : ¬ inS N q = 0) (h3 : ¬ alK (snM N p) (snM N q) = 0) : 1 = pairF N p q := (if_pos ⟨inS_0 h1, inS_0 h2, h3⟩).symm
theorem nI_00 {m : Nat} (h : m = 0) : nI m = 0 := by subst h; rfl
theorem alM_p (N : Nat → Int32) (a i : Nat) : alM N a i = pairF N a (a + 1 + i) := rfl
set_option maxRecDepth 100000 in
set_option maxHeartbeats 4000000 in
theorem ao_a {l : Launch} {G : Gl} {N : Nat → Int32} {ns np no : Nat} {x y : Int32} (ok : Ok G) (R : RI N ns np no) (kk : ∀ h, Cs G h N ns np no → XX l G mL_areOrdersRight (Rm 8 0 0) (KQ G (Rm 8 0 0) (fun w h' => w = some (.int 1) ∧ Cs G h' N ns np no)) 0 0 126 [(4, .int 1), (3, .int 0), (0, .ref (Ad G 0)), (1, .int x), (2, .int y)] [] h) : ∀ (n k : Nat) (h : Hp), 1 ≤ k → (k + n = shN N np ∨ (n = 0 ∧ shN N np ≤ k)) → k ≤ 20 → Cs G h N ns np no → XX l G mL_areOrdersRight (Rm 8 0 0) (KQ G (Rm 8 0 0) (fun w h' => w = some (.int 1) ∧ Cs G h' N ns np no)) 0 0 25 [(5, .int (nI (k))), (4, .int 1), (3, .int 0), (0, .ref (Ad G 0)), (1, .int x), (2, .int y)] [] h
  | 0, k, h, hk1, hk, hk2, C => by
    have hle : shN N np ≤ k := by omega
    refine x_iload 0 dL_areOrdersRight_25 rfl ?_
    first | refine x_aload_n 3 dL_areOrdersRight_27 rfl rfl ?_ | refine x_aload_nN 3 dL_areOrdersRight_27 rfl rfl ?_
    refine x_iconst (v := 4) dL_areOrdersRight_28 rfl ?_
    refine x_cV1 (As := [.int _]) (q_ac4m ok C R) vL_28 rfl (x_rcC C) rfl ⟨ble rfl, ble rfl⟩ (ble rfl) dL_areOrdersRight_29 rfl ?_
    refine x_icmp_ge 126 dL_areOrdersRight_32 (by decide) (fun _ => ?_) (fun z => by first | exact absurd (nI_le hle (by omega)) z | exact absurd z (nI_le hle (by omega)))
    refine x_locs (L' := [(4, _), (3, _), (0, _), (1, _), (2, _)]) [1, 2, 3, 4, 5] rfl ?_
    exact kk _ C
  | n + 1, k, h, hk1, hk, hk2, C => by
    have hkm : k < shN N np := by omega
    have hnp := C.nn.2.2.2.2.1
    have hml := shN_le N np
    have AP := R.1.2.2.2.2.2.2.1
    obtain ⟨a, ha, ua, ea⟩ := rank_ex AP (k := k - 1) (by omega)
    obtain ⟨b, hb, ub, eb⟩ := rank_ex AP (k := k) hkm
    have oab := rk_o AP ha hb ua ub (by omega)
    refine x_iload 0 dL_areOrdersRight_25 rfl ?_
    first | refine x_aload_n 3 dL_areOrdersRight_27 rfl rfl ?_ | refine x_aload_nN 3 dL_areOrdersRight_27 rfl rfl ?_
    refine x_iconst (v := 4) dL_areOrdersRight_28 rfl ?_
    refine x_cV1 (As := [.int _]) (q_ac4m ok C R) vL_28 rfl (x_rcC C) rfl ⟨ble rfl, ble rfl⟩ (ble rfl) dL_areOrdersRight_29 rfl ?_
    refine x_icmp_ge 126 dL_areOrdersRight_32 (by decide) (fun z => by first | exact absurd z (nI_ge hkm (by omega)) | exact absurd (nI_ge hkm (by omega)) z) (fun _ => ?_)
    first | refine x_aload_n 3 dL_areOrdersRight_35 rfl rfl ?_ | refine x_aload_nN 3 dL_areOrdersRight_35 rfl rfl ?_
    refine x_iload 0 dL_areOrdersRight_36 rfl ?_
    refine x_iconst (v := 1) dL_areOrdersRight_38 rfl ?_
    refine x_isub dL_areOrdersRight_39 ?_
    rw [show nI k - 1 = nI (k - 1) from nI_sub' hk1]
    refine x_pV1 (mc1 := 0) (ms1 := 0) (As := [.int _]) (q_rk ok C _) vL_119 rfl (x_rcC C) rfl ⟨ble rfl, ble rfl⟩ (ble rfl) dL_areOrdersRight_40 rfl ⟨by omega, by omega⟩ (fun h40 q40 => ?_)
    clear C
    have C := q40
    rw [rk_v AP hnp ha ua ea]
    refine x_istore (L' := [(6, _), (5, _), (4, _), (3, _), (0, _), (1, _), (2, _)]) dL_areOrdersRight_43 (ble rfl) rfl ?_
    first | refine x_aload_n 4 dL_areOrdersRight_45 rfl rfl ?_ | refine x_aload_nN 4 dL_areOrdersRight_45 rfl rfl ?_
    refine x_iload 1 dL_areOrdersRight_46 rfl ?_
    refine x_pV1 (mc1 := 0) (ms1 := 0) (As := [.int _]) (q_rk ok C _) vL_119 rfl (x_rcC C) rfl ⟨ble rfl, ble rfl⟩ (ble rfl) dL_areOrdersRight_48 rfl ⟨by omega, by omega⟩ (fun h48 q48 => ?_)
    clear C
    have C := q48
    rw [rk_v AP hnp hb ub eb]
    refine x_istore (L' := [(7, _), (6, _), (5, _), (4, _), (3, _), (0, _), (1, _), (2, _)]) dL_areOrdersRight_51 (ble rfl) rfl ?_
    refine x_iload 3 dL_areOrdersRight_53 rfl ?_
    refine x_if_eq 117 dL_areOrdersRight_55 (by decide) (fun z => by first | exact absurd z (by decide) | exact absurd (by decide) z) (fun _ => ?_)
    first | refine x_aload_n 5 dL_areOrdersRight_58 rfl rfl ?_ | refine x_aload_nN 5 dL_areOrdersRight_58 rfl rfl ?_
    refine x_iload 1 dL_areOrdersRight_59 rfl ?_
    refine x_cV1 (As := [.int _]) (q_snd ok C (by assumption)) vL_78 rfl (x_rcC C) rfl ⟨ble rfl, ble rfl⟩ (ble rfl) dL_areOrdersRight_61 rfl ?_
    first | refine x_aload_n 5 dL_areOrdersRight_64 rfl rfl ?_ | refine x_aload_nN 5 dL_areOrdersRight_64 rfl rfl ?_
    refine x_iload 0 dL_areOrdersRight_65 rfl ?_
    refine x_cV1 (As := [.int _]) (q_snd ok C (by assumption)) vL_78 rfl (x_rcC C) rfl ⟨ble rfl, ble rfl⟩ (ble rfl) dL_areOrdersRight_67 rfl ?_
    refine x_icmp_gt 95 dL_areOrdersRight_70 (by decide) (fun c70 => ?_) (fun c70 => ?_)
    · first | refine x_aload_n 5 dL_areOrdersRight_95 rfl rfl ?_ | refine x_aload_nN 5 dL_areOrdersRight_95 rfl rfl ?_
      refine x_iload 1 dL_areOrdersRight_96 rfl ?_
      refine x_cS1 (As := [.ref _, .int _]) (ct_isInShop ok C (by assumption)) vL_94 rfl rfl ⟨ble rfl, ble rfl⟩ (ble rfl) dL_areOrdersRight_98 rfl ?_
      refine x_if_eq 117 dL_areOrdersRight_101 (by decide) (fun z => by first | exact absurd z (inS_1 ua) | exact absurd (inS_1 ua) z) (fun _ => ?_)
      first | refine x_aload_n 5 dL_areOrdersRight_104 rfl rfl ?_ | refine x_aload_nN 5 dL_areOrdersRight_104 rfl rfl ?_
      refine x_iload 0 dL_areOrdersRight_105 rfl ?_
      refine x_cS1 (As := [.ref _, .int _]) (ct_isInShop ok C (by assumption)) vL_94 rfl rfl ⟨ble rfl, ble rfl⟩ (ble rfl) dL_areOrdersRight_107 rfl ?_
      refine x_if_eq 117 dL_areOrdersRight_110 (by decide) (fun z => by first | exact absurd z (inS_1 ub) | exact absurd (inS_1 ub) z) (fun _ => ?_)
      refine x_iconst (v := 1) dL_areOrdersRight_113 rfl ?_
      refine x_goto 118 dL_areOrdersRight_114 (by decide) ?_
      refine x_istore (L' := [(4, _), (7, _), (6, _), (5, _), (3, _), (0, _), (1, _), (2, _)]) dL_areOrdersRight_118 (ble rfl) rfl ?_
      refine x_iinc (L' := [(5, _), (4, _), (7, _), (6, _), (3, _), (0, _), (1, _), (2, _)]) (j := 3) (nI (_ + 1)) dL_areOrdersRight_120 rfl (nI_1 _) (ble rfl) rfl ?_
      refine x_goto 25 dL_areOrdersRight_123 (by decide) ?_
      refine x_locs (L' := [(5, _), (4, _), (3, _), (0, _), (1, _), (2, _)]) [0, 1, 4, 5, 6, 7] rfl ?_
      exact ao_a ok R kk n (k + 1) _ (by omega) (by omega) (by omega) C
    · first | refine x_aload_n 5 dL_areOrdersRight_73 rfl rfl ?_ | refine x_aload_nN 5 dL_areOrdersRight_73 rfl rfl ?_
      refine x_iload 1 dL_areOrdersRight_74 rfl ?_
      refine x_cV1 (As := [.int _]) (q_snd ok C (by assumption)) vL_78 rfl (x_rcC C) rfl ⟨ble rfl, ble rfl⟩ (ble rfl) dL_areOrdersRight_76 rfl ?_
      first | refine x_aload_n 5 dL_areOrdersRight_79 rfl rfl ?_ | refine x_aload_nN 5 dL_areOrdersRight_79 rfl rfl ?_
      refine x_iload 0 dL_areOrdersRight_80 rfl ?_
      refine x_cV1 (As := [.int _]) (q_snd ok C (by assumption)) vL_78 rfl (x_rcC C) rfl ⟨ble rfl, ble rfl⟩ (ble rfl) dL_areOrdersRight_82 rfl ?_
      refine x_icmp_ne 117 dL_areOrdersRight_85 (by decide) (fun z => by first | exact absurd z ((oab.resolve_left c70).1) | exact absurd ((oab.resolve_left c70).1) z) (fun _ => ?_)
      refine x_iload 1 dL_areOrdersRight_88 rfl ?_
      refine x_iload 0 dL_areOrdersRight_90 rfl ?_
      refine x_icmp_ge 117 dL_areOrdersRight_92 (by decide) (fun z => by first | exact absurd z (nI_ge (oab.resolve_left c70).2 (by omega)) | exact absurd (nI_ge (oab.resolve_left c70).2 (by omega)) z) (fun _ => ?_)
      first | refine x_aload_n 5 dL_areOrdersRight_95 rfl rfl ?_ | refine x_aload_nN 5 dL_areOrdersRight_95 rfl rfl ?_
      refine x_iload 1 dL_areOrdersRight_96 rfl ?_
      refine x_cS1 (As := [.ref _, .int _]) (ct_isInShop ok C (by assumption)) vL_94 rfl rfl ⟨ble rfl, ble rfl⟩ (ble rfl) dL_areOrdersRight_98 rfl ?_
      refine x_if_eq 117 dL_areOrdersRight_101 (by decide) (fun z => by first | exact absurd z (inS_1 ua) | exact absurd (inS_1 ua) z) (fun _ => ?_)
      first | refine x_aload_n 5 dL_areOrdersRight_104 rfl rfl ?_ | refine x_aload_nN 5 dL_areOrdersRight_104 rfl rfl ?_
      refine x_iload 0 dL_areOrdersRight_105 rfl ?_
      refine x_cS1 (As := [.ref _, .int _]) (ct_isInShop ok C (by assumption)) vL_94 rfl rfl ⟨ble rfl, ble rfl⟩ (ble rfl) dL_areOrdersRight_107 rfl ?_
      refine x_if_eq 117 dL_areOrdersRight_110 (by decide) (fun z => by first | exact absurd z (inS_1 ub) | exact absurd (inS_1 ub) z) (fun _ => ?_)
      refine x_iconst (v := 1) dL_areOrdersRight_113 rfl ?_
      refine x_goto 118 dL_areOrdersRight_114 (by decide) ?_
      refine x_istore (L' := [(4, _), (7, _), (6, _), (5, _), (3, _), (0, _), (1, _), (2, _)]) dL_areOrdersRight_118 (ble rfl) rfl ?_
      refine x_iinc (L' := [(5, _), (4, _), (7, _), (6, _), (3, _), (0, _), (1, _), (2, _)]) (j := 3) (nI (_ + 1)) dL_areOrdersRight_120 rfl (nI_1 _) (ble rfl) rfl ?_
      refine x_goto 25 dL_areOrdersRight_123 (by decide) ?_
      refine x_locs (L' := [(5, _), (4, _), (3, _), (0, _), (1, _), (2, _)]) [0, 1, 4, 5, 6, 7] rfl ?_
      exact ao_a ok R kk n (k + 1) _ (by omega) (by omega) (by omega) C
set_option maxRecDepth 100000 in
set_option maxHeartbeats 4000000 in
theorem ao_i {l : Launch} {G : Gl} {N : Nat → Int32} {ns np no : Nat} {x y : Int32} (ok : Ok G) (R : RI N ns np no) {h : Hp} (C : Cs G h N ns np no) {nr : Int32} {p : Nat} (hp : p < np) (kk : XX l G mL_areOrdersRight (Rm 8 0 0) (KQ G (Rm 8 0 0) (fun w h' => w = some (.int 1) ∧ Cs G h' N ns np no)) 0 0 342 [(6, .int (nI p)), (5, .int nr), (4, .int 1), (3, .int ((sm (fun a => sm (alM N a) (np - (a + 1))) (p)) + sm (fun i => pairF N p (p + 1 + i)) (np - (p + 1)))), (0, .ref (Ad G 0)), (1, .int x), (2, .int y)] [] h) : ∀ (n q : Nat), q + n = np → p < q → XX l G mL_areOrdersRight (Rm 8 0 0) (KQ G (Rm 8 0 0) (fun w h' => w = some (.int 1) ∧ Cs G h' N ns np no)) 0 0 230 [(8, .int (nI (q))), (6, .int (nI p)), (5, .int nr), (4, .int 1), (3, .int ((sm (fun a => sm (alM N a) (np - (a + 1))) (p)) + sm (fun i => pairF N p (p + 1 + i)) (q - (p + 1)))), (0, .ref (Ad G 0)), (1, .int x), (2, .int y)] [] h
  | 0, q, hq, hpq => by
    obtain rfl : q = np := by omega
    refine x_iload 0 dL_areOrdersRight_230 rfl ?_
    first | refine x_aload_n 5 dL_areOrdersRight_232 rfl rfl ?_ | refine x_aload_nN 5 dL_areOrdersRight_232 rfl rfl ?_
    refine x_iconst (v := 3) dL_areOrdersRight_233 rfl ?_
    refine x_cV1 (As := [.int _]) (q_ac3n ok C) vL_28 rfl (x_rcC C) rfl ⟨ble rfl, ble rfl⟩ (ble rfl) dL_areOrdersRight_234 rfl ?_
    refine x_icmp_ge 342 dL_areOrdersRight_237 (by decide) (fun _ => ?_) (fun z => by first | exact absurd (Int32.le_refl _) z | exact absurd z (Int32.le_refl _))
    refine x_locs (L' := [(6, _), (5, _), (4, _), (3, _), (0, _), (1, _), (2, _)]) [1, 2, 3, 4, 5, 6, 7] rfl ?_
    exact kk
  | n + 1, q, hq, hpq => by
    have hqn : q < np := by omega
    have b3 := C.nn.2.2.2.2.1
    have AP := R.1.2.2.2.2.2.2.1
    have es := pairF_s AP hp hqn
    refine x_iload 0 dL_areOrdersRight_230 rfl ?_
    first | refine x_aload_n 5 dL_areOrdersRight_232 rfl rfl ?_ | refine x_aload_nN 5 dL_areOrdersRight_232 rfl rfl ?_
    refine x_iconst (v := 3) dL_areOrdersRight_233 rfl ?_
    refine x_cV1 (As := [.int _]) (q_ac3n ok C) vL_28 rfl (x_rcC C) rfl ⟨ble rfl, ble rfl⟩ (ble rfl) dL_areOrdersRight_234 rfl ?_
    refine x_icmp_ge 342 dL_areOrdersRight_237 (by decide) (fun z => by first | exact absurd z (nI_ge hqn (by omega)) | exact absurd (nI_ge hqn (by omega)) z) (fun _ => ?_)
    first | refine x_aload_n 5 dL_areOrdersRight_240 rfl rfl ?_ | refine x_aload_nN 5 dL_areOrdersRight_240 rfl rfl ?_
    refine x_iload 1 dL_areOrdersRight_241 rfl ?_
    refine x_cV1 (As := [.int _]) (q_snd ok C (by assumption)) vL_78 rfl (x_rcC C) rfl ⟨ble rfl, ble rfl⟩ (ble rfl) dL_areOrdersRight_243 rfl ?_
    first | refine x_aload_n 5 dL_areOrdersRight_246 rfl rfl ?_ | refine x_aload_nN 5 dL_areOrdersRight_246 rfl rfl ?_
    refine x_iload 0 dL_areOrdersRight_247 rfl ?_
    refine x_cV1 (As := [.int _]) (q_snd ok C (by assumption)) vL_78 rfl (x_rcC C) rfl ⟨ble rfl, ble rfl⟩ (ble rfl) dL_areOrdersRight_249 rfl ?_
    refine x_isub dL_areOrdersRight_252 ?_
    refine x_mabs rfl wL_125 wMabs2 wMath3 wMabs4 (ble rfl) (ble rfl) dL_areOrdersRight_253 ?_
    refine x_iconst (v := 2) dL_areOrdersRight_256 rfl ?_
    have J265 : ∀ (v : Int32), v = (alK (snM N p) (snM N q)) → XX l G mL_areOrdersRight (Rm 8 0 0) (KQ G (Rm 8 0 0) (fun w h' => w = some (.int 1) ∧ Cs G h' N ns np no)) 0 0 265 [(8, .int (nI q)), (6, .int (nI p)), (5, .int nr), (4, .int 1), (3, .int ((sm (fun a => sm (alM N a) (np - (a + 1))) (p)) + sm (fun i => pairF N p (p + 1 + i)) (q - (p + 1)))), (0, .ref (Ad G 0)), (1, .int x), (2, .int y)] [.int v] h := by
      intro v ev
      subst ev
      refine x_istore (L' := [(9, _), (8, _), (6, _), (5, _), (4, _), (3, _), (0, _), (1, _), (2, _)]) dL_areOrdersRight_265 (ble rfl) rfl ?_
      refine x_iload 4 dL_areOrdersRight_267 rfl ?_
      refine x_if_eq 302 dL_areOrdersRight_269 (by decide) (fun z => by first | exact absurd z (by decide) | exact absurd (by decide) z) (fun _ => ?_)
      first | refine x_aload_n 6 dL_areOrdersRight_272 rfl rfl ?_ | refine x_aload_nN 6 dL_areOrdersRight_272 rfl rfl ?_
      refine x_iload 2 dL_areOrdersRight_273 rfl ?_
      refine x_iload 1 dL_areOrdersRight_275 rfl ?_
      refine x_cV1 (As := [.int _, .int _]) (q_al ok C (by assumption) (by assumption)) vL_128 rfl (x_rcC C) rfl ⟨ble rfl, ble rfl⟩ (ble rfl) dL_areOrdersRight_277 rfl ?_
      refine x_iload 0 dL_areOrdersRight_280 rfl ?_
      refine x_icmp_ne 302 dL_areOrdersRight_282 (by decide) (fun z => by first | exact absurd z (rfl) | exact absurd (rfl) z) (fun _ => ?_)
      first | refine x_aload_n 6 dL_areOrdersRight_285 rfl rfl ?_ | refine x_aload_nN 6 dL_areOrdersRight_285 rfl rfl ?_
      refine x_iload 1 dL_areOrdersRight_286 rfl ?_
      refine x_iload 2 dL_areOrdersRight_288 rfl ?_
      refine x_cV1 (As := [.int _, .int _]) (q_al ok C (by assumption) (by assumption)) vL_128 rfl (x_rcC C) rfl ⟨ble rfl, ble rfl⟩ (ble rfl) dL_areOrdersRight_290 rfl ?_
      refine x_iload 0 dL_areOrdersRight_293 rfl ?_
      refine x_icmp_ne 302 dL_areOrdersRight_295 (by decide) (fun z => by first | exact absurd z (es) | exact absurd (es) z) (fun _ => ?_)
      refine x_iconst (v := 1) dL_areOrdersRight_298 rfl ?_
      refine x_goto 303 dL_areOrdersRight_299 (by decide) ?_
      refine x_istore (L' := [(4, _), (9, _), (8, _), (6, _), (5, _), (3, _), (0, _), (1, _), (2, _)]) dL_areOrdersRight_303 (ble rfl) rfl ?_
      refine x_iload_n 5 dL_areOrdersRight_305 rfl rfl ?_
      refine x_iload 1 dL_areOrdersRight_306 rfl ?_
      have J334 : ∀ (v : Int32), v = pairF N p q → XX l G mL_areOrdersRight (Rm 8 0 0) (KQ G (Rm 8 0 0) (fun w h' => w = some (.int 1) ∧ Cs G h' N ns np no)) 0 0 334 [(8, .int (nI q)), (6, .int (nI p)), (5, .int nr), (4, .int 1), (0, .ref (Ad G 0)), (1, .int x), (2, .int y)] [.int v, .int ((sm (fun a => sm (alM N a) (np - (a + 1))) (p)) + sm (fun i => pairF N p (p + 1 + i)) (q - (p + 1)))] h := by
        intro v ev
        subst ev
        refine x_iadd dL_areOrdersRight_334 ?_
        refine x_istore_n (L' := [(3, _), (8, _), (6, _), (5, _), (4, _), (0, _), (1, _), (2, _)]) dL_areOrdersRight_335 rfl (ble rfl) rfl ?_
        refine x_iinc (L' := [(8, _), (3, _), (6, _), (5, _), (4, _), (0, _), (1, _), (2, _)]) (j := 1) (nI (_ + 1)) dL_areOrdersRight_336 rfl (nI_1 _) (ble rfl) rfl ?_
        refine x_goto 230 dL_areOrdersRight_339 (by decide) ?_
        refine x_locs (L' := [(8, _), (6, _), (5, _), (4, _), (3, _), (0, _), (1, _), (2, _)]) [0, 2, 3, 4, 1, 5, 6, 7] rfl ?_
        refine x_eqL (L' := [(8, .int (nI (q + 1))), (6, .int (nI p)), (5, .int nr), (4, .int 1), (3, .int ((sm (fun a => sm (alM N a) (np - (a + 1))) (p)) + sm (fun i => pairF N p (p + 1 + i)) (q + 1 - (p + 1)))), (0, .ref (Ad G 0)), (1, .int x), (2, .int y)]) (by rw [show q + 1 - (p + 1) = (q - (p + 1)) + 1 by omega, sm_s, show p + 1 + (q - (p + 1)) = q by omega, Int32.add_assoc]) ?_
        exact ao_i ok R C hp kk n (q + 1) (by omega) (by omega)
      refine x_if_eq 333 dL_areOrdersRight_308 (by decide) (fun c308 => ?_) (fun c308 => ?_)
      · refine x_iconst (v := 0) dL_areOrdersRight_333 rfl ?_
        refine x_locs (L' := [(8, _), (6, _), (5, _), (4, _), (0, _), (1, _), (2, _)]) [2, 3, 4, 0, 6, 7, 8] rfl ?_
        first | exact J334 _ (pF_d c317 c326 c308) | exact J334 _ (pF_a c308) | exact J334 _ (pF_b c317) | exact J334 _ (pF_c c326)
      · first | refine x_aload_n 6 dL_areOrdersRight_311 rfl rfl ?_ | refine x_aload_nN 6 dL_areOrdersRight_311 rfl rfl ?_
        refine x_iload 3 dL_areOrdersRight_312 rfl ?_
        refine x_cS1 (As := [.ref _, .int _]) (ct_isInShop ok C (by assumption)) vL_94 rfl rfl ⟨ble rfl, ble rfl⟩ (ble rfl) dL_areOrdersRight_314 rfl ?_
        refine x_if_eq 333 dL_areOrdersRight_317 (by decide) (fun c317 => ?_) (fun c317 => ?_)
        · refine x_iconst (v := 0) dL_areOrdersRight_333 rfl ?_
          refine x_locs (L' := [(8, _), (6, _), (5, _), (4, _), (0, _), (1, _), (2, _)]) [2, 3, 4, 0, 6, 7, 8] rfl ?_
          first | exact J334 _ (pF_d c317 c326 c308) | exact J334 _ (pF_a c308) | exact J334 _ (pF_b c317) | exact J334 _ (pF_c c326)
        · first | refine x_aload_n 6 dL_areOrdersRight_320 rfl rfl ?_ | refine x_aload_nN 6 dL_areOrdersRight_320 rfl rfl ?_
          refine x_iload 2 dL_areOrdersRight_321 rfl ?_
          refine x_cS1 (As := [.ref _, .int _]) (ct_isInShop ok C (by assumption)) vL_94 rfl rfl ⟨ble rfl, ble rfl⟩ (ble rfl) dL_areOrdersRight_323 rfl ?_
          refine x_if_eq 333 dL_areOrdersRight_326 (by decide) (fun c326 => ?_) (fun c326 => ?_)
          · refine x_iconst (v := 0) dL_areOrdersRight_333 rfl ?_
            refine x_locs (L' := [(8, _), (6, _), (5, _), (4, _), (0, _), (1, _), (2, _)]) [2, 3, 4, 0, 6, 7, 8] rfl ?_
            first | exact J334 _ (pF_d c317 c326 c308) | exact J334 _ (pF_a c308) | exact J334 _ (pF_b c317) | exact J334 _ (pF_c c326)
          · refine x_iconst (v := 1) dL_areOrdersRight_329 rfl ?_
            refine x_goto 334 dL_areOrdersRight_330 (by decide) ?_
            refine x_locs (L' := [(8, _), (6, _), (5, _), (4, _), (0, _), (1, _), (2, _)]) [2, 3, 4, 0, 6, 7, 8] rfl ?_
            first | exact J334 _ (pF_d c317 c326 c308) | exact J334 _ (pF_a c308) | exact J334 _ (pF_b c317) | exact J334 _ (pF_c c326)
    refine x_icmp_gt 264 dL_areOrdersRight_257 (by decide) (fun c257 => ?_) (fun c257 => ?_)
    · refine x_iconst (v := 0) dL_areOrdersRight_264 rfl ?_
      refine x_locs (L' := [(8, _), (6, _), (5, _), (4, _), (3, _), (0, _), (1, _), (2, _)]) [0, 1, 2, 3, 4, 5, 6, 7] rfl ?_
      exact J265 _ (by rw [alK_e]; first | rw [if_pos (Int32.not_lt.mp c257)] | rw [if_neg (Int32.not_le.mpr c257)])
    · refine x_iconst (v := 1) dL_areOrdersRight_260 rfl ?_
      refine x_goto 265 dL_areOrdersRight_261 (by decide) ?_
      refine x_locs (L' := [(8, _), (6, _), (5, _), (4, _), (3, _), (0, _), (1, _), (2, _)]) [0, 1, 2, 3, 4, 5, 6, 7] rfl ?_
      exact J265 _ (by rw [alK_e]; first | rw [if_pos (Int32.not_lt.mp c257)] | rw [if_neg (Int32.not_le.mpr c257)])
set_option maxRecDepth 100000 in
set_option maxHeartbeats 4000000 in
theorem ao_b {l : Launch} {G : Gl} {N : Nat → Int32} {ns np no : Nat} {x y : Int32} (ok : Ok G) (R : RI N ns np no) {h : Hp} (C : Cs G h N ns np no) {nr : Int32} (hnr : nr = nrM N y np) (kk : XX l G mL_areOrdersRight (Rm 8 0 0) (KQ G (Rm 8 0 0) (fun w h' => w = some (.int 1) ∧ Cs G h' N ns np no)) 0 0 348 [(5, .int nr), (4, .int 1), (3, .int (sm (fun a => sm (alM N a) (np - (a + 1))) (np))), (0, .ref (Ad G 0)), (1, .int x), (2, .int y)] [] h) : ∀ (n p : Nat), p + n = np → XX l G mL_areOrdersRight (Rm 8 0 0) (KQ G (Rm 8 0 0) (fun w h' => w = some (.int 1) ∧ Cs G h' N ns np no)) 0 0 136 [(6, .int (nI (p))), (5, .int nr), (4, .int 1), (3, .int (sm (fun a => sm (alM N a) (np - (a + 1))) (p))), (0, .ref (Ad G 0)), (1, .int x), (2, .int y)] [] h
  | 0, p, hp => by
    obtain rfl : p = np := by omega
    refine x_iload 0 dL_areOrdersRight_136 rfl ?_
    first | refine x_aload_n 4 dL_areOrdersRight_138 rfl rfl ?_ | refine x_aload_nN 4 dL_areOrdersRight_138 rfl rfl ?_
    refine x_iconst (v := 3) dL_areOrdersRight_139 rfl ?_
    refine x_cV1 (As := [.int _]) (q_ac3n ok C) vL_28 rfl (x_rcC C) rfl ⟨ble rfl, ble rfl⟩ (ble rfl) dL_areOrdersRight_140 rfl ?_
    refine x_icmp_ge 348 dL_areOrdersRight_143 (by decide) (fun _ => ?_) (fun z => by first | exact absurd (Int32.le_refl _) z | exact absurd z (Int32.le_refl _))
    refine x_locs (L' := [(5, _), (4, _), (3, _), (0, _), (1, _), (2, _)]) [1, 2, 3, 4, 5, 6] rfl ?_
    exact kk
  | n + 1, p, hp => by
    have hpn : p < np := by omega
    have b3 := C.nn.2.2.2.2.1
    have AP := R.1.2.2.2.2.2.2.1
    have k342 : XX l G mL_areOrdersRight (Rm 8 0 0) (KQ G (Rm 8 0 0) (fun w h' => w = some (.int 1) ∧ Cs G h' N ns np no)) 0 0 342 [(6, .int (nI p)), (5, .int nr), (4, .int 1), (3, .int ((sm (fun a => sm (alM N a) (np - (a + 1))) (p)) + sm (fun i => pairF N p (p + 1 + i)) (np - (p + 1)))), (0, .ref (Ad G 0)), (1, .int x), (2, .int y)] [] h := by
      refine x_iinc (L' := [(6, _), (5, _), (4, _), (3, _), (0, _), (1, _), (2, _)]) (j := 0) (nI (_ + 1)) dL_areOrdersRight_342 rfl (nI_1 _) (ble rfl) rfl ?_
      refine x_goto 136 dL_areOrdersRight_345 (by decide) ?_
      refine x_locs (L' := [(6, _), (5, _), (4, _), (3, _), (0, _), (1, _), (2, _)]) [0, 1, 2, 3, 4, 5, 6] rfl ?_
      refine x_eqL (L' := [(6, .int (nI (p + 1))), (5, .int nr), (4, .int 1), (3, .int (sm (fun a => sm (alM N a) (np - (a + 1))) (p + 1))), (0, .ref (Ad G 0)), (1, .int x), (2, .int y)]) (by rw [sm_s, show sm (alM N p) (np - (p + 1)) = sm (fun i => pairF N p (p + 1 + i)) (np - (p + 1)) from rfl]) ?_
      exact ao_b ok R C hnr kk n (p + 1) (by omega)
    have k217 : XX l G mL_areOrdersRight (Rm 8 0 0) (KQ G (Rm 8 0 0) (fun w h' => w = some (.int 1) ∧ Cs G h' N ns np no)) 0 0 217 [(6, .int (nI (p))), (5, .int nr), (4, .int 1), (3, .int (sm (fun a => sm (alM N a) (np - (a + 1))) (p))), (0, .ref (Ad G 0)), (1, .int x), (2, .int y)] [] h := by
      refine x_iconst (v := 1) dL_areOrdersRight_217 rfl ?_
      refine x_goto 222 dL_areOrdersRight_218 (by decide) ?_
      refine x_istore (L' := [(4, _), (6, _), (5, _), (3, _), (0, _), (1, _), (2, _)]) dL_areOrdersRight_222 (ble rfl) rfl ?_
      refine x_iload 1 dL_areOrdersRight_224 rfl ?_
      refine x_iconst (v := 1) dL_areOrdersRight_226 rfl ?_
      refine x_iadd dL_areOrdersRight_227 ?_
      rw [show nI p + 1 = nI (p + 1) from nI_1 p]
      refine x_istore (L' := [(8, _), (4, _), (6, _), (5, _), (3, _), (0, _), (1, _), (2, _)]) dL_areOrdersRight_228 (ble rfl) rfl ?_
      refine x_locs (L' := [(8, _), (6, _), (5, _), (4, _), (3, _), (0, _), (1, _), (2, _)]) [0, 2, 3, 1, 4, 5, 6, 7] rfl ?_
      refine x_eqL (L' := [(8, .int (nI (p + 1))), (6, .int (nI p)), (5, .int nr), (4, .int 1), (3, .int ((sm (fun a => sm (alM N a) (np - (a + 1))) (p)) + sm (fun i => pairF N p (p + 1 + i)) (p + 1 - (p + 1)))), (0, .ref (Ad G 0)), (1, .int x), (2, .int y)]) (by rw [Nat.sub_self, show sm (fun i => pairF N p (p + 1 + i)) 0 = 0 from rfl, Int32.add_zero]) ?_
      exact ao_i ok R C hpn k342 (np - (p + 1)) (p + 1) (by omega) (by omega)
    refine x_iload 0 dL_areOrdersRight_136 rfl ?_
    first | refine x_aload_n 4 dL_areOrdersRight_138 rfl rfl ?_ | refine x_aload_nN 4 dL_areOrdersRight_138 rfl rfl ?_
    refine x_iconst (v := 3) dL_areOrdersRight_139 rfl ?_
    refine x_cV1 (As := [.int _]) (q_ac3n ok C) vL_28 rfl (x_rcC C) rfl ⟨ble rfl, ble rfl⟩ (ble rfl) dL_areOrdersRight_140 rfl ?_
    refine x_icmp_ge 348 dL_areOrdersRight_143 (by decide) (fun z => by first | exact absurd z (nI_ge hpn (by omega)) | exact absurd (nI_ge hpn (by omega)) z) (fun _ => ?_)
    first | refine x_aload_n 4 dL_areOrdersRight_146 rfl rfl ?_ | refine x_aload_nN 4 dL_areOrdersRight_146 rfl rfl ?_
    refine x_iload 0 dL_areOrdersRight_147 rfl ?_
    refine x_cV1 (As := [.int _]) (q_snd ok C (by assumption)) vL_78 rfl (x_rcC C) rfl ⟨ble rfl, ble rfl⟩ (ble rfl) dL_areOrdersRight_149 rfl ?_
    refine x_iload_n 6 dL_areOrdersRight_152 rfl rfl ?_
    refine x_isub dL_areOrdersRight_153 ?_
    refine x_mabs rfl wL_125 wMabs2 wMath3 wMabs4 (ble rfl) (ble rfl) dL_areOrdersRight_154 ?_
    refine x_istore (L' := [(7, _), (6, _), (5, _), (4, _), (3, _), (0, _), (1, _), (2, _)]) dL_areOrdersRight_157 (ble rfl) rfl ?_
    refine x_iload 3 dL_areOrdersRight_159 rfl ?_
    refine x_if_eq 221 dL_areOrdersRight_161 (by decide) (fun z => by first | exact absurd z (by decide) | exact absurd (by decide) z) (fun _ => ?_)
    first | refine x_aload_n 5 dL_areOrdersRight_164 rfl rfl ?_ | refine x_aload_nN 5 dL_areOrdersRight_164 rfl rfl ?_
    refine x_iload 1 dL_areOrdersRight_165 rfl ?_
    refine x_cS1 (As := [.ref _, .int _]) (ct_isInShop ok C (by assumption)) vL_94 rfl rfl ⟨ble rfl, ble rfl⟩ (ble rfl) dL_areOrdersRight_167 rfl ?_
    refine x_if_eq 217 dL_areOrdersRight_170 (by decide) (fun c170 => ?_) (fun c170 => ?_)
    · refine x_locs (L' := [(6, _), (5, _), (4, _), (3, _), (0, _), (1, _), (2, _)]) [1, 2, 3, 4, 5, 6, 7] rfl ?_
      first | exact k217 | (rw [← enr]; exact k217)
    · obtain ⟨b, hb, ub, eb, mb⟩ := nr_f N y np b3 p hpn (inS_0 c170)
      have enr : nr = nI b := hnr.trans eb
      rw [enr]
      refine x_iload 2 dL_areOrdersRight_173 rfl ?_
      refine x_if_lt 221 dL_areOrdersRight_175 (by decide) (fun z => by first | exact absurd z (nI_pos (by omega)) | exact absurd (nI_pos (by omega)) z) (fun _ => ?_)
      first | refine x_aload_n 5 dL_areOrdersRight_178 rfl rfl ?_ | refine x_aload_nN 5 dL_areOrdersRight_178 rfl rfl ?_
      refine x_iload 2 dL_areOrdersRight_179 rfl ?_
      refine x_cV1 (As := [.int _]) (q_snd ok C (by assumption)) vL_78 rfl (x_rcC C) rfl ⟨ble rfl, ble rfl⟩ (ble rfl) dL_areOrdersRight_181 rfl ?_
      refine x_iload_n 7 dL_areOrdersRight_184 rfl rfl ?_
      refine x_isub dL_areOrdersRight_185 ?_
      refine x_mabs rfl wL_125 wMabs2 wMath3 wMabs4 (ble rfl) (ble rfl) dL_areOrdersRight_186 ?_
      refine x_iload 0 dL_areOrdersRight_189 rfl ?_
      refine x_icmp_lt 217 dL_areOrdersRight_191 (by decide) (fun c191 => ?_) (fun c191 => ?_)
      · refine x_locs (L' := [(6, _), (5, _), (4, _), (3, _), (0, _), (1, _), (2, _)]) [1, 2, 3, 4, 5, 6, 7] rfl ?_
        first | exact k217 | (rw [← enr]; exact k217)
      · first | refine x_aload_n 5 dL_areOrdersRight_194 rfl rfl ?_ | refine x_aload_nN 5 dL_areOrdersRight_194 rfl rfl ?_
        refine x_iload 2 dL_areOrdersRight_195 rfl ?_
        refine x_cV1 (As := [.int _]) (q_snd ok C (by assumption)) vL_78 rfl (x_rcC C) rfl ⟨ble rfl, ble rfl⟩ (ble rfl) dL_areOrdersRight_197 rfl ?_
        refine x_iload_n 7 dL_areOrdersRight_200 rfl rfl ?_
        refine x_isub dL_areOrdersRight_201 ?_
        refine x_mabs rfl wL_125 wMabs2 wMath3 wMabs4 (ble rfl) (ble rfl) dL_areOrdersRight_202 ?_
        refine x_iload 0 dL_areOrdersRight_205 rfl ?_
        refine x_icmp_ne 221 dL_areOrdersRight_207 (by decide) (fun z => by first | exact absurd z ((mb.resolve_left c191).1) | exact absurd ((mb.resolve_left c191).1) z) (fun _ => ?_)
        refine x_iload 2 dL_areOrdersRight_210 rfl ?_
        refine x_iload 1 dL_areOrdersRight_212 rfl ?_
        refine x_icmp_gt 221 dL_areOrdersRight_214 (by decide) (fun z => by first | exact absurd z (nI_nlt (mb.resolve_left c191).2 (by omega)) | exact absurd (nI_nlt (mb.resolve_left c191).2 (by omega)) z) (fun _ => ?_)
        refine x_locs (L' := [(6, _), (5, _), (4, _), (3, _), (0, _), (1, _), (2, _)]) [1, 2, 3, 4, 5, 6, 7] rfl ?_
        first | exact k217 | (rw [← enr]; exact k217)
set_option maxRecDepth 100000 in
set_option maxHeartbeats 4000000 in
theorem ao_p0 {l : Launch} {G : Gl} {N : Nat → Int32} {ns np no : Nat} {x y : Int32} (ok : Ok G) (R : RI N ns np no) {nr al : Int32} (kk : ∀ (h : Hp) (c : Nat) (z8 z7 : Int32), Cs G h N ns np no → PEn N np x c → XX l G mL_areOrdersRight (Rm 8 0 0) (KQ G (Rm 8 0 0) (fun w h' => w = some (.int 1) ∧ Cs G h' N ns np no)) 0 0 449 [(8, .int z8), (7, .int z7), (6, .int (nI c)), (5, .int nr), (4, .int 1), (3, .int al), (0, .ref (Ad G 0)), (1, .int x), (2, .int y)] [] h) (h : Hp) (c k : Nat) (hk : k < 1000) (C : Cs G h N ns np no) (E : PEn N np x c) : XX l G mL_areOrdersRight (Rm 8 0 0) (KQ G (Rm 8 0 0) (fun w h' => w = some (.int 1) ∧ Cs G h' N ns np no)) 0 0 375 [(8, .int (nI k)), (7, .int 0), (6, .int (nI c)), (5, .int nr), (4, .int 1), (3, .int al), (0, .ref (Ad G 0)), (1, .int x), (2, .int y)] [] h := by
  rcases k with _ | k
  · refine x_iload 0 dL_areOrdersRight_375 rfl ?_
    refine x_if_le 449 dL_areOrdersRight_377 (by decide) (fun _ => ?_) (fun z => by first | exact absurd (by decide) z | exact absurd z (by decide))
    refine x_locs (L' := [(8, _), (7, _), (6, _), (5, _), (4, _), (3, _), (0, _), (1, _), (2, _)]) [0, 1, 2, 3, 4, 5, 6, 7, 8] rfl ?_
    exact kk _ c _ _ C E
  · refine x_iload 0 dL_areOrdersRight_375 rfl ?_
    refine x_if_le 449 dL_areOrdersRight_377 (by decide) (fun z => by first | exact absurd z (nI_lez (by omega)) | exact absurd (nI_lez (by omega)) z) (fun _ => ?_)
    refine x_iload 1 dL_areOrdersRight_380 rfl ?_
    refine x_if_eq 449 dL_areOrdersRight_382 (by decide) (fun _ => ?_) (fun z => by first | exact absurd (by decide) z | exact absurd z (by decide))
    refine x_locs (L' := [(8, _), (7, _), (6, _), (5, _), (4, _), (3, _), (0, _), (1, _), (2, _)]) [0, 1, 2, 3, 4, 5, 6, 7, 8] rfl ?_
    exact kk _ c _ _ C E
set_option maxRecDepth 100000 in
set_option maxHeartbeats 4000000 in
theorem ao_p {l : Launch} {G : Gl} {N : Nat → Int32} {ns np no : Nat} {x y : Int32} (ok : Ok G) (R : RI N ns np no) (hx1 : 1 ≤ x) {nr al : Int32} (kk : ∀ (h : Hp) (c : Nat) (z8 z7 : Int32), Cs G h N ns np no → PEn N np x c → XX l G mL_areOrdersRight (Rm 8 0 0) (KQ G (Rm 8 0 0) (fun w h' => w = some (.int 1) ∧ Cs G h' N ns np no)) 0 0 449 [(8, .int z8), (7, .int z7), (6, .int (nI c)), (5, .int nr), (4, .int 1), (3, .int al), (0, .ref (Ad G 0)), (1, .int x), (2, .int y)] [] h) : ∀ (k c : Nat) (h : Hp), k < shN N np → Cs G h N ns np no → PGo N np x c k → XX l G mL_areOrdersRight (Rm 8 0 0) (KQ G (Rm 8 0 0) (fun w h' => w = some (.int 1) ∧ Cs G h' N ns np no)) 0 0 375 [(8, .int (nI k)), (7, .int 1), (6, .int (nI c)), (5, .int nr), (4, .int 1), (3, .int al), (0, .ref (Ad G 0)), (1, .int x), (2, .int y)] [] h
  | 0, c, h, hk, C, G0 => by
    have AP := R.1.2.2.2.2.2.2.1
    refine x_iload 0 dL_areOrdersRight_375 rfl ?_
    refine x_if_le 449 dL_areOrdersRight_377 (by decide) (fun _ => ?_) (fun z => by first | exact absurd (by decide) z | exact absurd z (by decide))
    refine x_locs (L' := [(8, _), (7, _), (6, _), (5, _), (4, _), (3, _), (0, _), (1, _), (2, _)]) [0, 1, 2, 3, 4, 5, 6, 7, 8] rfl ?_
    exact kk _ c _ _ C (pg_e AP G0)
  | k + 1, c, h, hk, C, G0 => by
    have hnp := C.nn.2.2.2.2.1
    have hml := shN_le N np
    have AP := R.1.2.2.2.2.2.2.1
    obtain ⟨a, ha, ua, ea⟩ := rank_ex AP (k := k + 1) hk
    obtain ⟨b, hb, ub, eb⟩ := rank_ex AP (k := k) (by omega)
    have PG := pg_s AP G0 ha ua ea hb ub eb
    refine x_iload 0 dL_areOrdersRight_375 rfl ?_
    refine x_if_le 449 dL_areOrdersRight_377 (by decide) (fun z => by first | exact absurd z (nI_lez (by omega)) | exact absurd (nI_lez (by omega)) z) (fun _ => ?_)
    refine x_iload 1 dL_areOrdersRight_380 rfl ?_
    refine x_if_eq 449 dL_areOrdersRight_382 (by decide) (fun z => by first | exact absurd z (by decide) | exact absurd (by decide) z) (fun _ => ?_)
    first | refine x_aload_n 6 dL_areOrdersRight_385 rfl rfl ?_ | refine x_aload_nN 6 dL_areOrdersRight_385 rfl rfl ?_
    first | refine x_aload_n 6 dL_areOrdersRight_386 rfl rfl ?_ | refine x_aload_nN 6 dL_areOrdersRight_386 rfl rfl ?_
    refine x_iload 0 dL_areOrdersRight_387 rfl ?_
    refine x_iconst (v := 1) dL_areOrdersRight_389 rfl ?_
    refine x_isub dL_areOrdersRight_390 ?_
    rw [show nI (k + 1) - 1 = nI k by rw [show (1 : Int32) = nI 1 from rfl, nI_sub' (by omega), Nat.add_sub_cancel]]
    refine x_pV1 (mc1 := 0) (ms1 := 0) (As := [.int _]) (q_rk ok C _) vL_119 rfl (x_rcC C) rfl ⟨ble rfl, ble rfl⟩ (ble rfl) dL_areOrdersRight_391 rfl ⟨by omega, by omega⟩ (fun h391 q391 => ?_)
    clear C
    have C := q391
    rw [rk_v AP hnp hb ub eb]
    refine x_cV1 (As := [.int _]) (q_snd ok C (by assumption)) vL_78 rfl (x_rcC C) rfl ⟨ble rfl, ble rfl⟩ (ble rfl) dL_areOrdersRight_394 rfl ?_
    first | refine x_aload_n 6 dL_areOrdersRight_397 rfl rfl ?_ | refine x_aload_nN 6 dL_areOrdersRight_397 rfl rfl ?_
    first | refine x_aload_n 6 dL_areOrdersRight_398 rfl rfl ?_ | refine x_aload_nN 6 dL_areOrdersRight_398 rfl rfl ?_
    refine x_iload 0 dL_areOrdersRight_399 rfl ?_
    refine x_pV1 (mc1 := 0) (ms1 := 0) (As := [.int _]) (q_rk ok C _) vL_119 rfl (x_rcC C) rfl ⟨ble rfl, ble rfl⟩ (ble rfl) dL_areOrdersRight_401 rfl ⟨by omega, by omega⟩ (fun h401 q401 => ?_)
    clear C
    have C := q401
    rw [rk_v AP hnp ha ua ea]
    refine x_cV1 (As := [.int _]) (q_snd ok C (by assumption)) vL_78 rfl (x_rcC C) rfl ⟨ble rfl, ble rfl⟩ (ble rfl) dL_areOrdersRight_404 rfl ?_
    refine x_isub dL_areOrdersRight_407 ?_
    refine x_istore (L' := [(9, _), (8, _), (7, _), (6, _), (5, _), (4, _), (3, _), (0, _), (1, _), (2, _)]) dL_areOrdersRight_408 (ble rfl) rfl ?_
    refine x_iload 0 dL_areOrdersRight_410 rfl ?_
    refine x_iload_n 8 dL_areOrdersRight_412 rfl rfl ?_
    refine x_icmp_gt 420 dL_areOrdersRight_413 (by decide) (fun c413 => ?_) (fun c413 => ?_)
    · refine x_iconst (v := 0) dL_areOrdersRight_420 rfl ?_
      refine x_istore (L' := [(7, _), (9, _), (8, _), (6, _), (5, _), (4, _), (3, _), (0, _), (1, _), (2, _)]) dL_areOrdersRight_421 (ble rfl) rfl ?_
      refine x_iload 3 dL_areOrdersRight_423 rfl ?_
      refine x_iload 0 dL_areOrdersRight_425 rfl ?_
      refine x_if_eq 439 dL_areOrdersRight_427 (by decide) (fun _ => ?_) (fun z => by first | exact absurd (by decide) z | exact absurd z (by decide))
      refine x_iconst (v := 0) dL_areOrdersRight_439 rfl ?_
      refine x_iadd dL_areOrdersRight_440 ?_
      refine x_istore (L' := [(6, _), (7, _), (9, _), (8, _), (5, _), (4, _), (3, _), (0, _), (1, _), (2, _)]) dL_areOrdersRight_441 (ble rfl) rfl ?_
      refine x_iinc (L' := [(8, _), (6, _), (7, _), (9, _), (5, _), (4, _), (3, _), (0, _), (1, _), (2, _)]) (j := 3) (_ + (-1)) dL_areOrdersRight_443 rfl rfl (ble rfl) rfl ?_
      refine x_goto 375 dL_areOrdersRight_446 (by decide) ?_
      refine x_locs (L' := [(8, _), (7, _), (6, _), (5, _), (4, _), (3, _), (0, _), (1, _), (2, _)]) [0, 2, 1, 4, 5, 6, 7, 8, 9] rfl ?_
      refine x_eqL (L' := [(8, .int (nI k)), (7, .int 0), (6, .int (nI c)), (5, .int nr), (4, .int 1), (3, .int al), (0, .ref (Ad G 0)), (1, .int x), (2, .int y)]) (by rw [show nI (k + 1) + -1 = nI k by rw [← Int32.sub_eq_add_neg, show (1 : Int32) = nI 1 from rfl, nI_sub' (by omega), Nat.add_sub_cancel], Int32.add_zero]) ?_
      have hd := Int32.not_le.mpr c413
      rcases PG with ⟨z, _⟩ | ⟨z, _, g2⟩
      · exact absurd (by rw [z, Int32.sub_self]; exact Int32.le_trans (show (0 : Int32) ≤ 1 by decide) hx1) hd
      · exact ao_p0 ok R kk _ c k (by omega) C (g2 hd)
    · refine x_iconst (v := 1) dL_areOrdersRight_416 rfl ?_
      refine x_goto 421 dL_areOrdersRight_417 (by decide) ?_
      refine x_istore (L' := [(7, _), (9, _), (8, _), (6, _), (5, _), (4, _), (3, _), (0, _), (1, _), (2, _)]) dL_areOrdersRight_421 (ble rfl) rfl ?_
      refine x_iload 3 dL_areOrdersRight_423 rfl ?_
      refine x_iload 0 dL_areOrdersRight_425 rfl ?_
      refine x_if_eq 439 dL_areOrdersRight_427 (by decide) (fun z => by first | exact absurd z (by decide) | exact absurd (by decide) z) (fun _ => ?_)
      refine x_iload 1 dL_areOrdersRight_430 rfl ?_
      refine x_if_le 439 dL_areOrdersRight_432 (by decide) (fun c432 => ?_) (fun c432 => ?_)
      · refine x_iconst (v := 0) dL_areOrdersRight_439 rfl ?_
        refine x_iadd dL_areOrdersRight_440 ?_
        refine x_istore (L' := [(6, _), (7, _), (9, _), (8, _), (5, _), (4, _), (3, _), (0, _), (1, _), (2, _)]) dL_areOrdersRight_441 (ble rfl) rfl ?_
        refine x_iinc (L' := [(8, _), (6, _), (7, _), (9, _), (5, _), (4, _), (3, _), (0, _), (1, _), (2, _)]) (j := 3) (_ + (-1)) dL_areOrdersRight_443 rfl rfl (ble rfl) rfl ?_
        refine x_goto 375 dL_areOrdersRight_446 (by decide) ?_
        refine x_locs (L' := [(8, _), (7, _), (6, _), (5, _), (4, _), (3, _), (0, _), (1, _), (2, _)]) [0, 2, 1, 4, 5, 6, 7, 8, 9] rfl ?_
        refine x_eqL (L' := [(8, .int (nI k)), (7, .int 1), (6, .int (nI c)), (5, .int nr), (4, .int 1), (3, .int al), (0, .ref (Ad G 0)), (1, .int x), (2, .int y)]) (by rw [show nI (k + 1) + -1 = nI k by rw [← Int32.sub_eq_add_neg, show (1 : Int32) = nI 1 from rfl, nI_sub' (by omega), Nat.add_sub_cancel], Int32.add_zero]) ?_
        rcases PG with ⟨z, g1⟩ | ⟨z, g1, _⟩
        · exact ao_p ok R hx1 kk k c _ (by omega) C g1
        · exact absurd c432 (dif_p (AP a ha) (AP b hb) z)
      · refine x_iconst (v := 1) dL_areOrdersRight_435 rfl ?_
        refine x_goto 440 dL_areOrdersRight_436 (by decide) ?_
        refine x_iadd dL_areOrdersRight_440 ?_
        refine x_istore (L' := [(6, _), (7, _), (9, _), (8, _), (5, _), (4, _), (3, _), (0, _), (1, _), (2, _)]) dL_areOrdersRight_441 (ble rfl) rfl ?_
        refine x_iinc (L' := [(8, _), (6, _), (7, _), (9, _), (5, _), (4, _), (3, _), (0, _), (1, _), (2, _)]) (j := 3) (_ + (-1)) dL_areOrdersRight_443 rfl rfl (ble rfl) rfl ?_
        refine x_goto 375 dL_areOrdersRight_446 (by decide) ?_
        refine x_locs (L' := [(8, _), (7, _), (6, _), (5, _), (4, _), (3, _), (0, _), (1, _), (2, _)]) [0, 2, 1, 4, 5, 6, 7, 8, 9] rfl ?_
        refine x_eqL (L' := [(8, .int (nI k)), (7, .int 1), (6, .int (nI (c + 1))), (5, .int nr), (4, .int 1), (3, .int al), (0, .ref (Ad G 0)), (1, .int x), (2, .int y)]) (by rw [show nI (k + 1) + -1 = nI k by rw [← Int32.sub_eq_add_neg, show (1 : Int32) = nI 1 from rfl, nI_sub' (by omega), Nat.add_sub_cancel], show nI c + 1 = nI (c + 1) from nI_1 c]) ?_
        rcases PG with ⟨z, g1⟩ | ⟨z, g1, _⟩
        · exact absurd (by rw [z, Int32.sub_self]; exact Int32.le_refl _) c432
        · exact ao_p ok R hx1 kk k (c + 1) _ (by omega) C (g1 (Int32.not_lt.mp c413))
set_option maxRecDepth 100000 in
set_option maxHeartbeats 4000000 in
theorem ct_areOrdersRight {l : Launch} {G : Gl} {N : Nat → Int32} {ns np no : Nat} {x y : Int32} (ok : Ok G) (R : RI N ns np no) (hx1 : 1 ≤ x) (hx2 : x ≤ 20) (hy1 : 0 ≤ y) (hy2 : y ≤ 120) {h : Hp} (C : Cs G h N ns np no) : Ct l G mL_areOrdersRight 8 0 0 [.ref (Ad G 0), .int x, .int y] h (fun w h' => w = some (.int 1) ∧ Cs G h' N ns np no) := by
  refine Ct.of (L := [(0, _), (1, _), (2, _)]) (by decide) (ble rfl) rfl ?_
  have AP := R.1.2.2.2.2.2.2.1
  have hnp := C.nn.2.2.2.2.1
  have hml := shN_le N np
  have hx0 : 0 ≤ x := Int32.le_trans (show (0 : Int32) ≤ 1 by decide) hx1
  have hxr : ¬ (x < 1 ∨ 20 < x) := fun z => z.elim (Int32.not_lt.mpr hx1) (Int32.not_lt.mpr hx2)
  have hyr : ¬ (y < 0 ∨ 120 < y) := fun z => z.elim (Int32.not_lt.mpr hy1) (Int32.not_lt.mpr hy2)
  have eal : sm (fun i => sm (prI (lz N np) i) i) np = sm (fun a => sm (alM N a) (np - (a + 1))) np := alike_e AP
  have enr : clS (lz N np) y np = nrM N y np := nr_v AP hnp y
  have k449 : ∀ (h : Hp) (c : Nat) (z8 z7 : Int32), Cs G h N ns np no → PEn N np x c → XX l G mL_areOrdersRight (Rm 8 0 0) (KQ G (Rm 8 0 0) (fun w h' => w = some (.int 1) ∧ Cs G h' N ns np no)) 0 0 449 [(8, .int z8), (7, .int z7), (6, .int (nI c)), (5, .int (nrM N y np)), (4, .int 1), (3, .int (sm (fun a => sm (alM N a) (np - (a + 1))) (np))), (0, .ref (Ad G 0)), (1, .int x), (2, .int y)] [] h := by
    intro h c z8 z7 C E
    have ep := E.v AP hnp hx0
    by_cases m0 : shN N np = 0
    · refine x_iload 4 dL_areOrdersRight_449 rfl ?_
      refine x_if_eq 504 dL_areOrdersRight_451 (by decide) (fun z => by first | exact absurd z (by decide) | exact absurd (by decide) z) (fun _ => ?_)
      refine x_iload_n 5 dL_areOrdersRight_454 rfl rfl ?_
      first | refine x_aload_n 6 dL_areOrdersRight_455 rfl rfl ?_ | refine x_aload_nN 6 dL_areOrdersRight_455 rfl rfl ?_
      refine x_pV1 (mc1 := 0) (ms1 := 0) (As := []) (q_ak ok C) vL_132 rfl (x_rcC C) rfl ⟨ble rfl, ble rfl⟩ (ble rfl) dL_areOrdersRight_456 rfl ⟨by omega, by omega⟩ (fun h456 q456 => ?_)
      clear C
      have C := q456
      rw [eal]
      refine x_icmp_ne 504 dL_areOrdersRight_459 (by decide) (fun z => by first | exact absurd z (rfl) | exact absurd (rfl) z) (fun _ => ?_)
      refine x_iload 2 dL_areOrdersRight_462 rfl ?_
      first | refine x_aload_n 6 dL_areOrdersRight_464 rfl rfl ?_ | refine x_aload_nN 6 dL_areOrdersRight_464 rfl rfl ?_
      refine x_iload_n 7 dL_areOrdersRight_465 rfl rfl ?_
      refine x_pV1 (mc1 := 0) (ms1 := 0) (As := [.int _]) (q_pl ok C _ hxr) vL_135 rfl (x_rcC C) rfl ⟨ble rfl, ble rfl⟩ (ble rfl) dL_areOrdersRight_466 rfl ⟨by omega, by omega⟩ (fun h466 q466 => ?_)
      clear C
      have C := q466
      refine x_icmp_ne 504 dL_areOrdersRight_469 (by decide) (fun z => by first | exact absurd z (ep.symm) | exact absurd (ep.symm) z) (fun _ => ?_)
      refine x_iload 3 dL_areOrdersRight_472 rfl ?_
      refine x_bipush (v := -4) dL_areOrdersRight_474 rfl ?_
      refine x_icmp_ne 483 dL_areOrdersRight_476 (by decide) (fun z => by first | exact absurd z ((nr_no hnp AP y).mpr m0) | exact absurd ((nr_no hnp AP y).mpr m0) z) (fun _ => ?_)
      refine x_iconst (v := 1) dL_areOrdersRight_479 rfl ?_
      refine x_goto 484 dL_areOrdersRight_480 (by decide) ?_
      first | refine x_aload_n 6 dL_areOrdersRight_484 rfl rfl ?_ | refine x_aload_nN 6 dL_areOrdersRight_484 rfl rfl ?_
      refine x_iconst (v := 4) dL_areOrdersRight_485 rfl ?_
      refine x_cV1 (As := [.int _]) (q_ac4m ok C R) vL_28 rfl (x_rcC C) rfl ⟨ble rfl, ble rfl⟩ (ble rfl) dL_areOrdersRight_486 rfl ?_
      refine x_if_ne 496 dL_areOrdersRight_489 (by decide) (fun z => by first | exact absurd z (nI_00 m0) | exact absurd (nI_00 m0) z) (fun _ => ?_)
      refine x_iconst (v := 1) dL_areOrdersRight_492 rfl ?_
      refine x_goto 497 dL_areOrdersRight_493 (by decide) ?_
      refine x_icmp_ne 504 dL_areOrdersRight_497 (by decide) (fun z => by first | exact absurd z (rfl) | exact absurd (rfl) z) (fun _ => ?_)
      refine x_iconst (v := 1) dL_areOrdersRight_500 rfl ?_
      refine x_goto 505 dL_areOrdersRight_501 (by decide) ?_
      refine x_zret rfl (by first | rfl | (split <;> rfl) | (unfold b2i; split <;> rfl)) dL_areOrdersRight_505 ?_
      exact ⟨rfl, C⟩
    · refine x_iload 4 dL_areOrdersRight_449 rfl ?_
      refine x_if_eq 504 dL_areOrdersRight_451 (by decide) (fun z => by first | exact absurd z (by decide) | exact absurd (by decide) z) (fun _ => ?_)
      refine x_iload_n 5 dL_areOrdersRight_454 rfl rfl ?_
      first | refine x_aload_n 6 dL_areOrdersRight_455 rfl rfl ?_ | refine x_aload_nN 6 dL_areOrdersRight_455 rfl rfl ?_
      refine x_pV1 (mc1 := 0) (ms1 := 0) (As := []) (q_ak ok C) vL_132 rfl (x_rcC C) rfl ⟨ble rfl, ble rfl⟩ (ble rfl) dL_areOrdersRight_456 rfl ⟨by omega, by omega⟩ (fun h456 q456 => ?_)
      clear C
      have C := q456
      rw [eal]
      refine x_icmp_ne 504 dL_areOrdersRight_459 (by decide) (fun z => by first | exact absurd z (rfl) | exact absurd (rfl) z) (fun _ => ?_)
      refine x_iload 2 dL_areOrdersRight_462 rfl ?_
      first | refine x_aload_n 6 dL_areOrdersRight_464 rfl rfl ?_ | refine x_aload_nN 6 dL_areOrdersRight_464 rfl rfl ?_
      refine x_iload_n 7 dL_areOrdersRight_465 rfl rfl ?_
      refine x_pV1 (mc1 := 0) (ms1 := 0) (As := [.int _]) (q_pl ok C _ hxr) vL_135 rfl (x_rcC C) rfl ⟨ble rfl, ble rfl⟩ (ble rfl) dL_areOrdersRight_466 rfl ⟨by omega, by omega⟩ (fun h466 q466 => ?_)
      clear C
      have C := q466
      refine x_icmp_ne 504 dL_areOrdersRight_469 (by decide) (fun z => by first | exact absurd z (ep.symm) | exact absurd (ep.symm) z) (fun _ => ?_)
      refine x_iload 3 dL_areOrdersRight_472 rfl ?_
      refine x_bipush (v := -4) dL_areOrdersRight_474 rfl ?_
      refine x_icmp_ne 483 dL_areOrdersRight_476 (by decide) (fun _ => ?_) (fun z => by first | exact absurd (fun z => m0 ((nr_no hnp AP y).mp z)) z | exact absurd z (fun z => m0 ((nr_no hnp AP y).mp z)))
      refine x_iconst (v := 0) dL_areOrdersRight_483 rfl ?_
      first | refine x_aload_n 6 dL_areOrdersRight_484 rfl rfl ?_ | refine x_aload_nN 6 dL_areOrdersRight_484 rfl rfl ?_
      refine x_iconst (v := 4) dL_areOrdersRight_485 rfl ?_
      refine x_cV1 (As := [.int _]) (q_ac4m ok C R) vL_28 rfl (x_rcC C) rfl ⟨ble rfl, ble rfl⟩ (ble rfl) dL_areOrdersRight_486 rfl ?_
      refine x_if_ne 496 dL_areOrdersRight_489 (by decide) (fun _ => ?_) (fun z => by first | exact absurd (fun z => m0 ((nI_eq (b := 0) (by omega) (by omega)).mp z)) z | exact absurd z (fun z => m0 ((nI_eq (b := 0) (by omega) (by omega)).mp z)))
      refine x_iconst (v := 0) dL_areOrdersRight_496 rfl ?_
      refine x_icmp_ne 504 dL_areOrdersRight_497 (by decide) (fun z => by first | exact absurd z (rfl) | exact absurd (rfl) z) (fun _ => ?_)
      refine x_iconst (v := 1) dL_areOrdersRight_500 rfl ?_
      refine x_goto 505 dL_areOrdersRight_501 (by decide) ?_
      refine x_zret rfl (by first | rfl | (split <;> rfl) | (unfold b2i; split <;> rfl)) dL_areOrdersRight_505 ?_
      exact ⟨rfl, C⟩
  have k348 : ∀ h, Cs G h N ns np no → XX l G mL_areOrdersRight (Rm 8 0 0) (KQ G (Rm 8 0 0) (fun w h' => w = some (.int 1) ∧ Cs G h' N ns np no)) 0 0 348 [(5, .int (nrM N y np)), (4, .int 1), (3, .int (sm (fun a => sm (alM N a) (np - (a + 1))) (np))), (0, .ref (Ad G 0)), (1, .int x), (2, .int y)] [] h := by
    intro h C
    by_cases m0 : shN N np = 0
    · first | refine x_aload_n 3 dL_areOrdersRight_348 rfl rfl ?_ | refine x_aload_nN 3 dL_areOrdersRight_348 rfl rfl ?_
      refine x_iconst (v := 4) dL_areOrdersRight_349 rfl ?_
      refine x_cV1 (As := [.int _]) (q_ac4m ok C R) vL_28 rfl (x_rcC C) rfl ⟨ble rfl, ble rfl⟩ (ble rfl) dL_areOrdersRight_350 rfl ?_
      refine x_if_ne 360 dL_areOrdersRight_353 (by decide) (fun z => by first | exact absurd z (nI_00 m0) | exact absurd (nI_00 m0) z) (fun _ => ?_)
      refine x_iconst (v := 0) dL_areOrdersRight_356 rfl ?_
      refine x_goto 361 dL_areOrdersRight_357 (by decide) ?_
      refine x_istore (L' := [(6, _), (5, _), (4, _), (3, _), (0, _), (1, _), (2, _)]) dL_areOrdersRight_361 (ble rfl) rfl ?_
      refine x_iconst (v := 1) dL_areOrdersRight_363 rfl ?_
      refine x_istore (L' := [(7, _), (6, _), (5, _), (4, _), (3, _), (0, _), (1, _), (2, _)]) dL_areOrdersRight_364 (ble rfl) rfl ?_
      first | refine x_aload_n 5 dL_areOrdersRight_366 rfl rfl ?_ | refine x_aload_nN 5 dL_areOrdersRight_366 rfl rfl ?_
      refine x_iconst (v := 4) dL_areOrdersRight_367 rfl ?_
      refine x_cV1 (As := [.int _]) (q_ac4m ok C R) vL_28 rfl (x_rcC C) rfl ⟨ble rfl, ble rfl⟩ (ble rfl) dL_areOrdersRight_368 rfl ?_
      refine x_iconst (v := 1) dL_areOrdersRight_371 rfl ?_
      refine x_isub dL_areOrdersRight_372 ?_
      refine x_istore (L' := [(8, _), (7, _), (6, _), (5, _), (4, _), (3, _), (0, _), (1, _), (2, _)]) dL_areOrdersRight_373 (ble rfl) rfl ?_
      refine x_iload 0 dL_areOrdersRight_375 rfl ?_
      refine x_if_le 449 dL_areOrdersRight_377 (by decide) (fun _ => ?_) (fun z => by first | exact absurd (by rw [m0]; decide) z | exact absurd z (by rw [m0]; decide))
      refine x_locs (L' := [(8, _), (7, _), (6, _), (5, _), (4, _), (3, _), (0, _), (1, _), (2, _)]) [0, 1, 2, 3, 4, 5, 6, 7, 8] rfl ?_
      exact k449 _ 0 _ _ C (pe_0 AP m0)
    · first | refine x_aload_n 3 dL_areOrdersRight_348 rfl rfl ?_ | refine x_aload_nN 3 dL_areOrdersRight_348 rfl rfl ?_
      refine x_iconst (v := 4) dL_areOrdersRight_349 rfl ?_
      refine x_cV1 (As := [.int _]) (q_ac4m ok C R) vL_28 rfl (x_rcC C) rfl ⟨ble rfl, ble rfl⟩ (ble rfl) dL_areOrdersRight_350 rfl ?_
      refine x_if_ne 360 dL_areOrdersRight_353 (by decide) (fun _ => ?_) (fun z => by first | exact absurd (fun z => m0 ((nI_eq (b := 0) (by omega) (by omega)).mp z)) z | exact absurd z (fun z => m0 ((nI_eq (b := 0) (by omega) (by omega)).mp z)))
      refine x_iconst (v := 1) dL_areOrdersRight_360 rfl ?_
      refine x_istore (L' := [(6, _), (5, _), (4, _), (3, _), (0, _), (1, _), (2, _)]) dL_areOrdersRight_361 (ble rfl) rfl ?_
      refine x_iconst (v := 1) dL_areOrdersRight_363 rfl ?_
      refine x_istore (L' := [(7, _), (6, _), (5, _), (4, _), (3, _), (0, _), (1, _), (2, _)]) dL_areOrdersRight_364 (ble rfl) rfl ?_
      first | refine x_aload_n 5 dL_areOrdersRight_366 rfl rfl ?_ | refine x_aload_nN 5 dL_areOrdersRight_366 rfl rfl ?_
      refine x_iconst (v := 4) dL_areOrdersRight_367 rfl ?_
      refine x_cV1 (As := [.int _]) (q_ac4m ok C R) vL_28 rfl (x_rcC C) rfl ⟨ble rfl, ble rfl⟩ (ble rfl) dL_areOrdersRight_368 rfl ?_
      refine x_iconst (v := 1) dL_areOrdersRight_371 rfl ?_
      refine x_isub dL_areOrdersRight_372 ?_
      refine x_istore (L' := [(8, _), (7, _), (6, _), (5, _), (4, _), (3, _), (0, _), (1, _), (2, _)]) dL_areOrdersRight_373 (ble rfl) rfl ?_
      refine x_locs (L' := [(8, _), (7, _), (6, _), (5, _), (4, _), (3, _), (0, _), (1, _), (2, _)]) [0, 1, 2, 3, 4, 5, 6, 7, 8] rfl ?_
      refine x_eqL (L' := [(8, .int (nI (shN N np - 1))), (7, .int 1), (6, .int (nI 1)), (5, .int (nrM N y np)), (4, .int 1), (3, .int (sm (fun a => sm (alM N a) (np - (a + 1))) (np))), (0, .ref (Ad G 0)), (1, .int x), (2, .int y)]) (by rw [show nI (shN N np) - 1 = nI (shN N np - 1) from nI_sub' (Nat.pos_of_ne_zero m0)] <;> rfl) ?_
      exact ao_p ok R hx1 k449 (shN N np - 1) 1 _ (by omega) C (pg_0 AP hx0 (Nat.pos_of_ne_zero m0))
  have k126 : ∀ h, Cs G h N ns np no → XX l G mL_areOrdersRight (Rm 8 0 0) (KQ G (Rm 8 0 0) (fun w h' => w = some (.int 1) ∧ Cs G h' N ns np no)) 0 0 126 [(4, .int 1), (3, .int 0), (0, .ref (Ad G 0)), (1, .int x), (2, .int y)] [] h := by
    intro h C
    first | refine x_aload_n 2 dL_areOrdersRight_126 rfl rfl ?_ | refine x_aload_nN 2 dL_areOrdersRight_126 rfl rfl ?_
    refine x_iload_n 4 dL_areOrdersRight_127 rfl rfl ?_
    refine x_pV1 (mc1 := 0) (ms1 := 0) (As := [.int _]) (q_nr ok C _ hyr) vL_122 rfl (x_rcC C) rfl ⟨ble rfl, ble rfl⟩ (ble rfl) dL_areOrdersRight_128 rfl ⟨by omega, by omega⟩ (fun h128 q128 => ?_)
    clear C
    have C := q128
    rw [enr]
    refine x_istore (L' := [(5, _), (4, _), (3, _), (0, _), (1, _), (2, _)]) dL_areOrdersRight_131 (ble rfl) rfl ?_
    refine x_iconst (v := 0) dL_areOrdersRight_133 rfl ?_
    refine x_istore (L' := [(6, _), (5, _), (4, _), (3, _), (0, _), (1, _), (2, _)]) dL_areOrdersRight_134 (ble rfl) rfl ?_
    refine x_locs (L' := [(6, _), (5, _), (4, _), (3, _), (0, _), (1, _), (2, _)]) [0, 1, 2, 3, 4, 5, 6] rfl ?_
    exact ao_b ok R C rfl (k348 _ C) np 0 (by omega)
  refine x_iconst (v := 0) dL_areOrdersRight_0 rfl ?_
  refine x_istore_n (L' := [(3, _), (0, _), (1, _), (2, _)]) dL_areOrdersRight_1 rfl (ble rfl) rfl ?_
  first | refine x_aload_n 1 dL_areOrdersRight_2 rfl rfl ?_ | refine x_aload_nN 1 dL_areOrdersRight_2 rfl rfl ?_
  first | refine x_aload_n 1 dL_areOrdersRight_3 rfl rfl ?_ | refine x_aload_nN 1 dL_areOrdersRight_3 rfl rfl ?_
  refine x_iconst (v := 4) dL_areOrdersRight_4 rfl ?_
  refine x_cV1 (As := [.int _]) (q_ac4m ok C R) vL_28 rfl (x_rcC C) rfl ⟨ble rfl, ble rfl⟩ (ble rfl) dL_areOrdersRight_5 rfl ?_
  refine x_pV1 (mc1 := 0) (ms1 := 0) (As := [.int _]) (q_rk ok C _) vL_119 rfl (x_rcC C) rfl ⟨ble rfl, ble rfl⟩ (ble rfl) dL_areOrdersRight_8 rfl ⟨by omega, by omega⟩ (fun h8 q8 => ?_)
  clear C
  have C := q8
  rw [rk_0 AP hnp]
  refine x_iconst (v := -1) dL_areOrdersRight_11 rfl ?_
  refine x_icmp_ne 19 dL_areOrdersRight_12 (by decide) (fun z => by first | exact absurd z (rfl) | exact absurd (rfl) z) (fun _ => ?_)
  refine x_iconst (v := 1) dL_areOrdersRight_15 rfl ?_
  refine x_goto 20 dL_areOrdersRight_16 (by decide) ?_
  refine x_istore (L' := [(4, _), (3, _), (0, _), (1, _), (2, _)]) dL_areOrdersRight_20 (ble rfl) rfl ?_
  refine x_iconst (v := 1) dL_areOrdersRight_22 rfl ?_
  refine x_istore (L' := [(5, _), (4, _), (3, _), (0, _), (1, _), (2, _)]) dL_areOrdersRight_23 (ble rfl) rfl ?_
  refine x_locs (L' := [(5, _), (4, _), (3, _), (0, _), (1, _), (2, _)]) [0, 1, 2, 3, 4, 5] rfl ?_
  exact ao_a ok R k126 (shN N np - 1) 1 _ (by omega) (by omega) (by omega) C
