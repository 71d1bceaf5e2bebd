/-! ===== the law: its small methods, what it lays, what it does ===== -/
set_option maxRecDepth 100000 in
theorem ct_areaOf0 {l : Launch} {G : Gl} {h : Hp} : CtR l G mL_areaOf 1 [.int (kNum 0)] h (some (.int (kArea 0))) h := by
  refine Ct.of (L := [(0, _)]) (by decide) (ble rfl) rfl ?_
  refine x_iload_n 0 dL_areaOf_0 rfl rfl ?_
  refine x_if_ne 9 dL_areaOf_1 (by decide) (fun z => by first | exact absurd z (by decide) | exact absurd (by decide) z) (fun _ => ?_)
  refine x_bipush (v := 12) dL_areaOf_4 rfl ?_
  refine x_goto 21 dL_areaOf_6 (by decide) ?_
  refine x_iret rfl dL_areaOf_21 ?_
  show some (Value.int (kArea 0)) = some (Value.int (kArea 0)) ∧ h = h
  exact ⟨rfl, rfl⟩
set_option maxRecDepth 100000 in
theorem ct_areaOf1 {l : Launch} {G : Gl} {h : Hp} : CtR l G mL_areaOf 1 [.int (kNum 1)] h (some (.int (kArea 1))) h := by
  refine Ct.of (L := [(0, _)]) (by decide) (ble rfl) rfl ?_
  refine x_iload_n 0 dL_areaOf_0 rfl rfl ?_
  refine x_if_ne 9 dL_areaOf_1 (by decide) (fun _ => ?_) (fun z => by first | exact absurd (by decide) z | exact absurd z (by decide))
  refine x_iload_n 0 dL_areaOf_9 rfl rfl ?_
  refine x_iconst (v := 1) dL_areaOf_10 rfl ?_
  refine x_icmp_ne 19 dL_areaOf_11 (by decide) (fun z => by first | exact absurd z (by decide) | exact absurd (by decide) z) (fun _ => ?_)
  refine x_bipush (v := 8) dL_areaOf_14 rfl ?_
  refine x_goto 21 dL_areaOf_16 (by decide) ?_
  refine x_iret rfl dL_areaOf_21 ?_
  show some (Value.int (kArea 1)) = some (Value.int (kArea 1)) ∧ h = h
  exact ⟨rfl, rfl⟩
set_option maxRecDepth 100000 in
theorem ct_areaOf2 {l : Launch} {G : Gl} {h : Hp} : CtR l G mL_areaOf 1 [.int (kNum 2)] h (some (.int (kArea 2))) h := by
  refine Ct.of (L := [(0, _)]) (by decide) (ble rfl) rfl ?_
  refine x_iload_n 0 dL_areaOf_0 rfl rfl ?_
  refine x_if_ne 9 dL_areaOf_1 (by decide) (fun _ => ?_) (fun z => by first | exact absurd (by decide) z | exact absurd z (by decide))
  refine x_iload_n 0 dL_areaOf_9 rfl rfl ?_
  refine x_iconst (v := 1) dL_areaOf_10 rfl ?_
  refine x_icmp_ne 19 dL_areaOf_11 (by decide) (fun _ => ?_) (fun z => by first | exact absurd (by decide) z | exact absurd z (by decide))
  refine x_bipush (v := 20) dL_areaOf_19 rfl ?_
  refine x_iret rfl dL_areaOf_21 ?_
  show some (Value.int (kArea 2)) = some (Value.int (kArea 2)) ∧ h = h
  exact ⟨rfl, rfl⟩
theorem ct_areaOf {l : Launch} {G : Gl} {h : Hp} {k : Nat} (hk : k < 3) : CtR l G mL_areaOf 1 [.int (kNum k)] h (some (.int (kArea k))) h := by
  rcases (show k = 0 ∨ k = 1 ∨ k = 2 by omega) with rfl | rfl | rfl
  · exact ct_areaOf0
  · exact ct_areaOf1
  · exact ct_areaOf2
/-- is it in the shop -/
def inS (N : Nat → Int32) (i : Nat) : Int32 := if N (66 + 8 * i) = -4 then 1 else 0
set_option maxRecDepth 100000 in
set_option maxHeartbeats 2000000 in
theorem ct_isInShop {l : Launch} {G : Gl} {h : Hp} {N : Nat → Int32} {ns np no : Nat} (ok : Ok G) (C : Cs G h N ns np no) {i : Nat} (hi : i < np) : Ct l G mL_isInShop 7 0 0 [.ref (Ad G 0), .int (nI i)] h (fun w h' => w = some (.int (inS N i)) ∧ h' = h) := by
  refine Ct.of (L := [(0, _), (1, _)]) (by decide) (ble rfl) rfl ?_
  first | refine x_aload_n 0 dL_isInShop_0 rfl rfl ?_ | refine x_aload_nN 0 dL_isInShop_0 rfl rfl ?_
  refine x_iload_n 1 dL_isInShop_1 rfl rfl ?_
  refine x_bipush (v := 8) dL_isInShop_2 rfl ?_
  refine x_cV1 (As := [.int _, .int _]) (q_pt8 ok C (by assumption)) vL_66 rfl (x_rcC C) rfl ⟨ble rfl, ble rfl⟩ (ble rfl) dL_isInShop_4 rfl ?_
  refine x_bipush (v := -4) dL_isInShop_7 rfl ?_
  refine x_icmp_ne 16 dL_isInShop_9 (by decide) (fun c9 => ?_) (fun c9 => ?_)
  · refine x_iconst (v := 0) dL_isInShop_16 rfl ?_
    refine x_zret rfl (by first | rfl | (split <;> rfl) | (unfold b2i; split <;> rfl)) dL_isInShop_17 ?_
    exact ⟨by unfold inS; first | rw [if_pos c9] | rw [if_neg c9], rfl⟩
  · refine x_iconst (v := 1) dL_isInShop_12 rfl ?_
    refine x_goto 17 dL_isInShop_13 (by decide) ?_
    refine x_zret rfl (by first | rfl | (split <;> rfl) | (unfold b2i; split <;> rfl)) dL_isInShop_17 ?_
    exact ⟨by unfold inS; first | rw [if_pos c9] | rw [if_neg c9], rfl⟩
theorem hf_0 : ∀ t, t < 10 → kHalf 0 * nI t / 2 = nI t := by decide +kernel
theorem hf_1 : ∀ t, t < 10 → kHalf 1 * nI t / 2 = 2 * nI t := by decide +kernel
theorem hf_2 : ∀ t, t < 10 → kHalf 2 * nI t / 2 = nI t / 2 := by decide +kernel
theorem snM_0 {N : Nat → Int32} {i : Nat} (h : thickK (kOf (N (60 + 8 * i))) (N (61 + 8 * i)) (N (62 + 8 * i)) = 0) : snM N i = 0 := by unfold snM ringK; exact if_pos h
theorem snM_1 {N : Nat → Int32} {i : Nat} (h : ¬ thickK (kOf (N (60 + 8 * i))) (N (61 + 8 * i)) (N (62 + 8 * i)) = 0) : snM N i = kBare (kOf (N (60 + 8 * i))) + kThk (kOf (N (60 + 8 * i))) * thickK (kOf (N (60 + 8 * i))) (N (61 + 8 * i)) (N (62 + 8 * i)) - kHalf (kOf (N (60 + 8 * i))) * N (63 + 8 * i) / 2 + (if smoothK (kOf (N (60 + 8 * i))) (N (62 + 8 * i)) = 1 then 2 else 0) := by
  unfold snM ringK smoothK
  rw [if_neg h]
  by_cases q : N (62 + 8 * i) < kSm (kOf (N (60 + 8 * i)))
  · rw [if_pos q, if_pos q, if_neg (by decide), Int32.add_zero]
  · rw [if_neg q, if_neg q, if_pos rfl]
set_option maxRecDepth 100000 in
set_option maxHeartbeats 2000000 in
theorem ct_soundOf {l : Launch} {G : Gl} {h : Hp} {N : Nat → Int32} {ns np no : Nat} (ok : Ok G) (C : Cs G h N ns np no) {i : Nat} (P : PotI N i) (hi : i < np) : Ct l G mL_soundOf 7 0 0 [.ref (Ad G 0), .int (nI i)] h (fun w h' => w = some (.int (snM N i)) ∧ h' = h) := by
  refine Ct.of (L := [(0, _), (1, _)]) (by decide) (ble rfl) rfl ?_
  obtain ⟨pk, -, -, ⟨t, ht, ht9⟩, -⟩ := P
  have hk3 := pk.2
  have e0 := hf_0 t (by omega)
  have e1 := hf_1 t (by omega)
  have e2 := hf_2 t (by omega)
  have s0 := snM_0 (N := N) (i := i)
  have s1 := snM_1 (N := N) (i := i)
  have J : ∀ (k : Nat) (hk : k < 3) (b s : Int32), (kOf (N (60 + 8 * i))) = k → b = kBare k + kThk k * thickK (kOf (N (60 + 8 * i))) (N (61 + 8 * i)) (N (62 + 8 * i)) - kHalf k * N (63 + 8 * i) / 2 → s = (if smoothK (kOf (N (60 + 8 * i))) (N (62 + 8 * i)) = 1 then 2 else 0) → XX l G mL_soundOf (Rm 7 0 0) (KQ G (Rm 7 0 0) (fun w h' => w = some (.int (snM N i)) ∧ h' = h)) 0 0 88 [(6, .int b), (5, .int s), (3, .int (thickK (kOf (N (60 + 8 * i))) (N (61 + 8 * i)) (N (62 + 8 * i))))] [] h := by
    intro k hk b s ek eb es
    refine x_iload_n 2 dL_soundOf_88 rfl rfl ?_
    refine x_if_ne 96 dL_soundOf_89 (by decide) (fun c89 => ?_) (fun c89 => ?_)
    · refine x_iload 0 dL_soundOf_96 rfl ?_
      refine x_iload 1 dL_soundOf_98 rfl ?_
      refine x_iadd dL_soundOf_100 ?_
      refine x_iret rfl dL_soundOf_101 ?_
      refine ⟨congrArg (fun z => some (Value.int z)) ?_, rfl⟩
      first | exact (s0 c89).symm | (rw [s1 c89, eb, es, ek])
    · refine x_iconst (v := 0) dL_soundOf_92 rfl ?_
      refine x_goto 101 dL_soundOf_93 (by decide) ?_
      refine x_iret rfl dL_soundOf_101 ?_
      refine ⟨congrArg (fun z => some (Value.int z)) ?_, rfl⟩
      first | exact (s0 c89).symm | (rw [s1 c89, eb, es, ek])
  have J2 : ∀ s : Int32, s = (if smoothK (kOf (N (60 + 8 * i))) (N (62 + 8 * i)) = 1 then 2 else 0) → XX l G mL_soundOf (Rm 7 0 0) (KQ G (Rm 7 0 0) (fun w h' => w = some (.int (snM N i)) ∧ h' = h)) 0 0 40 [(5, .int s), (4, .int (N (63 + 8 * i))), (3, .int (thickK (kOf (N (60 + 8 * i))) (N (61 + 8 * i)) (N (62 + 8 * i)))), (2, .int (kNum (kOf (N (60 + 8 * i)))))] [] h := by
    intro s es
    rcases (show (kOf (N (60 + 8 * i))) = 0 ∨ (kOf (N (60 + 8 * i))) = 1 ∨ (kOf (N (60 + 8 * i))) = 2 by omega) with ek | ek | ek
    · refine x_iload_n 3 dL_soundOf_40 rfl rfl ?_
      refine x_if_ne 56 dL_soundOf_41 (by decide) (fun z => by first | exact absurd z (by rw [ek]; decide) | exact absurd (by rw [ek]; decide) z) (fun _ => ?_)
      refine x_bipush (v := 30) dL_soundOf_44 rfl ?_
      refine x_iconst (v := 5) dL_soundOf_46 rfl ?_
      refine x_iload_n 2 dL_soundOf_47 rfl rfl ?_
      refine x_imul dL_soundOf_48 ?_
      refine x_iadd dL_soundOf_49 ?_
      refine x_iload 1 dL_soundOf_50 rfl ?_
      refine x_isub dL_soundOf_52 ?_
      refine x_goto 86 dL_soundOf_53 (by decide) ?_
      refine x_istore (L' := [(6, _), (5, _), (4, _), (3, _), (2, _)]) dL_soundOf_86 (ble rfl) rfl ?_
      refine x_locs (L' := [(6, _), (5, _), (3, _)]) [0, 1, 3] rfl ?_
      refine J 0 (by omega) _ _ ek ?_ es
      rw [ht]
      first | (rw [e0]; rfl) | (rw [e0])
    · refine x_iload_n 3 dL_soundOf_40 rfl rfl ?_
      refine x_if_ne 56 dL_soundOf_41 (by decide) (fun _ => ?_) (fun z => by first | exact absurd (by rw [ek]; decide) z | exact absurd z (by rw [ek]; decide))
      refine x_iload_n 3 dL_soundOf_56 rfl rfl ?_
      refine x_iconst (v := 1) dL_soundOf_57 rfl ?_
      refine x_icmp_ne 75 dL_soundOf_58 (by decide) (fun z => by first | exact absurd z (by rw [ek]; decide) | exact absurd (by rw [ek]; decide) z) (fun _ => ?_)
      refine x_bipush (v := 50) dL_soundOf_61 rfl ?_
      refine x_iconst (v := 4) dL_soundOf_63 rfl ?_
      refine x_iload_n 2 dL_soundOf_64 rfl rfl ?_
      refine x_imul dL_soundOf_65 ?_
      refine x_iadd dL_soundOf_66 ?_
      refine x_iconst (v := 2) dL_soundOf_67 rfl ?_
      refine x_iload 1 dL_soundOf_68 rfl ?_
      refine x_imul dL_soundOf_70 ?_
      refine x_isub dL_soundOf_71 ?_
      refine x_goto 86 dL_soundOf_72 (by decide) ?_
      refine x_istore (L' := [(6, _), (5, _), (4, _), (3, _), (2, _)]) dL_soundOf_86 (ble rfl) rfl ?_
      refine x_locs (L' := [(6, _), (5, _), (3, _)]) [0, 1, 3] rfl ?_
      refine J 1 (by omega) _ _ ek ?_ es
      rw [ht]
      first | (rw [e1]; rfl) | (rw [e1])
    · refine x_iload_n 3 dL_soundOf_40 rfl rfl ?_
      refine x_if_ne 56 dL_soundOf_41 (by decide) (fun _ => ?_) (fun z => by first | exact absurd (by rw [ek]; decide) z | exact absurd z (by rw [ek]; decide))
      refine x_iload_n 3 dL_soundOf_56 rfl rfl ?_
      refine x_iconst (v := 1) dL_soundOf_57 rfl ?_
      refine x_icmp_ne 75 dL_soundOf_58 (by decide) (fun _ => ?_) (fun z => by first | exact absurd (by rw [ek]; decide) z | exact absurd z (by rw [ek]; decide))
      refine x_bipush (v := 10) dL_soundOf_75 rfl ?_
      refine x_iconst (v := 3) dL_soundOf_77 rfl ?_
      refine x_iload_n 2 dL_soundOf_78 rfl rfl ?_
      refine x_imul dL_soundOf_79 ?_
      refine x_iadd dL_soundOf_80 ?_
      refine x_iload 1 dL_soundOf_81 rfl ?_
      refine x_iconst (v := 2) dL_soundOf_83 rfl ?_
      refine x_idiv dL_soundOf_84 (by first | decide | assumption) ?_
      refine x_isub dL_soundOf_85 ?_
      refine x_istore (L' := [(6, _), (5, _), (4, _), (3, _), (2, _)]) dL_soundOf_86 (ble rfl) rfl ?_
      refine x_locs (L' := [(6, _), (5, _), (3, _)]) [0, 1, 3] rfl ?_
      refine J 2 (by omega) _ _ ek ?_ es
      rw [ht]
      first | (rw [e2]; rfl) | (rw [e2])
  first | refine x_aload_n 0 dL_soundOf_0 rfl rfl ?_ | refine x_aload_nN 0 dL_soundOf_0 rfl rfl ?_
  refine x_iload_n 1 dL_soundOf_1 rfl rfl ?_
  refine x_iconst (v := 0) dL_soundOf_2 rfl ?_
  refine x_cV1 (As := [.int _, .int _]) (q_pt0 ok C (by assumption)) vL_66 rfl (x_rcC C) rfl ⟨ble rfl, ble rfl⟩ (ble rfl) dL_soundOf_3 rfl ?_
  refine x_istore_n (L' := [(2, _), (0, _), (1, _)]) dL_soundOf_6 rfl (ble rfl) rfl ?_
  first | refine x_aload_n 1 dL_soundOf_7 rfl rfl ?_ | refine x_aload_nN 1 dL_soundOf_7 rfl rfl ?_
  refine x_iload_n 2 dL_soundOf_8 rfl rfl ?_
  refine x_iconst (v := 2) dL_soundOf_9 rfl ?_
  refine x_cV1 (As := [.int _, .int _]) (q_pt2 ok C (by assumption)) vL_66 rfl (x_rcC C) rfl ⟨ble rfl, ble rfl⟩ (ble rfl) dL_soundOf_10 rfl ?_
  refine x_istore_n (L' := [(3, _), (2, _), (0, _), (1, _)]) dL_soundOf_13 rfl (ble rfl) rfl ?_
  first | refine x_aload_n 2 dL_soundOf_14 rfl rfl ?_ | refine x_aload_nN 2 dL_soundOf_14 rfl rfl ?_
  refine x_iload_n 3 dL_soundOf_15 rfl rfl ?_
  refine x_iconst (v := 4) dL_soundOf_16 rfl ?_
  refine x_cV1 (As := [.int _, .int _]) (q_pt4 ok C (by assumption)) vL_66 rfl (x_rcC C) rfl ⟨ble rfl, ble rfl⟩ (ble rfl) dL_soundOf_17 rfl ?_
  refine x_istore (L' := [(4, _), (3, _), (2, _), (0, _), (1, _)]) dL_soundOf_20 (ble rfl) rfl ?_
  first | refine x_aload_n 3 dL_soundOf_22 rfl rfl ?_ | refine x_aload_nN 3 dL_soundOf_22 rfl rfl ?_
  refine x_iload_n 4 dL_soundOf_23 rfl rfl ?_
  refine x_bipush (v := 6) dL_soundOf_24 rfl ?_
  refine x_cV1 (As := [.int _, .int _]) (q_pt6 ok C (by assumption)) vL_66 rfl (x_rcC C) rfl ⟨ble rfl, ble rfl⟩ (ble rfl) dL_soundOf_26 rfl ?_
  refine x_iconst (v := 1) dL_soundOf_29 rfl ?_
  refine x_icmp_ne 37 dL_soundOf_30 (by decide) (fun c30 => ?_) (fun c30 => ?_)
  · refine x_iconst (v := 0) dL_soundOf_37 rfl ?_
    refine x_istore (L' := [(5, _), (4, _), (3, _), (2, _), (0, _), (1, _)]) dL_soundOf_38 (ble rfl) rfl ?_
    refine x_locs (L' := [(5, _), (4, _), (3, _), (2, _)]) [0, 1, 2, 3] rfl ?_
    exact J2 _ (by first | rw [if_pos c30] | rw [if_neg c30])
  · refine x_iconst (v := 2) dL_soundOf_33 rfl ?_
    refine x_goto 38 dL_soundOf_34 (by decide) ?_
    refine x_istore (L' := [(5, _), (4, _), (3, _), (2, _), (0, _), (1, _)]) dL_soundOf_38 (ble rfl) rfl ?_
    refine x_locs (L' := [(5, _), (4, _), (3, _), (2, _)]) [0, 1, 2, 3] rfl ?_
    exact J2 _ (by first | rw [if_pos c30] | rw [if_neg c30])
set_option maxRecDepth 100000 in
theorem lay_end {l : Launch} {G : Gl} (h : Hp) (k : Int32) (S : S1 G h) : XX l G mL_lay (Rm 7 0 0) (KQ G (Rm 7 0 0) (fun w h' => w = none ∧ S1 G h')) 0 0 180 [(3, .int k), (0, .ref (Ad G 0)), (1, .ref (G.2.2.2 60))] [] h := by
  refine x_vret rfl dL_lay_180 ?_
  exact ⟨rfl, S⟩
set_option maxRecDepth 100000 in
set_option maxHeartbeats 2000000 in
theorem lay_4 {l : Launch} {G : Gl} (ok : Ok G) (kk : ∀ h k, S1 G h → XX l G mL_lay (Rm 7 0 0) (KQ G (Rm 7 0 0) (fun w h' => w = none ∧ S1 G h')) 0 0 180 [(3, .int k), (0, .ref (Ad G 0)), (1, .ref (G.2.2.2 60))] [] h) : ∀ (t k : Nat) (h : Hp), k + t = 4 → S1 G h → XX l G mL_lay (Rm 7 0 0) (KQ G (Rm 7 0 0) (fun w h' => w = none ∧ S1 G h')) 0 0 132 [(3, .int (nI k)), (0, .ref (Ad G 0)), (1, .ref (G.2.2.2 60))] [] h
  | 0, k, h, hk, S1_ => by
    obtain rfl : k = 4 := by omega
    refine x_iload_n 0 dL_lay_132 rfl rfl ?_
    refine x_iconst (v := 4) dL_lay_133 rfl ?_
    refine x_icmp_ge 180 dL_lay_134 (by decide) (fun _ => ?_) (fun z => by first | exact absurd (by decide) z | exact absurd z (by decide))
    refine x_locs (L' := [(3, _), (0, _), (1, _)]) [0, 1, 2] rfl ?_
    exact kk _ _ S1_
  | t + 1, k, h, hk, S => by
    have SS := S
    obtain ⟨N, ns, np, no, C, R, J, h1⟩ := SS
    refine x_iload_n 0 dL_lay_132 rfl rfl ?_
    refine x_iconst (v := 4) dL_lay_133 rfl ?_
    refine x_icmp_ge 180 dL_lay_134 (by decide) (fun z => by first | exact absurd z (nI_ge (a := k) (b := 4) (by omega) (by omega)) | exact absurd (nI_ge (a := k) (b := 4) (by omega) (by omega)) z) (fun _ => ?_)
    first | refine x_aload_n 1 dL_lay_137 rfl rfl ?_ | refine x_aload_nN 1 dL_lay_137 rfl rfl ?_
    first | refine x_aload_n 2 dL_lay_138 rfl rfl ?_ | refine x_aload_nN 2 dL_lay_138 rfl rfl ?_
    refine x_bipush (v := 36) dL_lay_139 rfl ?_
    refine x_iload_n 0 dL_lay_141 rfl rfl ?_
    refine x_iadd dL_lay_142 ?_
    refine x_iconst (v := 3) dL_lay_143 rfl ?_
    rw [show (36 : Int32) + nI k = nI (36 + k) from nI_add 36 k]
    refine x_callS (mc1 := 0) (ms1 := 0) (As := [.ref _, .int _, .int _]) (ct_pick (i := 36 + k) (m := 3) (by omega) (by omega) (by omega)) vL_15 rfl rfl ⟨ble rfl, ble rfl⟩ (ble rfl) dL_lay_144 rfl ⟨by omega, by omega⟩ (fun w144 h144 q144 => ?_)
    obtain ⟨⟨r144, hr144, rfl⟩, rfl⟩ := q144
    refine x_iconst (v := 1) dL_lay_147 rfl ?_
    first | refine x_aload_n 2 dL_lay_148 rfl rfl ?_ | refine x_aload_nN 2 dL_lay_148 rfl rfl ?_
    refine x_bipush (v := 40) dL_lay_149 rfl ?_
    refine x_iload_n 0 dL_lay_151 rfl rfl ?_
    refine x_iadd dL_lay_152 ?_
    refine x_iconst (v := 4) dL_lay_153 rfl ?_
    rw [show (40 : Int32) + nI k = nI (40 + k) from nI_add 40 k]
    refine x_callS (mc1 := 0) (ms1 := 0) (As := [.ref _, .int _, .int _]) (ct_pick (i := 40 + k) (m := 4) (by omega) (by omega) (by omega)) vL_15 rfl rfl ⟨ble rfl, ble rfl⟩ (ble rfl) dL_lay_154 rfl ⟨by omega, by omega⟩ (fun w154 h154 q154 => ?_)
    obtain ⟨⟨r154, hr154, rfl⟩, rfl⟩ := q154
    refine x_iadd dL_lay_157 ?_
    refine x_iconst (v := 1) dL_lay_158 rfl ?_
    first | refine x_aload_n 2 dL_lay_159 rfl rfl ?_ | refine x_aload_nN 2 dL_lay_159 rfl rfl ?_
    refine x_bipush (v := 44) dL_lay_160 rfl ?_
    refine x_iload_n 0 dL_lay_162 rfl rfl ?_
    refine x_iadd dL_lay_163 ?_
    refine x_bipush (v := 60) dL_lay_164 rfl ?_
    rw [show (44 : Int32) + nI k = nI (44 + k) from nI_add 44 k]
    refine x_callS (mc1 := 0) (ms1 := 0) (As := [.ref _, .int _, .int _]) (ct_pick (i := 44 + k) (m := 60) (by omega) (by omega) (by omega)) vL_15 rfl rfl ⟨ble rfl, ble rfl⟩ (ble rfl) dL_lay_166 rfl ⟨by omega, by omega⟩ (fun w166 h166 q166 => ?_)
    obtain ⟨⟨r166, hr166, rfl⟩, rfl⟩ := q166
    refine x_iadd dL_lay_169 ?_
    refine x_callW (mc1 := 0) (ms1 := 0) (As := [.int _, .int _, .int _]) (Ct.mono (q_baker ok C R J _ _ _) (fun w h' q => (⟨q.1, q.2.s1 h1⟩ : (∃ v, w = some (.int v)) ∧ S1 G h'))) vL_38 rfl (x_rcC C) rfl ⟨ble rfl, ble rfl⟩ (ble rfl) dL_lay_170 rfl ⟨by omega, by omega⟩ (fun w170 h170 q170 => ?_)
    obtain ⟨⟨v170, rfl⟩, S2⟩ := q170
    refine x_istore_n (L' := [(2, _), (3, _), (0, _), (1, _)]) dL_lay_173 rfl (ble rfl) rfl ?_
    refine x_iinc (L' := [(3, _), (2, _), (0, _), (1, _)]) (j := 1) (nI (_ + 1)) dL_lay_174 rfl (nI_1 _) (ble rfl) rfl ?_
    refine x_goto 132 dL_lay_177 (by decide) ?_
    refine x_locs (L' := [(3, _), (0, _), (1, _)]) [0, 2, 3] rfl ?_
    exact lay_4 ok kk t (k + 1) _ (by omega) S2
set_option maxRecDepth 100000 in
set_option maxHeartbeats 2000000 in
theorem lay_3 {l : Launch} {G : Gl} (ok : Ok G) (kk : ∀ h k, S1 G h → XX l G mL_lay (Rm 7 0 0) (KQ G (Rm 7 0 0) (fun w h' => w = none ∧ S1 G h')) 0 0 130 [(3, .int k), (0, .ref (Ad G 0)), (1, .ref (G.2.2.2 60))] [] h) : ∀ (t k : Nat) (h : Hp), k + t = 16 → S1 G h → XX l G mL_lay (Rm 7 0 0) (KQ G (Rm 7 0 0) (fun w h' => w = none ∧ S1 G h')) 0 0 79 [(3, .int (nI k)), (0, .ref (Ad G 0)), (1, .ref (G.2.2.2 60))] [] h
  | 0, k, h, hk, S => by
    obtain ⟨N, ns, np, no, C, R, J, h1⟩ := id S
    have b3 := C.nn.2.2.2.2.1
    refine x_iload_n 0 dL_lay_79 rfl rfl ?_
    first | refine x_aload_n 1 dL_lay_80 rfl rfl ?_ | refine x_aload_nN 1 dL_lay_80 rfl rfl ?_
    refine x_iconst (v := 3) dL_lay_81 rfl ?_
    refine x_cV1 (As := [.int _]) (q_ac3n ok C) vL_28 rfl (x_rcC C) rfl ⟨ble rfl, ble rfl⟩ (ble rfl) dL_lay_82 rfl ?_
    refine x_icmp_ge 130 dL_lay_85 (by decide) (fun _ => ?_) (fun z => by first | exact absurd (nI_le (show np ≤ k by omega) (by omega)) z | exact absurd z (nI_le (show np ≤ k by omega) (by omega)))
    refine x_locs (L' := [(3, _), (0, _), (1, _)]) [0, 1, 2] rfl ?_
    exact kk _ _ S
  | t + 1, k, h, hk, S => by
    obtain ⟨N, ns, np, no, C, R, J, h1⟩ := id S
    have b3 := C.nn.2.2.2.2.1
    by_cases hkn : k < np
    · refine x_iload_n 0 dL_lay_79 rfl rfl ?_
      first | refine x_aload_n 1 dL_lay_80 rfl rfl ?_ | refine x_aload_nN 1 dL_lay_80 rfl rfl ?_
      refine x_iconst (v := 3) dL_lay_81 rfl ?_
      refine x_cV1 (As := [.int _]) (q_ac3n ok C) vL_28 rfl (x_rcC C) rfl ⟨ble rfl, ble rfl⟩ (ble rfl) dL_lay_82 rfl ?_
      refine x_icmp_ge 130 dL_lay_85 (by decide) (fun z => by first | exact absurd z (nI_ge hkn (by omega)) | exact absurd (nI_ge hkn (by omega)) z) (fun _ => ?_)
      first | refine x_aload_n 1 dL_lay_88 rfl rfl ?_ | refine x_aload_nN 1 dL_lay_88 rfl rfl ?_
      refine x_iload_n 0 dL_lay_89 rfl rfl ?_
      refine x_bipush (v := 8) dL_lay_90 rfl ?_
      first | refine x_aload_n 2 dL_lay_92 rfl rfl ?_ | refine x_aload_nN 2 dL_lay_92 rfl rfl ?_
      refine x_bipush (v := 20) dL_lay_93 rfl ?_
      refine x_iload_n 0 dL_lay_95 rfl rfl ?_
      refine x_iadd dL_lay_96 ?_
      refine x_bipush (v := 44) dL_lay_97 rfl ?_
      rw [show (20 : Int32) + nI k = nI (20 + k) from nI_add 20 k]
      refine x_callS (mc1 := 0) (ms1 := 0) (As := [.ref _, .int _, .int _]) (ct_pick (i := 20 + k) (m := 44) (by omega) (by omega) (by omega)) vL_15 rfl rfl ⟨ble rfl, ble rfl⟩ (ble rfl) dL_lay_99 rfl ⟨by omega, by omega⟩ (fun w99 h99 q99 => ?_)
      obtain ⟨⟨r99, hr99, rfl⟩, rfl⟩ := q99
      refine x_iadd dL_lay_102 ?_
      refine x_callW (mc1 := 0) (ms1 := 0) (As := [.int _, .int _]) (Ct.mono (q_planish ok C R J _ _) (fun w h' q => (⟨q.1, q.2.s1 h1⟩ : (∃ v, w = some (.int v)) ∧ S1 G h'))) vL_32 rfl (x_rcC C) rfl ⟨ble rfl, ble rfl⟩ (ble rfl) dL_lay_103 rfl ⟨by omega, by omega⟩ (fun w103 h103 q103 => ?_)
      obtain ⟨⟨v103, rfl⟩, S2⟩ := q103
      clear C R J h1 S
      obtain ⟨N2, ns2, np2, no2, C, R, J, h1⟩ := S2
      first | refine x_aload_n 1 dL_lay_106 rfl rfl ?_ | refine x_aload_nN 1 dL_lay_106 rfl rfl ?_
      refine x_iload_n 0 dL_lay_107 rfl rfl ?_
      refine x_iconst (v := 1) dL_lay_108 rfl ?_
      first | refine x_aload_n 2 dL_lay_109 rfl rfl ?_ | refine x_aload_nN 2 dL_lay_109 rfl rfl ?_
      refine x_bipush (v := 28) dL_lay_110 rfl ?_
      refine x_iload_n 0 dL_lay_112 rfl rfl ?_
      refine x_iadd dL_lay_113 ?_
      refine x_iconst (v := 3) dL_lay_114 rfl ?_
      rw [show (28 : Int32) + nI k = nI (28 + k) from nI_add 28 k]
      refine x_callS (mc1 := 0) (ms1 := 0) (As := [.ref _, .int _, .int _]) (ct_pick (i := 28 + k) (m := 3) (by omega) (by omega) (by omega)) vL_15 rfl rfl ⟨ble rfl, ble rfl⟩ (ble rfl) dL_lay_115 rfl ⟨by omega, by omega⟩ (fun w115 h115 q115 => ?_)
      obtain ⟨⟨r115, hr115, rfl⟩, rfl⟩ := q115
      refine x_iadd dL_lay_118 ?_
      refine x_callW (mc1 := 0) (ms1 := 0) (As := [.int _, .int _]) (Ct.mono (q_tin ok C R J _ _) (fun w h' q => (⟨q.1, q.2.s1 h1⟩ : (∃ v, w = some (.int v)) ∧ S1 G h'))) vL_35 rfl (x_rcC C) rfl ⟨ble rfl, ble rfl⟩ (ble rfl) dL_lay_119 rfl ⟨by omega, by omega⟩ (fun w119 h119 q119 => ?_)
      obtain ⟨⟨v119, rfl⟩, S3⟩ := q119
      refine x_iadd dL_lay_122 ?_
      refine x_istore_n (L' := [(2, _), (3, _), (0, _), (1, _)]) dL_lay_123 rfl (ble rfl) rfl ?_
      refine x_iinc (L' := [(3, _), (2, _), (0, _), (1, _)]) (j := 1) (nI (_ + 1)) dL_lay_124 rfl (nI_1 _) (ble rfl) rfl ?_
      refine x_goto 79 dL_lay_127 (by decide) ?_
      refine x_locs (L' := [(3, _), (0, _), (1, _)]) [0, 2, 3] rfl ?_
      exact lay_3 ok kk t (k + 1) _ (by omega) S3
    · refine x_iload_n 0 dL_lay_79 rfl rfl ?_
      first | refine x_aload_n 1 dL_lay_80 rfl rfl ?_ | refine x_aload_nN 1 dL_lay_80 rfl rfl ?_
      refine x_iconst (v := 3) dL_lay_81 rfl ?_
      refine x_cV1 (As := [.int _]) (q_ac3n ok C) vL_28 rfl (x_rcC C) rfl ⟨ble rfl, ble rfl⟩ (ble rfl) dL_lay_82 rfl ?_
      refine x_icmp_ge 130 dL_lay_85 (by decide) (fun _ => ?_) (fun z => by first | exact absurd (nI_le (show np ≤ k by omega) (by omega)) z | exact absurd z (nI_le (show np ≤ k by omega) (by omega)))
      refine x_locs (L' := [(3, _), (0, _), (1, _)]) [0, 1, 2] rfl ?_
      exact kk _ _ S
set_option maxRecDepth 100000 in
set_option maxHeartbeats 2000000 in
theorem lay_2 {l : Launch} {G : Gl} (ok : Ok G) (kk : ∀ h k, S1 G h → XX l G mL_lay (Rm 7 0 0) (KQ G (Rm 7 0 0) (fun w h' => w = none ∧ S1 G h')) 0 0 77 [(3, .int k), (0, .ref (Ad G 0)), (1, .ref (G.2.2.2 60))] [] h) : ∀ (t k : Nat) (h : Hp), k + t = 6 → S1 G h → XX l G mL_lay (Rm 7 0 0) (KQ G (Rm 7 0 0) (fun w h' => w = none ∧ S1 G h')) 0 0 42 [(3, .int (nI k)), (0, .ref (Ad G 0)), (1, .ref (G.2.2.2 60))] [] h
  | 0, k, h, hk, S1_ => by
    obtain rfl : k = 6 := by omega
    refine x_iload_n 0 dL_lay_42 rfl rfl ?_
    refine x_bipush (v := 6) dL_lay_43 rfl ?_
    refine x_icmp_ge 77 dL_lay_45 (by decide) (fun _ => ?_) (fun z => by first | exact absurd (by decide) z | exact absurd z (by decide))
    refine x_locs (L' := [(3, _), (0, _), (1, _)]) [0, 1, 2] rfl ?_
    exact kk _ _ S1_
  | t + 1, k, h, hk, S => by
    have SS := S
    obtain ⟨N, ns, np, no, C, R, J, h1⟩ := SS
    refine x_iload_n 0 dL_lay_42 rfl rfl ?_
    refine x_bipush (v := 6) dL_lay_43 rfl ?_
    refine x_icmp_ge 77 dL_lay_45 (by decide) (fun z => by first | exact absurd z (nI_ge (a := k) (b := 6) (by omega) (by omega)) | exact absurd (nI_ge (a := k) (b := 6) (by omega) (by omega)) z) (fun _ => ?_)
    first | refine x_aload_n 1 dL_lay_48 rfl rfl ?_ | refine x_aload_nN 1 dL_lay_48 rfl rfl ?_
    first | refine x_aload_n 2 dL_lay_49 rfl rfl ?_ | refine x_aload_nN 2 dL_lay_49 rfl rfl ?_
    refine x_bipush (v := 8) dL_lay_50 rfl ?_
    refine x_iload_n 0 dL_lay_52 rfl rfl ?_
    refine x_iadd dL_lay_53 ?_
    refine x_iconst (v := 4) dL_lay_54 rfl ?_
    rw [show (8 : Int32) + nI k = nI (8 + k) from nI_add 8 k]
    refine x_callS (mc1 := 0) (ms1 := 0) (As := [.ref _, .int _, .int _]) (ct_pick (i := 8 + k) (m := 4) (by omega) (by omega) (by omega)) vL_15 rfl rfl ⟨ble rfl, ble rfl⟩ (ble rfl) dL_lay_55 rfl ⟨by omega, by omega⟩ (fun w55 h55 q55 => ?_)
    obtain ⟨⟨r55, hr55, rfl⟩, rfl⟩ := q55
    first | refine x_aload_n 2 dL_lay_58 rfl rfl ?_ | refine x_aload_nN 2 dL_lay_58 rfl rfl ?_
    refine x_bipush (v := 14) dL_lay_59 rfl ?_
    refine x_iload_n 0 dL_lay_61 rfl rfl ?_
    refine x_iadd dL_lay_62 ?_
    refine x_iconst (v := 3) dL_lay_63 rfl ?_
    rw [show (14 : Int32) + nI k = nI (14 + k) from nI_add 14 k]
    refine x_callS (mc1 := 0) (ms1 := 0) (As := [.ref _, .int _, .int _]) (ct_pick (i := 14 + k) (m := 3) (by omega) (by omega) (by omega)) vL_15 rfl rfl ⟨ble rfl, ble rfl⟩ (ble rfl) dL_lay_64 rfl ⟨by omega, by omega⟩ (fun w64 h64 q64 => ?_)
    obtain ⟨⟨r64, hr64, rfl⟩, rfl⟩ := q64
    refine x_callW (mc1 := 0) (ms1 := 0) (As := [.int _, .int _]) (Ct.mono (q_raise ok C R J _ _) (fun w h' q => (⟨q.1, q.2.s1 h1⟩ : (∃ v, w = some (.int v)) ∧ S1 G h'))) vL_25 rfl (x_rcC C) rfl ⟨ble rfl, ble rfl⟩ (ble rfl) dL_lay_67 rfl ⟨by omega, by omega⟩ (fun w67 h67 q67 => ?_)
    obtain ⟨⟨v67, rfl⟩, S2⟩ := q67
    refine x_istore_n (L' := [(2, _), (3, _), (0, _), (1, _)]) dL_lay_70 rfl (ble rfl) rfl ?_
    refine x_iinc (L' := [(3, _), (2, _), (0, _), (1, _)]) (j := 1) (nI (_ + 1)) dL_lay_71 rfl (nI_1 _) (ble rfl) rfl ?_
    refine x_goto 42 dL_lay_74 (by decide) ?_
    refine x_locs (L' := [(3, _), (0, _), (1, _)]) [0, 2, 3] rfl ?_
    exact lay_2 ok kk t (k + 1) _ (by omega) S2
set_option maxRecDepth 100000 in
set_option maxHeartbeats 2000000 in
theorem lay_1 {l : Launch} {G : Gl} (ok : Ok G) (kk : ∀ h k, S1 G h → XX l G mL_lay (Rm 7 0 0) (KQ G (Rm 7 0 0) (fun w h' => w = none ∧ S1 G h')) 0 0 40 [(3, .int k), (0, .ref (Ad G 0)), (1, .ref (G.2.2.2 60))] [] h) : ∀ (t k : Nat) (h : Hp), k + t = 4 → (t = 0 → S1 G h) → S0 G h → XX l G mL_lay (Rm 7 0 0) (KQ G (Rm 7 0 0) (fun w h' => w = none ∧ S1 G h')) 0 0 4 [(3, .int (nI k)), (0, .ref (Ad G 0)), (1, .ref (G.2.2.2 60))] [] h
  | 0, k, h, hk, S1_, _ => by
    have S1_ := S1_ rfl
    obtain rfl : k = 4 := by omega
    refine x_iload_n 0 dL_lay_4 rfl rfl ?_
    refine x_iconst (v := 4) dL_lay_5 rfl ?_
    refine x_icmp_ge 40 dL_lay_6 (by decide) (fun _ => ?_) (fun z => by first | exact absurd (by decide) z | exact absurd z (by decide))
    refine x_locs (L' := [(3, _), (0, _), (1, _)]) [0, 1, 2] rfl ?_
    exact kk _ _ S1_
  | t + 1, k, h, hk, _, S => by
    have SS := S
    obtain ⟨N, ns, np, no, C, R, J, h1⟩ := SS
    refine x_iload_n 0 dL_lay_4 rfl rfl ?_
    refine x_iconst (v := 4) dL_lay_5 rfl ?_
    refine x_icmp_ge 40 dL_lay_6 (by decide) (fun z => by first | exact absurd z (nI_ge (a := k) (b := 4) (by omega) (by omega)) | exact absurd (nI_ge (a := k) (b := 4) (by omega) (by omega)) z) (fun _ => ?_)
    first | refine x_aload_n 1 dL_lay_9 rfl rfl ?_ | refine x_aload_nN 1 dL_lay_9 rfl rfl ?_
    refine x_iconst (v := 1) dL_lay_10 rfl ?_
    first | refine x_aload_n 2 dL_lay_11 rfl rfl ?_ | refine x_aload_nN 2 dL_lay_11 rfl rfl ?_
    refine x_iload_n 0 dL_lay_12 rfl rfl ?_
    refine x_iconst (v := 5) dL_lay_13 rfl ?_
    refine x_callS (mc1 := 0) (ms1 := 0) (As := [.ref _, .int _, .int _]) (ct_pick (i := k) (m := 5) (by omega) (by omega) (by omega)) vL_15 rfl rfl ⟨ble rfl, ble rfl⟩ (ble rfl) dL_lay_14 rfl ⟨by omega, by omega⟩ (fun w14 h14 q14 => ?_)
    obtain ⟨⟨r14, hr14, rfl⟩, rfl⟩ := q14
    refine x_iadd dL_lay_17 ?_
    rw [show (1 : Int32) + nI r14 = nI (1 + r14) from nI_add 1 r14]
    refine x_bipush (v := 20) dL_lay_18 rfl ?_
    first | refine x_aload_n 2 dL_lay_20 rfl rfl ?_ | refine x_aload_nN 2 dL_lay_20 rfl rfl ?_
    refine x_iconst (v := 4) dL_lay_21 rfl ?_
    refine x_iload_n 0 dL_lay_22 rfl rfl ?_
    refine x_iadd dL_lay_23 ?_
    refine x_bipush (v := 41) dL_lay_24 rfl ?_
    rw [show (4 : Int32) + nI k = nI (4 + k) from nI_add 4 k]
    refine x_callS (mc1 := 0) (ms1 := 0) (As := [.ref _, .int _, .int _]) (ct_pick (i := 4 + k) (m := 41) (by omega) (by omega) (by omega)) vL_15 rfl rfl ⟨ble rfl, ble rfl⟩ (ble rfl) dL_lay_26 rfl ⟨by omega, by omega⟩ (fun w26 h26 q26 => ?_)
    obtain ⟨⟨r26, hr26, rfl⟩, rfl⟩ := q26
    refine x_iadd dL_lay_29 ?_
    rw [show (20 : Int32) + nI r26 = nI (20 + r26) from nI_add 20 r26]
    refine x_callW (mc1 := 0) (ms1 := 0) (As := [.int _, .int _]) (q_sheet0 ok S (by omega) (by omega) (by omega) (by omega)) vL_19 rfl (x_rcC C) rfl ⟨ble rfl, ble rfl⟩ (ble rfl) dL_lay_30 rfl ⟨by omega, by omega⟩ (fun w30 h30 q30 => ?_)
    obtain ⟨⟨v30, rfl⟩, S2⟩ := q30
    refine x_istore_n (L' := [(2, _), (3, _), (0, _), (1, _)]) dL_lay_33 rfl (ble rfl) rfl ?_
    refine x_iinc (L' := [(3, _), (2, _), (0, _), (1, _)]) (j := 1) (nI (_ + 1)) dL_lay_34 rfl (nI_1 _) (ble rfl) rfl ?_
    refine x_goto 4 dL_lay_37 (by decide) ?_
    refine x_locs (L' := [(3, _), (0, _), (1, _)]) [0, 2, 3] rfl ?_
    exact lay_1 ok kk t (k + 1) _ (by omega) (fun _ => S2) S2.s0
set_option maxRecDepth 100000 in
theorem ct_lay {l : Launch} {G : Gl} {h : Hp} (ok : Ok G) (S : S0 G h) : Ct l G mL_lay 7 0 0 [.ref (Ad G 0), .ref (G.2.2.2 60)] h (fun w h' => w = none ∧ S1 G h') := by
  refine Ct.of (L := [(0, _), (1, _)]) (by decide) (ble rfl) rfl ?_
  have k4 : ∀ h k, S1 G h → XX l G mL_lay (Rm 7 0 0) (KQ G (Rm 7 0 0) (fun w h' => w = none ∧ S1 G h')) 0 0 130 [(3, .int k), (0, .ref (Ad G 0)), (1, .ref (G.2.2.2 60))] [] h := fun h k S => by
    refine x_iconst (v := 0) dL_lay_130 rfl ?_
    refine x_istore_n (L' := [(3, _), (0, _), (1, _)]) dL_lay_131 rfl (ble rfl) rfl ?_
    refine x_locs (L' := [(3, _), (0, _), (1, _)]) [0, 1, 2] rfl ?_
    exact lay_4 ok lay_end 4 0 h rfl S
  have k3 : ∀ h k, S1 G h → XX l G mL_lay (Rm 7 0 0) (KQ G (Rm 7 0 0) (fun w h' => w = none ∧ S1 G h')) 0 0 77 [(3, .int k), (0, .ref (Ad G 0)), (1, .ref (G.2.2.2 60))] [] h := fun h k S => by
    refine x_iconst (v := 0) dL_lay_77 rfl ?_
    refine x_istore_n (L' := [(3, _), (0, _), (1, _)]) dL_lay_78 rfl (ble rfl) rfl ?_
    refine x_locs (L' := [(3, _), (0, _), (1, _)]) [0, 1, 2] rfl ?_
    exact lay_3 ok k4 16 0 h rfl S
  have k2 : ∀ h k, S1 G h → XX l G mL_lay (Rm 7 0 0) (KQ G (Rm 7 0 0) (fun w h' => w = none ∧ S1 G h')) 0 0 40 [(3, .int k), (0, .ref (Ad G 0)), (1, .ref (G.2.2.2 60))] [] h := fun h k S => by
    refine x_iconst (v := 0) dL_lay_40 rfl ?_
    refine x_istore_n (L' := [(3, _), (0, _), (1, _)]) dL_lay_41 rfl (ble rfl) rfl ?_
    refine x_locs (L' := [(3, _), (0, _), (1, _)]) [0, 1, 2] rfl ?_
    exact lay_2 ok k3 6 0 h rfl S
  refine x_iconst (v := 0) dL_lay_0 rfl ?_
  refine x_istore_n (L' := [(2, _), (0, _), (1, _)]) dL_lay_1 rfl (ble rfl) rfl ?_
  refine x_iconst (v := 0) dL_lay_2 rfl ?_
  refine x_istore_n (L' := [(3, _), (2, _), (0, _), (1, _)]) dL_lay_3 rfl (ble rfl) rfl ?_
  refine x_locs (L' := [(3, _), (0, _), (1, _)]) [0, 2, 3] rfl ?_
  exact lay_1 ok k2 4 0 h rfl (fun z => absurd z (by decide)) S
set_option maxRecDepth 100000 in
set_option maxHeartbeats 4000000 in
theorem ct_done {l : Launch} {G : Gl} {h : Hp} (ok : Ok G) (S : S1 G h) {i : Nat} (hi : i + 10 < 2 ^ 31) (x : Int32) : Ct l G mL_done 7 0 0 [.ref (Ad G 0), .ref (G.2.2.2 60), .int (nI i), .int x] h (fun w h' => (∃ v, w = some (.int v)) ∧ S1 G h') := by
  refine Ct.of (L := [(0, _), (1, _), (2, _), (3, _)]) (by decide) (ble rfl) rfl ?_
  obtain ⟨N, ns, np, no, C, R, J, h1⟩ := S
  obtain ⟨-, -, -, b2, b3, b4⟩ := C.nn
  first | refine x_aload_n 1 dL_done_0 rfl rfl ?_ | refine x_aload_nN 1 dL_done_0 rfl rfl ?_
  refine x_iload_n 2 dL_done_1 rfl rfl ?_
  refine x_iconst (v := 1) dL_done_2 rfl ?_
  refine x_iadd dL_done_3 ?_
  refine x_iconst (v := 1) dL_done_4 rfl ?_
  first | refine x_aload_n 0 dL_done_5 rfl rfl ?_ | refine x_aload_nN 0 dL_done_5 rfl rfl ?_
  refine x_iconst (v := 3) dL_done_6 rfl ?_
  refine x_cV1 (As := [.int _]) (q_ac3n ok C) vL_28 rfl (x_rcC C) rfl ⟨ble rfl, ble rfl⟩ (ble rfl) dL_done_7 rfl ?_
  refine x_mmax rfl wL_42 wMmax2 wMath3 wMmax4 (ble rfl) (ble rfl) dL_done_10 ?_
  rw [show (if (1 : Int32) < nI np then nI np else 1) = nI (max 1 np) from mx1_n (a := 1) (by omega) (by omega)]
  rw [show nI i + 1 = nI (i + 1) from nI_add i 1]
  refine x_callS (mc1 := 0) (ms1 := 0) (As := [.ref _, .int _, .int _]) (ct_pick (i := i + 1) (m := max 1 np) (by omega) (by omega) (by omega)) vL_15 rfl rfl ⟨ble rfl, ble rfl⟩ (ble rfl) dL_done_13 rfl ⟨by omega, by omega⟩ (fun w13 h13 q13 => ?_)
  obtain ⟨⟨r13, hr13, rfl⟩, rfl⟩ := q13
  refine x_istore (L' := [(4, _), (0, _), (1, _), (2, _), (3, _)]) dL_done_16 (ble rfl) rfl ?_
  first | refine x_aload_n 2 dL_done_18 rfl rfl ?_ | refine x_aload_nN 2 dL_done_18 rfl rfl ?_
  refine x_iload_n 3 dL_done_19 rfl rfl ?_
  refine x_iconst (v := 2) dL_done_20 rfl ?_
  refine x_iadd dL_done_21 ?_
  refine x_iconst (v := 1) dL_done_22 rfl ?_
  first | refine x_aload_n 1 dL_done_23 rfl rfl ?_ | refine x_aload_nN 1 dL_done_23 rfl rfl ?_
  refine x_bipush (v := 7) dL_done_24 rfl ?_
  refine x_cV1 (As := [.int _]) (q_ac7n ok C) vL_28 rfl (x_rcC C) rfl ⟨ble rfl, ble rfl⟩ (ble rfl) dL_done_26 rfl ?_
  refine x_mmax rfl wL_42 wMmax2 wMath3 wMmax4 (ble rfl) (ble rfl) dL_done_29 ?_
  rw [show (if (1 : Int32) < nI no then nI no else 1) = nI (max 1 no) from mx1_n (a := 1) (by omega) (by omega)]
  rw [show nI i + 2 = nI (i + 2) from nI_add i 2]
  refine x_callS (mc1 := 0) (ms1 := 0) (As := [.ref _, .int _, .int _]) (ct_pick (i := i + 2) (m := max 1 no) (by omega) (by omega) (by omega)) vL_15 rfl rfl ⟨ble rfl, ble rfl⟩ (ble rfl) dL_done_32 rfl ⟨by omega, by omega⟩ (fun w32 h32 q32 => ?_)
  obtain ⟨⟨r32, hr32, rfl⟩, rfl⟩ := q32
  refine x_istore (L' := [(5, _), (4, _), (0, _), (1, _), (2, _), (3, _)]) dL_done_35 (ble rfl) rfl ?_
  refine x_iload_n 5 dL_done_37 rfl rfl ?_
  rcases swt x 11 with hx | ⟨j, hj, rfl⟩
  · refine x_tableOut 273 dL_done_38 hx (by decide) ?_
    obtain ⟨gv, kgv⟩ := q_gfa (l := l) ok C (nI r32)
    first | refine x_aload_n 2 dL_done_273 rfl rfl ?_ | refine x_aload_nN 2 dL_done_273 rfl rfl ?_
    first | refine x_aload_n 2 dL_done_274 rfl rfl ?_ | refine x_aload_nN 2 dL_done_274 rfl rfl ?_
    refine x_iload 0 dL_done_275 rfl ?_
    refine x_cV1 (As := [.int _]) kgv vL_53 rfl (x_rcC C) rfl ⟨ble rfl, ble rfl⟩ (ble rfl) dL_done_277 rfl ?_
    refine x_if_lt 303 dL_done_280 (by decide) (fun c280 => ?_) (fun c280 => ?_)
    · refine x_iload 1 dL_done_303 rfl ?_
      refine x_iload 0 dL_done_305 rfl ?_
      refine x_callW (mc1 := 0) (ms1 := 0) (As := [.int _, .int _]) (Ct.mono (q_sell ok C R J _ _) (fun w h' q => (⟨q.1, q.2.s1 h1⟩ : (∃ v, w = some (.int v)) ∧ S1 G h'))) vL_56 rfl (x_rcC C) rfl ⟨ble rfl, ble rfl⟩ (ble rfl) dL_done_307 rfl ⟨by omega, by omega⟩ (fun w307 h307 q307 => ?_)
      obtain ⟨⟨v307, rfl⟩, S3⟩ := q307
      refine x_iret rfl dL_done_310 ?_
      exact ⟨⟨_, rfl⟩, S3⟩
    · first | refine x_aload_n 3 dL_done_283 rfl rfl ?_ | refine x_aload_nN 3 dL_done_283 rfl rfl ?_
      refine x_iload_n 4 dL_done_284 rfl rfl ?_
      refine x_iconst (v := 3) dL_done_285 rfl ?_
      refine x_iadd dL_done_286 ?_
      refine x_iconst (v := 3) dL_done_287 rfl ?_
      rw [show nI i + 3 = nI (i + 3) from nI_add i 3]
      refine x_callS (mc1 := 0) (ms1 := 0) (As := [.ref _, .int _, .int _]) (ct_pick (i := i + 3) (m := 3) (by omega) (by omega) (by omega)) vL_15 rfl rfl ⟨ble rfl, ble rfl⟩ (ble rfl) dL_done_288 rfl ⟨by omega, by omega⟩ (fun w288 h288 q288 => ?_)
      obtain ⟨⟨r288, hr288, rfl⟩, rfl⟩ := q288
      refine x_if_le 303 dL_done_291 (by decide) (fun c291 => ?_) (fun c291 => ?_)
      · refine x_iload 1 dL_done_303 rfl ?_
        refine x_iload 0 dL_done_305 rfl ?_
        refine x_callW (mc1 := 0) (ms1 := 0) (As := [.int _, .int _]) (Ct.mono (q_sell ok C R J _ _) (fun w h' q => (⟨q.1, q.2.s1 h1⟩ : (∃ v, w = some (.int v)) ∧ S1 G h'))) vL_56 rfl (x_rcC C) rfl ⟨ble rfl, ble rfl⟩ (ble rfl) dL_done_307 rfl ⟨by omega, by omega⟩ (fun w307 h307 q307 => ?_)
        obtain ⟨⟨v307, rfl⟩, S3⟩ := q307
        refine x_iret rfl dL_done_310 ?_
        exact ⟨⟨_, rfl⟩, S3⟩
      · first | refine x_aload_n 2 dL_done_294 rfl rfl ?_ | refine x_aload_nN 2 dL_done_294 rfl rfl ?_
        refine x_iload 0 dL_done_295 rfl ?_
        refine x_cV1 (As := [.int _]) kgv vL_53 rfl (x_rcC C) rfl ⟨ble rfl, ble rfl⟩ (ble rfl) dL_done_297 rfl ?_
        refine x_goto 305 dL_done_300 (by decide) ?_
        refine x_iload 0 dL_done_305 rfl ?_
        refine x_callW (mc1 := 0) (ms1 := 0) (As := [.int _, .int _]) (Ct.mono (q_sell ok C R J _ _) (fun w h' q => (⟨q.1, q.2.s1 h1⟩ : (∃ v, w = some (.int v)) ∧ S1 G h'))) vL_56 rfl (x_rcC C) rfl ⟨ble rfl, ble rfl⟩ (ble rfl) dL_done_307 rfl ⟨by omega, by omega⟩ (fun w307 h307 q307 => ?_)
        obtain ⟨⟨v307, rfl⟩, S3⟩ := q307
        refine x_iret rfl dL_done_310 ?_
        exact ⟨⟨_, rfl⟩, S3⟩
  · rcases (show j = 0 ∨ j = 1 ∨ j = 2 ∨ j = 3 ∨ j = 4 ∨ j = 5 ∨ j = 6 ∨ j = 7 ∨ j = 8 ∨ j = 9 ∨ j = 10 ∨ j = 11 by omega) with rfl | rfl | rfl | rfl | rfl | rfl | rfl | rfl | rfl | rfl | rfl | rfl
    · refine x_tableIn 100 dL_done_38 (by decide) (by decide) (by rfl) (by decide) ?_
      first | refine x_aload_n 2 dL_done_100 rfl rfl ?_ | refine x_aload_nN 2 dL_done_100 rfl rfl ?_
      refine x_iconst (v := 1) dL_done_101 rfl ?_
      first | refine x_aload_n 3 dL_done_102 rfl rfl ?_ | refine x_aload_nN 3 dL_done_102 rfl rfl ?_
      refine x_iload_n 4 dL_done_103 rfl rfl ?_
      refine x_iconst (v := 2) dL_done_104 rfl ?_
      refine x_iadd dL_done_105 ?_
      refine x_bipush (v := 9) dL_done_106 rfl ?_
      rw [show nI i + 2 = nI (i + 2) from nI_add i 2]
      refine x_callS (mc1 := 0) (ms1 := 0) (As := [.ref _, .int _, .int _]) (ct_pick (i := i + 2) (m := 9) (by omega) (by omega) (by omega)) vL_15 rfl rfl ⟨ble rfl, ble rfl⟩ (ble rfl) dL_done_108 rfl ⟨by omega, by omega⟩ (fun w108 h108 q108 => ?_)
      obtain ⟨⟨r108, hr108, rfl⟩, rfl⟩ := q108
      refine x_iadd dL_done_111 ?_
      refine x_bipush (v := 10) dL_done_112 rfl ?_
      first | refine x_aload_n 3 dL_done_114 rfl rfl ?_ | refine x_aload_nN 3 dL_done_114 rfl rfl ?_
      refine x_iload_n 4 dL_done_115 rfl rfl ?_
      refine x_iconst (v := 3) dL_done_116 rfl ?_
      refine x_iadd dL_done_117 ?_
      refine x_bipush (v := 51) dL_done_118 rfl ?_
      rw [show nI i + 3 = nI (i + 3) from nI_add i 3]
      refine x_callS (mc1 := 0) (ms1 := 0) (As := [.ref _, .int _, .int _]) (ct_pick (i := i + 3) (m := 51) (by omega) (by omega) (by omega)) vL_15 rfl rfl ⟨ble rfl, ble rfl⟩ (ble rfl) dL_done_120 rfl ⟨by omega, by omega⟩ (fun w120 h120 q120 => ?_)
      obtain ⟨⟨r120, hr120, rfl⟩, rfl⟩ := q120
      refine x_iadd dL_done_123 ?_
      refine x_callW (mc1 := 0) (ms1 := 0) (As := [.int _, .int _]) (Ct.mono (q_sheet ok C R J _ _) (fun w h' q => (⟨q.1, q.2.s1 h1⟩ : (∃ v, w = some (.int v)) ∧ S1 G h'))) vL_19 rfl (x_rcC C) rfl ⟨ble rfl, ble rfl⟩ (ble rfl) dL_done_124 rfl ⟨by omega, by omega⟩ (fun w124 h124 q124 => ?_)
      obtain ⟨⟨v124, rfl⟩, S3⟩ := q124
      refine x_iret rfl dL_done_127 ?_
      exact ⟨⟨_, rfl⟩, S3⟩
    · refine x_tableIn 128 dL_done_38 (by decide) (by decide) (by rfl) (by decide) ?_
      first | refine x_aload_n 2 dL_done_128 rfl rfl ?_ | refine x_aload_nN 2 dL_done_128 rfl rfl ?_
      first | refine x_aload_n 3 dL_done_129 rfl rfl ?_ | refine x_aload_nN 3 dL_done_129 rfl rfl ?_
      refine x_iload_n 4 dL_done_130 rfl rfl ?_
      refine x_iconst (v := 2) dL_done_131 rfl ?_
      refine x_iadd dL_done_132 ?_
      first | refine x_aload_n 2 dL_done_133 rfl rfl ?_ | refine x_aload_nN 2 dL_done_133 rfl rfl ?_
      refine x_iconst (v := 2) dL_done_134 rfl ?_
      refine x_cV1 (As := [.int _]) (q_ac2n ok C) vL_28 rfl (x_rcC C) rfl ⟨ble rfl, ble rfl⟩ (ble rfl) dL_done_135 rfl ?_
      rw [show nI i + 2 = nI (i + 2) from nI_add i 2]
      refine x_callS (mc1 := 0) (ms1 := 0) (As := [.ref _, .int _, .int _]) (ct_pick (i := i + 2) (m := ns) (by omega) (by omega) (by omega)) vL_15 rfl rfl ⟨ble rfl, ble rfl⟩ (ble rfl) dL_done_138 rfl ⟨by omega, by omega⟩ (fun w138 h138 q138 => ?_)
      obtain ⟨⟨r138, hr138, rfl⟩, rfl⟩ := q138
      first | refine x_aload_n 3 dL_done_141 rfl rfl ?_ | refine x_aload_nN 3 dL_done_141 rfl rfl ?_
      refine x_iload_n 4 dL_done_142 rfl rfl ?_
      refine x_iconst (v := 3) dL_done_143 rfl ?_
      refine x_iadd dL_done_144 ?_
      refine x_iconst (v := 3) dL_done_145 rfl ?_
      rw [show nI i + 3 = nI (i + 3) from nI_add i 3]
      refine x_callS (mc1 := 0) (ms1 := 0) (As := [.ref _, .int _, .int _]) (ct_pick (i := i + 3) (m := 3) (by omega) (by omega) (by omega)) vL_15 rfl rfl ⟨ble rfl, ble rfl⟩ (ble rfl) dL_done_146 rfl ⟨by omega, by omega⟩ (fun w146 h146 q146 => ?_)
      obtain ⟨⟨r146, hr146, rfl⟩, rfl⟩ := q146
      refine x_callW (mc1 := 0) (ms1 := 0) (As := [.int _, .int _]) (Ct.mono (q_raise ok C R J _ _) (fun w h' q => (⟨q.1, q.2.s1 h1⟩ : (∃ v, w = some (.int v)) ∧ S1 G h'))) vL_25 rfl (x_rcC C) rfl ⟨ble rfl, ble rfl⟩ (ble rfl) dL_done_149 rfl ⟨by omega, by omega⟩ (fun w149 h149 q149 => ?_)
      obtain ⟨⟨v149, rfl⟩, S3⟩ := q149
      refine x_iret rfl dL_done_152 ?_
      exact ⟨⟨_, rfl⟩, S3⟩
    · refine x_tableIn 128 dL_done_38 (by decide) (by decide) (by rfl) (by decide) ?_
      first | refine x_aload_n 2 dL_done_128 rfl rfl ?_ | refine x_aload_nN 2 dL_done_128 rfl rfl ?_
      first | refine x_aload_n 3 dL_done_129 rfl rfl ?_ | refine x_aload_nN 3 dL_done_129 rfl rfl ?_
      refine x_iload_n 4 dL_done_130 rfl rfl ?_
      refine x_iconst (v := 2) dL_done_131 rfl ?_
      refine x_iadd dL_done_132 ?_
      first | refine x_aload_n 2 dL_done_133 rfl rfl ?_ | refine x_aload_nN 2 dL_done_133 rfl rfl ?_
      refine x_iconst (v := 2) dL_done_134 rfl ?_
      refine x_cV1 (As := [.int _]) (q_ac2n ok C) vL_28 rfl (x_rcC C) rfl ⟨ble rfl, ble rfl⟩ (ble rfl) dL_done_135 rfl ?_
      rw [show nI i + 2 = nI (i + 2) from nI_add i 2]
      refine x_callS (mc1 := 0) (ms1 := 0) (As := [.ref _, .int _, .int _]) (ct_pick (i := i + 2) (m := ns) (by omega) (by omega) (by omega)) vL_15 rfl rfl ⟨ble rfl, ble rfl⟩ (ble rfl) dL_done_138 rfl ⟨by omega, by omega⟩ (fun w138 h138 q138 => ?_)
      obtain ⟨⟨r138, hr138, rfl⟩, rfl⟩ := q138
      first | refine x_aload_n 3 dL_done_141 rfl rfl ?_ | refine x_aload_nN 3 dL_done_141 rfl rfl ?_
      refine x_iload_n 4 dL_done_142 rfl rfl ?_
      refine x_iconst (v := 3) dL_done_143 rfl ?_
      refine x_iadd dL_done_144 ?_
      refine x_iconst (v := 3) dL_done_145 rfl ?_
      rw [show nI i + 3 = nI (i + 3) from nI_add i 3]
      refine x_callS (mc1 := 0) (ms1 := 0) (As := [.ref _, .int _, .int _]) (ct_pick (i := i + 3) (m := 3) (by omega) (by omega) (by omega)) vL_15 rfl rfl ⟨ble rfl, ble rfl⟩ (ble rfl) dL_done_146 rfl ⟨by omega, by omega⟩ (fun w146 h146 q146 => ?_)
      obtain ⟨⟨r146, hr146, rfl⟩, rfl⟩ := q146
      refine x_callW (mc1 := 0) (ms1 := 0) (As := [.int _, .int _]) (Ct.mono (q_raise ok C R J _ _) (fun w h' q => (⟨q.1, q.2.s1 h1⟩ : (∃ v, w = some (.int v)) ∧ S1 G h'))) vL_25 rfl (x_rcC C) rfl ⟨ble rfl, ble rfl⟩ (ble rfl) dL_done_149 rfl ⟨by omega, by omega⟩ (fun w149 h149 q149 => ?_)
      obtain ⟨⟨v149, rfl⟩, S3⟩ := q149
      refine x_iret rfl dL_done_152 ?_
      exact ⟨⟨_, rfl⟩, S3⟩
    · refine x_tableIn 153 dL_done_38 (by decide) (by decide) (by rfl) (by decide) ?_
      first | refine x_aload_n 2 dL_done_153 rfl rfl ?_ | refine x_aload_nN 2 dL_done_153 rfl rfl ?_
      refine x_iload 1 dL_done_154 rfl ?_
      refine x_iconst (v := 1) dL_done_156 rfl ?_
      first | refine x_aload_n 3 dL_done_157 rfl rfl ?_ | refine x_aload_nN 3 dL_done_157 rfl rfl ?_
      refine x_iload_n 4 dL_done_158 rfl rfl ?_
      refine x_iconst (v := 3) dL_done_159 rfl ?_
      refine x_iadd dL_done_160 ?_
      rw [show nI i + 3 = nI (i + 3) from nI_add i 3]
      first | refine x_aload_n 3 dL_done_161 rfl rfl ?_ | refine x_aload_nN 3 dL_done_161 rfl rfl ?_
      refine x_iload_n 4 dL_done_162 rfl rfl ?_
      refine x_iconst (v := 2) dL_done_163 rfl ?_
      refine x_iadd dL_done_164 ?_
      refine x_iconst (v := 2) dL_done_165 rfl ?_
      rw [show nI i + 2 = nI (i + 2) from nI_add i 2]
      refine x_callS (mc1 := 0) (ms1 := 0) (As := [.ref _, .int _, .int _]) (ct_pick (i := i + 2) (m := 2) (by omega) (by omega) (by omega)) vL_15 rfl rfl ⟨ble rfl, ble rfl⟩ (ble rfl) dL_done_166 rfl ⟨by omega, by omega⟩ (fun w166 h166 q166 => ?_)
      obtain ⟨⟨r166, hr166, rfl⟩, rfl⟩ := q166
      refine x_if_ne 177 dL_done_169 (by decide) (fun c169 => ?_) (fun c169 => ?_)
      · refine x_bipush (v := 44) dL_done_177 rfl ?_
        refine x_callS (mc1 := 0) (ms1 := 0) (As := [.ref _, .int _, .int _]) (ct_pick (i := i + 3) (m := 44) (by omega) (by omega) (by omega)) vL_15 rfl rfl ⟨ble rfl, ble rfl⟩ (ble rfl) dL_done_179 rfl ⟨by omega, by omega⟩ (fun w179 h179 q179 => ?_)
        obtain ⟨⟨r179, hr179, rfl⟩, rfl⟩ := q179
        refine x_iadd dL_done_182 ?_
        refine x_callW (mc1 := 0) (ms1 := 0) (As := [.int _, .int _]) (Ct.mono (q_planish ok C R J _ _) (fun w h' q => (⟨q.1, q.2.s1 h1⟩ : (∃ v, w = some (.int v)) ∧ S1 G h'))) vL_32 rfl (x_rcC C) rfl ⟨ble rfl, ble rfl⟩ (ble rfl) dL_done_183 rfl ⟨by omega, by omega⟩ (fun w183 h183 q183 => ?_)
        obtain ⟨⟨v183, rfl⟩, S3⟩ := q183
        refine x_iret rfl dL_done_186 ?_
        exact ⟨⟨_, rfl⟩, S3⟩
      · refine x_bipush (v := 12) dL_done_172 rfl ?_
        refine x_goto 179 dL_done_174 (by decide) ?_
        refine x_callS (mc1 := 0) (ms1 := 0) (As := [.ref _, .int _, .int _]) (ct_pick (i := i + 3) (m := 12) (by omega) (by omega) (by omega)) vL_15 rfl rfl ⟨ble rfl, ble rfl⟩ (ble rfl) dL_done_179 rfl ⟨by omega, by omega⟩ (fun w179 h179 q179 => ?_)
        obtain ⟨⟨r179, hr179, rfl⟩, rfl⟩ := q179
        refine x_iadd dL_done_182 ?_
        refine x_callW (mc1 := 0) (ms1 := 0) (As := [.int _, .int _]) (Ct.mono (q_planish ok C R J _ _) (fun w h' q => (⟨q.1, q.2.s1 h1⟩ : (∃ v, w = some (.int v)) ∧ S1 G h'))) vL_32 rfl (x_rcC C) rfl ⟨ble rfl, ble rfl⟩ (ble rfl) dL_done_183 rfl ⟨by omega, by omega⟩ (fun w183 h183 q183 => ?_)
        obtain ⟨⟨v183, rfl⟩, S3⟩ := q183
        refine x_iret rfl dL_done_186 ?_
        exact ⟨⟨_, rfl⟩, S3⟩
    · refine x_tableIn 153 dL_done_38 (by decide) (by decide) (by rfl) (by decide) ?_
      first | refine x_aload_n 2 dL_done_153 rfl rfl ?_ | refine x_aload_nN 2 dL_done_153 rfl rfl ?_
      refine x_iload 1 dL_done_154 rfl ?_
      refine x_iconst (v := 1) dL_done_156 rfl ?_
      first | refine x_aload_n 3 dL_done_157 rfl rfl ?_ | refine x_aload_nN 3 dL_done_157 rfl rfl ?_
      refine x_iload_n 4 dL_done_158 rfl rfl ?_
      refine x_iconst (v := 3) dL_done_159 rfl ?_
      refine x_iadd dL_done_160 ?_
      rw [show nI i + 3 = nI (i + 3) from nI_add i 3]
      first | refine x_aload_n 3 dL_done_161 rfl rfl ?_ | refine x_aload_nN 3 dL_done_161 rfl rfl ?_
      refine x_iload_n 4 dL_done_162 rfl rfl ?_
      refine x_iconst (v := 2) dL_done_163 rfl ?_
      refine x_iadd dL_done_164 ?_
      refine x_iconst (v := 2) dL_done_165 rfl ?_
      rw [show nI i + 2 = nI (i + 2) from nI_add i 2]
      refine x_callS (mc1 := 0) (ms1 := 0) (As := [.ref _, .int _, .int _]) (ct_pick (i := i + 2) (m := 2) (by omega) (by omega) (by omega)) vL_15 rfl rfl ⟨ble rfl, ble rfl⟩ (ble rfl) dL_done_166 rfl ⟨by omega, by omega⟩ (fun w166 h166 q166 => ?_)
      obtain ⟨⟨r166, hr166, rfl⟩, rfl⟩ := q166
      refine x_if_ne 177 dL_done_169 (by decide) (fun c169 => ?_) (fun c169 => ?_)
      · refine x_bipush (v := 44) dL_done_177 rfl ?_
        refine x_callS (mc1 := 0) (ms1 := 0) (As := [.ref _, .int _, .int _]) (ct_pick (i := i + 3) (m := 44) (by omega) (by omega) (by omega)) vL_15 rfl rfl ⟨ble rfl, ble rfl⟩ (ble rfl) dL_done_179 rfl ⟨by omega, by omega⟩ (fun w179 h179 q179 => ?_)
        obtain ⟨⟨r179, hr179, rfl⟩, rfl⟩ := q179
        refine x_iadd dL_done_182 ?_
        refine x_callW (mc1 := 0) (ms1 := 0) (As := [.int _, .int _]) (Ct.mono (q_planish ok C R J _ _) (fun w h' q => (⟨q.1, q.2.s1 h1⟩ : (∃ v, w = some (.int v)) ∧ S1 G h'))) vL_32 rfl (x_rcC C) rfl ⟨ble rfl, ble rfl⟩ (ble rfl) dL_done_183 rfl ⟨by omega, by omega⟩ (fun w183 h183 q183 => ?_)
        obtain ⟨⟨v183, rfl⟩, S3⟩ := q183
        refine x_iret rfl dL_done_186 ?_
        exact ⟨⟨_, rfl⟩, S3⟩
      · refine x_bipush (v := 12) dL_done_172 rfl ?_
        refine x_goto 179 dL_done_174 (by decide) ?_
        refine x_callS (mc1 := 0) (ms1 := 0) (As := [.ref _, .int _, .int _]) (ct_pick (i := i + 3) (m := 12) (by omega) (by omega) (by omega)) vL_15 rfl rfl ⟨ble rfl, ble rfl⟩ (ble rfl) dL_done_179 rfl ⟨by omega, by omega⟩ (fun w179 h179 q179 => ?_)
        obtain ⟨⟨r179, hr179, rfl⟩, rfl⟩ := q179
        refine x_iadd dL_done_182 ?_
        refine x_callW (mc1 := 0) (ms1 := 0) (As := [.int _, .int _]) (Ct.mono (q_planish ok C R J _ _) (fun w h' q => (⟨q.1, q.2.s1 h1⟩ : (∃ v, w = some (.int v)) ∧ S1 G h'))) vL_32 rfl (x_rcC C) rfl ⟨ble rfl, ble rfl⟩ (ble rfl) dL_done_183 rfl ⟨by omega, by omega⟩ (fun w183 h183 q183 => ?_)
        obtain ⟨⟨v183, rfl⟩, S3⟩ := q183
        refine x_iret rfl dL_done_186 ?_
        exact ⟨⟨_, rfl⟩, S3⟩
    · refine x_tableIn 153 dL_done_38 (by decide) (by decide) (by rfl) (by decide) ?_
      first | refine x_aload_n 2 dL_done_153 rfl rfl ?_ | refine x_aload_nN 2 dL_done_153 rfl rfl ?_
      refine x_iload 1 dL_done_154 rfl ?_
      refine x_iconst (v := 1) dL_done_156 rfl ?_
      first | refine x_aload_n 3 dL_done_157 rfl rfl ?_ | refine x_aload_nN 3 dL_done_157 rfl rfl ?_
      refine x_iload_n 4 dL_done_158 rfl rfl ?_
      refine x_iconst (v := 3) dL_done_159 rfl ?_
      refine x_iadd dL_done_160 ?_
      rw [show nI i + 3 = nI (i + 3) from nI_add i 3]
      first | refine x_aload_n 3 dL_done_161 rfl rfl ?_ | refine x_aload_nN 3 dL_done_161 rfl rfl ?_
      refine x_iload_n 4 dL_done_162 rfl rfl ?_
      refine x_iconst (v := 2) dL_done_163 rfl ?_
      refine x_iadd dL_done_164 ?_
      refine x_iconst (v := 2) dL_done_165 rfl ?_
      rw [show nI i + 2 = nI (i + 2) from nI_add i 2]
      refine x_callS (mc1 := 0) (ms1 := 0) (As := [.ref _, .int _, .int _]) (ct_pick (i := i + 2) (m := 2) (by omega) (by omega) (by omega)) vL_15 rfl rfl ⟨ble rfl, ble rfl⟩ (ble rfl) dL_done_166 rfl ⟨by omega, by omega⟩ (fun w166 h166 q166 => ?_)
      obtain ⟨⟨r166, hr166, rfl⟩, rfl⟩ := q166
      refine x_if_ne 177 dL_done_169 (by decide) (fun c169 => ?_) (fun c169 => ?_)
      · refine x_bipush (v := 44) dL_done_177 rfl ?_
        refine x_callS (mc1 := 0) (ms1 := 0) (As := [.ref _, .int _, .int _]) (ct_pick (i := i + 3) (m := 44) (by omega) (by omega) (by omega)) vL_15 rfl rfl ⟨ble rfl, ble rfl⟩ (ble rfl) dL_done_179 rfl ⟨by omega, by omega⟩ (fun w179 h179 q179 => ?_)
        obtain ⟨⟨r179, hr179, rfl⟩, rfl⟩ := q179
        refine x_iadd dL_done_182 ?_
        refine x_callW (mc1 := 0) (ms1 := 0) (As := [.int _, .int _]) (Ct.mono (q_planish ok C R J _ _) (fun w h' q => (⟨q.1, q.2.s1 h1⟩ : (∃ v, w = some (.int v)) ∧ S1 G h'))) vL_32 rfl (x_rcC C) rfl ⟨ble rfl, ble rfl⟩ (ble rfl) dL_done_183 rfl ⟨by omega, by omega⟩ (fun w183 h183 q183 => ?_)
        obtain ⟨⟨v183, rfl⟩, S3⟩ := q183
        refine x_iret rfl dL_done_186 ?_
        exact ⟨⟨_, rfl⟩, S3⟩
      · refine x_bipush (v := 12) dL_done_172 rfl ?_
        refine x_goto 179 dL_done_174 (by decide) ?_
        refine x_callS (mc1 := 0) (ms1 := 0) (As := [.ref _, .int _, .int _]) (ct_pick (i := i + 3) (m := 12) (by omega) (by omega) (by omega)) vL_15 rfl rfl ⟨ble rfl, ble rfl⟩ (ble rfl) dL_done_179 rfl ⟨by omega, by omega⟩ (fun w179 h179 q179 => ?_)
        obtain ⟨⟨r179, hr179, rfl⟩, rfl⟩ := q179
        refine x_iadd dL_done_182 ?_
        refine x_callW (mc1 := 0) (ms1 := 0) (As := [.int _, .int _]) (Ct.mono (q_planish ok C R J _ _) (fun w h' q => (⟨q.1, q.2.s1 h1⟩ : (∃ v, w = some (.int v)) ∧ S1 G h'))) vL_32 rfl (x_rcC C) rfl ⟨ble rfl, ble rfl⟩ (ble rfl) dL_done_183 rfl ⟨by omega, by omega⟩ (fun w183 h183 q183 => ?_)
        obtain ⟨⟨v183, rfl⟩, S3⟩ := q183
        refine x_iret rfl dL_done_186 ?_
        exact ⟨⟨_, rfl⟩, S3⟩
    · refine x_tableIn 187 dL_done_38 (by decide) (by decide) (by rfl) (by decide) ?_
      first | refine x_aload_n 2 dL_done_187 rfl rfl ?_ | refine x_aload_nN 2 dL_done_187 rfl rfl ?_
      refine x_iconst (v := 1) dL_done_188 rfl ?_
      first | refine x_aload_n 3 dL_done_189 rfl rfl ?_ | refine x_aload_nN 3 dL_done_189 rfl rfl ?_
      refine x_iload_n 4 dL_done_190 rfl rfl ?_
      refine x_iconst (v := 3) dL_done_191 rfl ?_
      refine x_iadd dL_done_192 ?_
      refine x_bipush (v := 12) dL_done_193 rfl ?_
      rw [show nI i + 3 = nI (i + 3) from nI_add i 3]
      refine x_callS (mc1 := 0) (ms1 := 0) (As := [.ref _, .int _, .int _]) (ct_pick (i := i + 3) (m := 12) (by omega) (by omega) (by omega)) vL_15 rfl rfl ⟨ble rfl, ble rfl⟩ (ble rfl) dL_done_195 rfl ⟨by omega, by omega⟩ (fun w195 h195 q195 => ?_)
      obtain ⟨⟨r195, hr195, rfl⟩, rfl⟩ := q195
      refine x_iadd dL_done_198 ?_
      refine x_callW (mc1 := 0) (ms1 := 0) (As := [.int _]) (Ct.mono (q_bars ok C R J _) (fun w h' q => (⟨q.1, q.2.s1 h1⟩ : (∃ v, w = some (.int v)) ∧ S1 G h'))) vL_47 rfl (x_rcC C) rfl ⟨ble rfl, ble rfl⟩ (ble rfl) dL_done_199 rfl ⟨by omega, by omega⟩ (fun w199 h199 q199 => ?_)
      obtain ⟨⟨v199, rfl⟩, S3⟩ := q199
      refine x_iret rfl dL_done_202 ?_
      exact ⟨⟨_, rfl⟩, S3⟩
    · refine x_tableIn 203 dL_done_38 (by decide) (by decide) (by rfl) (by decide) ?_
      first | refine x_aload_n 2 dL_done_203 rfl rfl ?_ | refine x_aload_nN 2 dL_done_203 rfl rfl ?_
      refine x_iload 1 dL_done_204 rfl ?_
      refine x_iconst (v := 1) dL_done_206 rfl ?_
      first | refine x_aload_n 3 dL_done_207 rfl rfl ?_ | refine x_aload_nN 3 dL_done_207 rfl rfl ?_
      refine x_iload_n 4 dL_done_208 rfl rfl ?_
      refine x_iconst (v := 3) dL_done_209 rfl ?_
      refine x_iadd dL_done_210 ?_
      refine x_iconst (v := 4) dL_done_211 rfl ?_
      rw [show nI i + 3 = nI (i + 3) from nI_add i 3]
      refine x_callS (mc1 := 0) (ms1 := 0) (As := [.ref _, .int _, .int _]) (ct_pick (i := i + 3) (m := 4) (by omega) (by omega) (by omega)) vL_15 rfl rfl ⟨ble rfl, ble rfl⟩ (ble rfl) dL_done_212 rfl ⟨by omega, by omega⟩ (fun w212 h212 q212 => ?_)
      obtain ⟨⟨r212, hr212, rfl⟩, rfl⟩ := q212
      refine x_iadd dL_done_215 ?_
      refine x_callW (mc1 := 0) (ms1 := 0) (As := [.int _, .int _]) (Ct.mono (q_tin ok C R J _ _) (fun w h' q => (⟨q.1, q.2.s1 h1⟩ : (∃ v, w = some (.int v)) ∧ S1 G h'))) vL_35 rfl (x_rcC C) rfl ⟨ble rfl, ble rfl⟩ (ble rfl) dL_done_216 rfl ⟨by omega, by omega⟩ (fun w216 h216 q216 => ?_)
      obtain ⟨⟨v216, rfl⟩, S3⟩ := q216
      refine x_iret rfl dL_done_219 ?_
      exact ⟨⟨_, rfl⟩, S3⟩
    · refine x_tableIn 203 dL_done_38 (by decide) (by decide) (by rfl) (by decide) ?_
      first | refine x_aload_n 2 dL_done_203 rfl rfl ?_ | refine x_aload_nN 2 dL_done_203 rfl rfl ?_
      refine x_iload 1 dL_done_204 rfl ?_
      refine x_iconst (v := 1) dL_done_206 rfl ?_
      first | refine x_aload_n 3 dL_done_207 rfl rfl ?_ | refine x_aload_nN 3 dL_done_207 rfl rfl ?_
      refine x_iload_n 4 dL_done_208 rfl rfl ?_
      refine x_iconst (v := 3) dL_done_209 rfl ?_
      refine x_iadd dL_done_210 ?_
      refine x_iconst (v := 4) dL_done_211 rfl ?_
      rw [show nI i + 3 = nI (i + 3) from nI_add i 3]
      refine x_callS (mc1 := 0) (ms1 := 0) (As := [.ref _, .int _, .int _]) (ct_pick (i := i + 3) (m := 4) (by omega) (by omega) (by omega)) vL_15 rfl rfl ⟨ble rfl, ble rfl⟩ (ble rfl) dL_done_212 rfl ⟨by omega, by omega⟩ (fun w212 h212 q212 => ?_)
      obtain ⟨⟨r212, hr212, rfl⟩, rfl⟩ := q212
      refine x_iadd dL_done_215 ?_
      refine x_callW (mc1 := 0) (ms1 := 0) (As := [.int _, .int _]) (Ct.mono (q_tin ok C R J _ _) (fun w h' q => (⟨q.1, q.2.s1 h1⟩ : (∃ v, w = some (.int v)) ∧ S1 G h'))) vL_35 rfl (x_rcC C) rfl ⟨ble rfl, ble rfl⟩ (ble rfl) dL_done_216 rfl ⟨by omega, by omega⟩ (fun w216 h216 q216 => ?_)
      obtain ⟨⟨v216, rfl⟩, S3⟩ := q216
      refine x_iret rfl dL_done_219 ?_
      exact ⟨⟨_, rfl⟩, S3⟩
    · refine x_tableIn 220 dL_done_38 (by decide) (by decide) (by rfl) (by decide) ?_
      first | refine x_aload_n 2 dL_done_220 rfl rfl ?_ | refine x_aload_nN 2 dL_done_220 rfl rfl ?_
      refine x_iload 1 dL_done_221 rfl ?_
      refine x_iconst (v := 1) dL_done_223 rfl ?_
      first | refine x_aload_n 3 dL_done_224 rfl rfl ?_ | refine x_aload_nN 3 dL_done_224 rfl rfl ?_
      refine x_iload_n 4 dL_done_225 rfl rfl ?_
      refine x_iconst (v := 3) dL_done_226 rfl ?_
      refine x_iadd dL_done_227 ?_
      refine x_bipush (v := 9) dL_done_228 rfl ?_
      rw [show nI i + 3 = nI (i + 3) from nI_add i 3]
      refine x_callS (mc1 := 0) (ms1 := 0) (As := [.ref _, .int _, .int _]) (ct_pick (i := i + 3) (m := 9) (by omega) (by omega) (by omega)) vL_15 rfl rfl ⟨ble rfl, ble rfl⟩ (ble rfl) dL_done_230 rfl ⟨by omega, by omega⟩ (fun w230 h230 q230 => ?_)
      obtain ⟨⟨r230, hr230, rfl⟩, rfl⟩ := q230
      refine x_iadd dL_done_233 ?_
      refine x_callW (mc1 := 0) (ms1 := 0) (As := [.int _, .int _]) (Ct.mono (q_cook ok C R J _ _) (fun w h' q => (⟨q.1, q.2.s1 h1⟩ : (∃ v, w = some (.int v)) ∧ S1 G h'))) vL_50 rfl (x_rcC C) rfl ⟨ble rfl, ble rfl⟩ (ble rfl) dL_done_234 rfl ⟨by omega, by omega⟩ (fun w234 h234 q234 => ?_)
      obtain ⟨⟨v234, rfl⟩, S3⟩ := q234
      refine x_iret rfl dL_done_237 ?_
      exact ⟨⟨_, rfl⟩, S3⟩
    · refine x_tableIn 220 dL_done_38 (by decide) (by decide) (by rfl) (by decide) ?_
      first | refine x_aload_n 2 dL_done_220 rfl rfl ?_ | refine x_aload_nN 2 dL_done_220 rfl rfl ?_
      refine x_iload 1 dL_done_221 rfl ?_
      refine x_iconst (v := 1) dL_done_223 rfl ?_
      first | refine x_aload_n 3 dL_done_224 rfl rfl ?_ | refine x_aload_nN 3 dL_done_224 rfl rfl ?_
      refine x_iload_n 4 dL_done_225 rfl rfl ?_
      refine x_iconst (v := 3) dL_done_226 rfl ?_
      refine x_iadd dL_done_227 ?_
      refine x_bipush (v := 9) dL_done_228 rfl ?_
      rw [show nI i + 3 = nI (i + 3) from nI_add i 3]
      refine x_callS (mc1 := 0) (ms1 := 0) (As := [.ref _, .int _, .int _]) (ct_pick (i := i + 3) (m := 9) (by omega) (by omega) (by omega)) vL_15 rfl rfl ⟨ble rfl, ble rfl⟩ (ble rfl) dL_done_230 rfl ⟨by omega, by omega⟩ (fun w230 h230 q230 => ?_)
      obtain ⟨⟨r230, hr230, rfl⟩, rfl⟩ := q230
      refine x_iadd dL_done_233 ?_
      refine x_callW (mc1 := 0) (ms1 := 0) (As := [.int _, .int _]) (Ct.mono (q_cook ok C R J _ _) (fun w h' q => (⟨q.1, q.2.s1 h1⟩ : (∃ v, w = some (.int v)) ∧ S1 G h'))) vL_50 rfl (x_rcC C) rfl ⟨ble rfl, ble rfl⟩ (ble rfl) dL_done_234 rfl ⟨by omega, by omega⟩ (fun w234 h234 q234 => ?_)
      obtain ⟨⟨v234, rfl⟩, S3⟩ := q234
      refine x_iret rfl dL_done_237 ?_
      exact ⟨⟨_, rfl⟩, S3⟩
    · refine x_tableIn 238 dL_done_38 (by decide) (by decide) (by rfl) (by decide) ?_
      first | refine x_aload_n 2 dL_done_238 rfl rfl ?_ | refine x_aload_nN 2 dL_done_238 rfl rfl ?_
      first | refine x_aload_n 3 dL_done_239 rfl rfl ?_ | refine x_aload_nN 3 dL_done_239 rfl rfl ?_
      refine x_iload_n 4 dL_done_240 rfl rfl ?_
      refine x_iconst (v := 1) dL_done_241 rfl ?_
      refine x_iadd dL_done_242 ?_
      refine x_iconst (v := 3) dL_done_243 rfl ?_
      rw [show nI i + 1 = nI (i + 1) from nI_add i 1]
      refine x_callS (mc1 := 0) (ms1 := 0) (As := [.ref _, .int _, .int _]) (ct_pick (i := i + 1) (m := 3) (by omega) (by omega) (by omega)) vL_15 rfl rfl ⟨ble rfl, ble rfl⟩ (ble rfl) dL_done_244 rfl ⟨by omega, by omega⟩ (fun w244 h244 q244 => ?_)
      obtain ⟨⟨r244, hr244, rfl⟩, rfl⟩ := q244
      refine x_iconst (v := 1) dL_done_247 rfl ?_
      first | refine x_aload_n 3 dL_done_248 rfl rfl ?_ | refine x_aload_nN 3 dL_done_248 rfl rfl ?_
      refine x_iload_n 4 dL_done_249 rfl rfl ?_
      refine x_iconst (v := 2) dL_done_250 rfl ?_
      refine x_iadd dL_done_251 ?_
      refine x_bipush (v := 9) dL_done_252 rfl ?_
      rw [show nI i + 2 = nI (i + 2) from nI_add i 2]
      refine x_callS (mc1 := 0) (ms1 := 0) (As := [.ref _, .int _, .int _]) (ct_pick (i := i + 2) (m := 9) (by omega) (by omega) (by omega)) vL_15 rfl rfl ⟨ble rfl, ble rfl⟩ (ble rfl) dL_done_254 rfl ⟨by omega, by omega⟩ (fun w254 h254 q254 => ?_)
      obtain ⟨⟨r254, hr254, rfl⟩, rfl⟩ := q254
      refine x_iadd dL_done_257 ?_
      refine x_iconst (v := 1) dL_done_258 rfl ?_
      first | refine x_aload_n 3 dL_done_259 rfl rfl ?_ | refine x_aload_nN 3 dL_done_259 rfl rfl ?_
      refine x_iload_n 4 dL_done_260 rfl rfl ?_
      refine x_iconst (v := 3) dL_done_261 rfl ?_
      refine x_iadd dL_done_262 ?_
      refine x_bipush (v := 99) dL_done_263 rfl ?_
      rw [show nI i + 3 = nI (i + 3) from nI_add i 3]
      refine x_callS (mc1 := 0) (ms1 := 0) (As := [.ref _, .int _, .int _]) (ct_pick (i := i + 3) (m := 99) (by omega) (by omega) (by omega)) vL_15 rfl rfl ⟨ble rfl, ble rfl⟩ (ble rfl) dL_done_265 rfl ⟨by omega, by omega⟩ (fun w265 h265 q265 => ?_)
      obtain ⟨⟨r265, hr265, rfl⟩, rfl⟩ := q265
      refine x_iadd dL_done_268 ?_
      refine x_callW (mc1 := 0) (ms1 := 0) (As := [.int _, .int _, .int _]) (Ct.mono (q_baker ok C R J _ _ _) (fun w h' q => (⟨q.1, q.2.s1 h1⟩ : (∃ v, w = some (.int v)) ∧ S1 G h'))) vL_38 rfl (x_rcC C) rfl ⟨ble rfl, ble rfl⟩ (ble rfl) dL_done_269 rfl ⟨by omega, by omega⟩ (fun w269 h269 q269 => ?_)
      obtain ⟨⟨v269, rfl⟩, S3⟩ := q269
      refine x_iret rfl dL_done_272 ?_
      exact ⟨⟨_, rfl⟩, S3⟩
set_option maxRecDepth 100000 in
set_option maxHeartbeats 2000000 in
theorem ct_any {l : Launch} {G : Gl} {h : Hp} (ok : Ok G) (S : S1 G h) {i : Nat} (hi : i + 10 < 2 ^ 31) : Ct l G mL_any 8 0 0 [.ref (Ad G 0), .ref (G.2.2.2 60), .int (nI i)] h (fun w h' => (∃ v, w = some (.int v)) ∧ S1 G h') := by
  refine Ct.of (L := [(0, _), (1, _), (2, _)]) (by decide) (ble rfl) rfl ?_
  first | refine x_aload_n 0 dL_any_0 rfl rfl ?_ | refine x_aload_nN 0 dL_any_0 rfl rfl ?_
  first | refine x_aload_n 1 dL_any_1 rfl rfl ?_ | refine x_aload_nN 1 dL_any_1 rfl rfl ?_
  refine x_iload_n 2 dL_any_2 rfl rfl ?_
  first | refine x_aload_n 1 dL_any_3 rfl rfl ?_ | refine x_aload_nN 1 dL_any_3 rfl rfl ?_
  refine x_iload_n 2 dL_any_4 rfl rfl ?_
  refine x_bipush (v := 15) dL_any_5 rfl ?_
  refine x_callS (mc1 := 0) (ms1 := 0) (As := [.ref _, .int _, .int _]) (ct_pick (i := i) (m := 15) (by omega) (by omega) (by omega)) vL_15 rfl rfl ⟨ble rfl, ble rfl⟩ (ble rfl) dL_any_7 rfl ⟨by omega, by omega⟩ (fun w7 h7 q7 => ?_)
  obtain ⟨⟨r7, hr7, rfl⟩, rfl⟩ := q7
  refine x_callS (mc1 := 0) (ms1 := 0) (As := [.ref _, .ref _, .int _, .int _]) (ct_done ok S hi _) vL_59 rfl rfl ⟨ble rfl, ble rfl⟩ (ble rfl) dL_any_10 rfl ⟨by omega, by omega⟩ (fun w10 h10 q10 => ?_)
  obtain ⟨⟨v10, rfl⟩, S3⟩ := q10
  refine x_iret rfl dL_any_13 ?_
  exact ⟨⟨_, rfl⟩, S3⟩
