/-! ===== the law: are the pots right ===== -/
theorem sm_area : ∀ k, k < 3 → (2 : Int32) * kArea k = kSm k := by decide +kernel
theorem kNum_n : ∀ k, k < 3 → kNum k = nI k := by decide +kernel
def kSN (k : Nat) : Nat := ([24, 16, 40] : List Nat).getD k 0
theorem kSm_n : ∀ k, k < 3 → kSm k = nI (kSN k) ∧ kSN k ≤ 40 := by decide +kernel
theorem thick_n : ∀ k, k < 3 → ∀ g, g < 10 → ∀ b, b < 201 → thickK k (nI g) (nI b) = nI (g - (b - kSN k) / 6) := by decide +kernel
theorem tc_n : ∀ k, k < 3 → ∀ g, g < 10 → ¬ g = 0 → ∀ b, b < 201 → crackedK k (nI g) (nI b) = if thickK k (nI g) (nI b) = 0 then 1 else 0 := by decide +kernel
theorem dn_n : ∀ T, T < 10 → (if (0 : Int32) < nI T - 1 then nI T - 1 else 0) = nI (T - 1) := by decide +kernel
theorem lt6_n : ∀ b, b < 41 → ∀ s, s < 41 → b < s → nI b - nI s < 6 := by decide +kernel
theorem mx_0 (a : Int32) : mx a 0 = if 0 < a then a else 0 := by
  unfold mx
  by_cases h : a < 0
  · rw [if_pos h, if_neg (fun z => Int32.lt_irrefl (Int32.lt_trans h z))]
  · rw [if_neg h]
    by_cases h2 : 0 < a
    · rw [if_pos h2]
    · rw [if_neg h2]
      exact Int32.le_antisymm (Int32.not_lt.mp h2) (Int32.not_lt.mp h)
theorem mn_9 : ∀ t, t < 10 → mn (nI t + 0) 9 = nI t := by decide +kernel
def inV (N : Nat → Int32) (i : Nat) : Int32 := if N (66 + 8 * i) = -4 then snM N i else 0
theorem inS_e1 {N : Nat → Int32} {i : Nat} (h : ¬ inS N i = 0) : inS N i = 1 := by
  unfold inS at *
  by_cases c : N (66 + 8 * i) = -4
  · exact if_pos c
  · rw [if_neg c] at h; exact absurd rfl h
theorem inV_0 {N : Nat → Int32} {i : Nat} (h : inS N i = 0) : inV N i = 0 := by
  unfold inS at h
  unfold inV
  by_cases c : N (66 + 8 * i) = -4
  · rw [if_pos c] at h; exact absurd h (by decide)
  · exact if_neg c
theorem inV_1 {N : Nat → Int32} {i : Nat} (h : ¬ inS N i = 0) : inV N i = snM N i := by
  unfold inS at h
  unfold inV
  by_cases c : N (66 + 8 * i) = -4
  · exact if_pos c
  · rw [if_neg c] at h; exact absurd rfl h
theorem smooth_1 {k : Nat} {b : Int32} (h : ¬ smoothK k b = 0) : smoothK k b = 1 := by
  unfold smoothK at *
  by_cases c : b < kSm k
  · rw [if_pos c] at h; exact absurd rfl h
  · exact if_neg c
/-- how the sound would be without a further blow, and with as many as it bears -/
theorem ws_0 {N : Nat → Int32} {i : Nat} (P : PotI N i) : ringK (kOf (N (60 + 8 * i))) (N (61 + 8 * i)) (N (62 + 8 * i) + 0) (mn (N (63 + 8 * i) + 0) 9) = snM N i := by
  obtain ⟨-, -, -, ⟨t, ht, ht9⟩, -⟩ := P
  unfold snM
  rw [ht, mn_9 t (by omega), Int32.add_zero]
theorem mxc_n : ∀ k, k < 3 → ∀ g, g < 10 → ∀ b, b < 201 → mx (crackK k (nI g) - nI b) 0 = nI (kSN k + 6 * g - b) := by decide +kernel
theorem th_z : ∀ k, k < 3 → ∀ g, g < 10 → ∀ b, b < 201 → ¬ crackedK k (nI g) (nI b) = 1 → thickK k (nI g) (nI b + nI (kSN k + 6 * g - b)) = 0 := by decide +kernel
theorem ws_A {N : Nat → Int32} {i : Nat} (P : PotI N i) (h : ¬ crackedK (kOf (N (60 + 8 * i))) (N (61 + 8 * i)) (N (62 + 8 * i)) = 1) (t : Int32) : ringK (kOf (N (60 + 8 * i))) (N (61 + 8 * i)) (N (62 + 8 * i) + mx (crackK (kOf (N (60 + 8 * i))) (N (61 + 8 * i)) - N (62 + 8 * i)) 0) t = 0 := by
  obtain ⟨pk, ⟨g, hg, hg1, hg9⟩, ⟨b, hb, hb2⟩, -⟩ := P
  rw [hg, hb] at h
  rw [hg, hb, mxc_n _ pk.2 g (by omega) b (by omega)]
  unfold ringK
  rw [th_z _ pk.2 g (by omega) b (by omega) h]
  exact if_pos rfl
theorem mxc_r {N : Nat → Int32} {i : Nat} (P : PotI N i) : ¬ mx (crackK (kOf (N (60 + 8 * i))) (N (61 + 8 * i)) - N (62 + 8 * i)) 0 < 0 := by
  obtain ⟨pk, ⟨g, hg, hg1, hg9⟩, ⟨b, hb, hb2⟩, -⟩ := P
  rw [hg, hb, mxc_n _ pk.2 g (by omega) b (by omega)]
  have : kSN (kOf (N (60 + 8 * i))) ≤ 40 := (kSm_n _ pk.2).2
  exact nI_pos (by omega)
theorem tc_e {N : Nat → Int32} {i : Nat} (P : PotI N i) : crackedK (kOf (N (60 + 8 * i))) (N (61 + 8 * i)) (N (62 + 8 * i)) = if thickK (kOf (N (60 + 8 * i))) (N (61 + 8 * i)) (N (62 + 8 * i)) = 0 then 1 else 0 := by
  obtain ⟨pk, ⟨g, hg, hg1, hg9⟩, ⟨b, hb, hb2⟩, -⟩ := P
  rw [hg, hb]; exact tc_n _ pk.2 g (by omega) (by omega) b (by omega)
theorem sub6 {q : Nat} (h : 6 ≤ q) : nI q + (-6) = nI (q - 6) := by rw [show (-6 : Int32) = -(nI 6) from rfl, ← Int32.sub_eq_add_neg, nI_sub' h]
theorem sold_i (x : Int32) : (if x = -4 then (1 : Int32) else 0) = if soldK x = 0 then 1 else 0 := by
  unfold soldK
  by_cases h : x = -4
  · rw [if_pos h, if_pos h]; rfl
  · rw [if_neg h, if_neg h]; rfl
/-- pots in the shop: all but those that are sold -/
theorem shop_n {N : Nat → Int32} {ns np no : Nat} (R : RI N ns np no) : sm (inS N) np = N 3 - sm (fun i => soldK (N (191 + 5 * i))) no ∧ sm (inS N) np = mrS (lz N np) np := by
  have e : sm (inS N) np = sm (fun i => if soldK (N (66 + 8 * i)) = 0 then (1 : Int32) else 0) np := sm_cg (fun i hi => by unfold inS; exact sold_i _)
  have AP := R.1.2.2.2.2.2.2.1
  refine ⟨?_, by rw [e, mr_e AP]⟩
  rw [e, R.1.2.1, ← shop_e N np, R.2.2.1, Int32.sub_eq_add_neg, Int32.add_assoc, Int32.add_right_neg, Int32.add_zero]
theorem shop_v {N : Nat → Int32} {ns np no : Nat} (R : RI N ns np no) : sm (inV N) np = msS (lz N np) np := by
  have AP := R.1.2.2.2.2.2.2.1
  rw [ms_e AP]
  refine sm_cg (fun i hi => ?_)
  unfold inV
  by_cases h : N (66 + 8 * i) = -4
  · rw [if_pos h, if_pos (show soldK (N (66 + 8 * i)) = 0 by unfold soldK; exact if_pos h), Int32.one_mul]; rfl
  · rw [if_neg h, if_neg (show ¬ soldK (N (66 + 8 * i)) = 0 by unfold soldK; rw [if_neg h]; decide), Int32.zero_mul]
set_option maxRecDepth 100000 in
set_option maxHeartbeats 4000000 in
theorem ap_in {l : Launch} {G : Gl} {h : Hp} {N : Nat → Int32} {ns np no : Nat} (ok : Ok G) (C : Cs G h N ns np no) (R : RI N ns np no) (J : RJ N ns np no) {p TT : Nat} (kk : ∀ T : Nat, ∀ z : Int32, T = TT → XX l G mL_arePotsRight (Rm 8 0 0) (KQ G (Rm 8 0 0) (fun w h' => w = some (.int 1) ∧ Cs G h' N ns np no)) 0 0 83 [(9, .int z), (8, .int (nI T)), (7, .int (kSm (kOf (N (60 + 8 * p))))), (6, .int (nI (p))), (5, .int 1), (4, .int (sm (inV N) (p))), (3, .int (sm (inS N) (p))), (2, .int (sm (fun i => crackedK (kOf (N (60 + 8 * i))) (N (61 + 8 * i)) (N (62 + 8 * i))) (p))), (1, .int (sm (fun i => smoothK (kOf (N (60 + 8 * i))) (N (62 + 8 * i))) (p))), (0, .ref (Ad G 0))] [] h) : ∀ (n q T : Nat), q < 6 * n + 6 → q < 1000 → T < 10 → T - q / 6 = TT → XX l G mL_arePotsRight (Rm 8 0 0) (KQ G (Rm 8 0 0) (fun w h' => w = some (.int 1) ∧ Cs G h' N ns np no)) 0 0 60 [(9, .int (nI q)), (8, .int (nI T)), (7, .int (kSm (kOf (N (60 + 8 * p))))), (6, .int (nI (p))), (5, .int 1), (4, .int (sm (inV N) (p))), (3, .int (sm (inS N) (p))), (2, .int (sm (fun i => crackedK (kOf (N (60 + 8 * i))) (N (61 + 8 * i)) (N (62 + 8 * i))) (p))), (1, .int (sm (fun i => smoothK (kOf (N (60 + 8 * i))) (N (62 + 8 * i))) (p))), (0, .ref (Ad G 0))] [] h
  | 0, q, T, hq, hq2, hT, hE => by
    refine x_iload 0 dL_arePotsRight_60 rfl ?_
    refine x_bipush (v := 6) dL_arePotsRight_62 rfl ?_
    refine x_icmp_lt 83 dL_arePotsRight_64 (by decide) (fun _ => ?_) (fun z => by first | exact absurd (nI_lt (show q < 6 by omega) (by omega)) z | exact absurd z (nI_lt (show q < 6 by omega) (by omega)))
    refine x_locs (L' := [(9, _), (8, _), (7, _), (6, _), (5, _), (4, _), (3, _), (2, _), (1, _), (0, _)]) [0, 1, 2, 3, 4, 5, 6, 7, 8, 9] rfl ?_
    exact kk T _ (by omega)
  | n + 1, q, T, hq, hq2, hT, hE => by
    by_cases h6 : q < 6
    · refine x_iload 0 dL_arePotsRight_60 rfl ?_
      refine x_bipush (v := 6) dL_arePotsRight_62 rfl ?_
      refine x_icmp_lt 83 dL_arePotsRight_64 (by decide) (fun _ => ?_) (fun z => by first | exact absurd (nI_lt h6 (by omega)) z | exact absurd z (nI_lt h6 (by omega)))
      refine x_locs (L' := [(9, _), (8, _), (7, _), (6, _), (5, _), (4, _), (3, _), (2, _), (1, _), (0, _)]) [0, 1, 2, 3, 4, 5, 6, 7, 8, 9] rfl ?_
      exact kk T _ (by omega)
    · refine x_iload 0 dL_arePotsRight_60 rfl ?_
      refine x_bipush (v := 6) dL_arePotsRight_62 rfl ?_
      refine x_icmp_lt 83 dL_arePotsRight_64 (by decide) (fun z => by first | exact absurd z (nI_nlt (show 6 ≤ q by omega) (by omega)) | exact absurd (nI_nlt (show 6 ≤ q by omega) (by omega)) z) (fun _ => ?_)
      refine x_iconst (v := 0) dL_arePotsRight_67 rfl ?_
      refine x_iload 1 dL_arePotsRight_68 rfl ?_
      refine x_iconst (v := 1) dL_arePotsRight_70 rfl ?_
      refine x_isub dL_arePotsRight_71 ?_
      refine x_mmax rfl wL_42 wMmax2 wMath3 wMmax4 (ble rfl) (ble rfl) dL_arePotsRight_72 ?_
      rw [dn_n T hT]
      refine x_istore (L' := [(8, _), (9, _), (7, _), (6, _), (5, _), (4, _), (3, _), (2, _), (1, _), (0, _)]) dL_arePotsRight_75 (ble rfl) rfl ?_
      refine x_iinc (L' := [(9, _), (8, _), (7, _), (6, _), (5, _), (4, _), (3, _), (2, _), (1, _), (0, _)]) (j := 1) (_ + (-6)) dL_arePotsRight_77 rfl rfl (ble rfl) rfl ?_
      rw [sub6 (show 6 ≤ q by omega)]
      refine x_goto 60 dL_arePotsRight_80 (by decide) ?_
      refine x_locs (L' := [(9, _), (8, _), (7, _), (6, _), (5, _), (4, _), (3, _), (2, _), (1, _), (0, _)]) [0, 1, 2, 3, 4, 5, 6, 7, 8, 9] rfl ?_
      exact ap_in ok C R J kk n (q - 6) (T - 1) (by omega) (by omega) (by omega) (by omega)
set_option maxRecDepth 100000 in
set_option maxHeartbeats 4000000 in
theorem ap_c {l : Launch} {G : Gl} {h : Hp} {N : Nat → Int32} {ns np no : Nat} (ok : Ok G) (C : Cs G h N ns np no) (R : RI N ns np no) (J : RJ N ns np no) {p : Nat} (hi : p < np) (kk : XX l G mL_arePotsRight (Rm 8 0 0) (KQ G (Rm 8 0 0) (fun w h' => w = some (.int 1) ∧ Cs G h' N ns np no)) 0 0 15 [(6, .int (nI (p + 1))), (5, .int 1), (4, .int (sm (inV N) (p + 1))), (3, .int (sm (inS N) (p + 1))), (2, .int (sm (fun i => crackedK (kOf (N (60 + 8 * i))) (N (61 + 8 * i)) (N (62 + 8 * i))) (p + 1))), (1, .int (sm (fun i => smoothK (kOf (N (60 + 8 * i))) (N (62 + 8 * i))) (p + 1))), (0, .ref (Ad G 0))] [] h) : XX l G mL_arePotsRight (Rm 8 0 0) (KQ G (Rm 8 0 0) (fun w h' => w = some (.int 1) ∧ Cs G h' N ns np no)) 0 0 378 [(6, .int (nI (p))), (5, .int 1), (4, .int (sm (inV N) (p))), (3, .int (sm (inS N) (p))), (2, .int (sm (fun i => crackedK (kOf (N (60 + 8 * i))) (N (61 + 8 * i)) (N (62 + 8 * i))) (p))), (1, .int (sm (fun i => smoothK (kOf (N (60 + 8 * i))) (N (62 + 8 * i))) (p))), (0, .ref (Ad G 0))] [] h := by
  refine x_iload_n 5 dL_arePotsRight_378 rfl rfl ?_
  first | refine x_aload_n 6 dL_arePotsRight_379 rfl rfl ?_ | refine x_aload_nN 6 dL_arePotsRight_379 rfl rfl ?_
  refine x_iload 0 dL_arePotsRight_380 rfl ?_
  refine x_bipush (v := 6) dL_arePotsRight_382 rfl ?_
  refine x_cV1 (As := [.int _, .int _]) (q_pt6 ok C (by assumption)) vL_66 rfl (x_rcC C) rfl ⟨ble rfl, ble rfl⟩ (ble rfl) dL_arePotsRight_384 rfl ?_
  refine x_iadd dL_arePotsRight_387 ?_
  refine x_istore_n (L' := [(1, _), (6, _), (5, _), (4, _), (3, _), (2, _), (0, _)]) dL_arePotsRight_388 rfl (ble rfl) rfl ?_
  refine x_iload_n 5 dL_arePotsRight_389 rfl rfl ?_
  first | refine x_aload_n 6 dL_arePotsRight_390 rfl rfl ?_ | refine x_aload_nN 6 dL_arePotsRight_390 rfl rfl ?_
  refine x_iload 1 dL_arePotsRight_391 rfl ?_
  refine x_bipush (v := 7) dL_arePotsRight_393 rfl ?_
  refine x_cV1 (As := [.int _, .int _]) (q_pt7 ok C (by assumption)) vL_66 rfl (x_rcC C) rfl ⟨ble rfl, ble rfl⟩ (ble rfl) dL_arePotsRight_395 rfl ?_
  refine x_iadd dL_arePotsRight_398 ?_
  refine x_istore_n (L' := [(2, _), (1, _), (6, _), (5, _), (4, _), (3, _), (0, _)]) dL_arePotsRight_399 rfl (ble rfl) rfl ?_
  refine x_iload_n 5 dL_arePotsRight_400 rfl rfl ?_
  first | refine x_aload_n 6 dL_arePotsRight_401 rfl rfl ?_ | refine x_aload_nN 6 dL_arePotsRight_401 rfl rfl ?_
  refine x_iload 2 dL_arePotsRight_402 rfl ?_
  refine x_cS1 (As := [.ref _, .int _]) (ct_isInShop ok C (by assumption)) vL_94 rfl rfl ⟨ble rfl, ble rfl⟩ (ble rfl) dL_arePotsRight_404 rfl ?_
  have J415 : ∀ (v : Int32), v = inS N p → XX l G mL_arePotsRight (Rm 8 0 0) (KQ G (Rm 8 0 0) (fun w h' => w = some (.int 1) ∧ Cs G h' N ns np no)) 0 0 415 [(6, .int (nI p)), (5, .int 1), (4, .int (sm (inV N) p)), (2, .int (sm (fun i => crackedK (kOf (N (60 + 8 * i))) (N (61 + 8 * i)) (N (62 + 8 * i))) p + (crackedK (kOf (N (60 + 8 * p))) (N (61 + 8 * p)) (N (62 + 8 * p))))), (1, .int (sm (fun i => smoothK (kOf (N (60 + 8 * i))) (N (62 + 8 * i))) p + (smoothK (kOf (N (60 + 8 * p))) (N (62 + 8 * p))))), (0, .ref (Ad G 0))] [.int v, .int (sm (inS N) p)] h := by
    intro v ev
    subst ev
    refine x_iadd dL_arePotsRight_415 ?_
    refine x_istore_n (L' := [(3, _), (6, _), (5, _), (4, _), (2, _), (1, _), (0, _)]) dL_arePotsRight_416 rfl (ble rfl) rfl ?_
    refine x_iload 3 dL_arePotsRight_417 rfl ?_
    first | refine x_aload_n 6 dL_arePotsRight_419 rfl rfl ?_ | refine x_aload_nN 6 dL_arePotsRight_419 rfl rfl ?_
    refine x_iload 1 dL_arePotsRight_420 rfl ?_
    refine x_cS1 (As := [.ref _, .int _]) (ct_isInShop ok C (by assumption)) vL_94 rfl rfl ⟨ble rfl, ble rfl⟩ (ble rfl) dL_arePotsRight_422 rfl ?_
    have J438 : ∀ (v : Int32), v = inV N p → XX l G mL_arePotsRight (Rm 8 0 0) (KQ G (Rm 8 0 0) (fun w h' => w = some (.int 1) ∧ Cs G h' N ns np no)) 0 0 438 [(3, .int (sm (inS N) p + inS N p)), (6, .int (nI p)), (5, .int 1), (2, .int (sm (fun i => crackedK (kOf (N (60 + 8 * i))) (N (61 + 8 * i)) (N (62 + 8 * i))) p + (crackedK (kOf (N (60 + 8 * p))) (N (61 + 8 * p)) (N (62 + 8 * p))))), (1, .int (sm (fun i => smoothK (kOf (N (60 + 8 * i))) (N (62 + 8 * i))) p + (smoothK (kOf (N (60 + 8 * p))) (N (62 + 8 * p))))), (0, .ref (Ad G 0))] [.int v, .int (sm (inV N) p)] h := by
      intro v ev
      subst ev
      refine x_iadd dL_arePotsRight_438 ?_
      refine x_istore (L' := [(4, _), (3, _), (6, _), (5, _), (2, _), (1, _), (0, _)]) dL_arePotsRight_439 (ble rfl) rfl ?_
      refine x_iinc (L' := [(6, _), (4, _), (3, _), (5, _), (2, _), (1, _), (0, _)]) (j := 2) (nI (_ + 1)) dL_arePotsRight_441 rfl (nI_1 _) (ble rfl) rfl ?_
      refine x_goto 15 dL_arePotsRight_444 (by decide) ?_
      refine x_locs (L' := [(6, _), (5, _), (4, _), (3, _), (2, _), (1, _), (0, _)]) [0, 3, 1, 2, 4, 5, 6] rfl ?_
      exact kk
    refine x_if_eq 437 dL_arePotsRight_425 (by decide) (fun c425 => ?_) (fun c425 => ?_)
    · refine x_iconst (v := 0) dL_arePotsRight_437 rfl ?_
      refine x_locs (L' := [(3, _), (6, _), (5, _), (2, _), (1, _), (0, _)]) [0, 1, 2, 4, 5, 6] rfl ?_
      exact J438 _ (by first | exact (inV_0 c425).symm | exact (inV_1 c425).symm)
    · first | refine x_aload_n 6 dL_arePotsRight_428 rfl rfl ?_ | refine x_aload_nN 6 dL_arePotsRight_428 rfl rfl ?_
      refine x_iload 1 dL_arePotsRight_429 rfl ?_
      refine x_cV1 (As := [.int _]) (q_snd ok C (by assumption)) vL_78 rfl (x_rcC C) rfl ⟨ble rfl, ble rfl⟩ (ble rfl) dL_arePotsRight_431 rfl ?_
      refine x_goto 438 dL_arePotsRight_434 (by decide) ?_
      refine x_locs (L' := [(3, _), (6, _), (5, _), (2, _), (1, _), (0, _)]) [0, 1, 2, 4, 5, 6] rfl ?_
      exact J438 _ (by first | exact (inV_0 c425).symm | exact (inV_1 c425).symm)
  refine x_if_eq 414 dL_arePotsRight_407 (by decide) (fun c407 => ?_) (fun c407 => ?_)
  · refine x_iconst (v := 0) dL_arePotsRight_414 rfl ?_
    refine x_locs (L' := [(6, _), (5, _), (4, _), (2, _), (1, _), (0, _)]) [2, 3, 4, 0, 1, 6] rfl ?_
    exact J415 _ (by first | exact c407.symm | exact (inS_e1 c407).symm)
  · refine x_iconst (v := 1) dL_arePotsRight_410 rfl ?_
    refine x_goto 415 dL_arePotsRight_411 (by decide) ?_
    refine x_locs (L' := [(6, _), (5, _), (4, _), (2, _), (1, _), (0, _)]) [2, 3, 4, 0, 1, 6] rfl ?_
    exact J415 _ (by first | exact c407.symm | exact (inS_e1 c407).symm)
set_option maxRecDepth 100000 in
set_option maxHeartbeats 4000000 in
theorem ap_b {l : Launch} {G : Gl} {h : Hp} {N : Nat → Int32} {ns np no : Nat} (ok : Ok G) (C : Cs G h N ns np no) (R : RI N ns np no) (J : RJ N ns np no) {p : Nat} (hi : p < np) (kk : XX l G mL_arePotsRight (Rm 8 0 0) (KQ G (Rm 8 0 0) (fun w h' => w = some (.int 1) ∧ Cs G h' N ns np no)) 0 0 378 [(6, .int (nI (p))), (5, .int 1), (4, .int (sm (inV N) (p))), (3, .int (sm (inS N) (p))), (2, .int (sm (fun i => crackedK (kOf (N (60 + 8 * i))) (N (61 + 8 * i)) (N (62 + 8 * i))) (p))), (1, .int (sm (fun i => smoothK (kOf (N (60 + 8 * i))) (N (62 + 8 * i))) (p))), (0, .ref (Ad G 0))] [] h) : XX l G mL_arePotsRight (Rm 8 0 0) (KQ G (Rm 8 0 0) (fun w h' => w = some (.int 1) ∧ Cs G h' N ns np no)) 0 0 228 [(7, .int (kSm (kOf (N (60 + 8 * p))))), (6, .int (nI (p))), (5, .int 1), (4, .int (sm (inV N) (p))), (3, .int (sm (inS N) (p))), (2, .int (sm (fun i => crackedK (kOf (N (60 + 8 * i))) (N (61 + 8 * i)) (N (62 + 8 * i))) (p))), (1, .int (sm (fun i => smoothK (kOf (N (60 + 8 * i))) (N (62 + 8 * i))) (p))), (0, .ref (Ad G 0))] [] h := by
  have P := R.1.2.2.2.2.2.2.1 p hi
  refine x_iload 2 dL_arePotsRight_228 rfl ?_
  refine x_if_eq 375 dL_arePotsRight_230 (by decide) (fun z => by first | exact absurd z (by decide) | exact absurd (by decide) z) (fun _ => ?_)
  first | refine x_aload_n 7 dL_arePotsRight_233 rfl rfl ?_ | refine x_aload_nN 7 dL_arePotsRight_233 rfl rfl ?_
  refine x_iload 1 dL_arePotsRight_234 rfl ?_
  refine x_cV1 (As := [.int _]) (q_snd ok C (by assumption)) vL_78 rfl (x_rcC C) rfl ⟨ble rfl, ble rfl⟩ (ble rfl) dL_arePotsRight_236 rfl ?_
  first | refine x_aload_n 7 dL_arePotsRight_239 rfl rfl ?_ | refine x_aload_nN 7 dL_arePotsRight_239 rfl rfl ?_
  refine x_iload 1 dL_arePotsRight_240 rfl ?_
  refine x_cS1 (As := [.ref _, .int _]) (ct_soundOf ok C (by assumption) (by assumption)) vL_81 rfl rfl ⟨ble rfl, ble rfl⟩ (ble rfl) dL_arePotsRight_242 rfl ?_
  refine x_icmp_ne 375 dL_arePotsRight_245 (by decide) (fun z => by first | exact absurd z (rfl) | exact absurd (rfl) z) (fun _ => ?_)
  first | refine x_aload_n 7 dL_arePotsRight_248 rfl rfl ?_ | refine x_aload_nN 7 dL_arePotsRight_248 rfl rfl ?_
  refine x_iload 1 dL_arePotsRight_249 rfl ?_
  refine x_cV1 (As := [.int _]) (q_sna ok C (by assumption) (by assumption)) vL_85 rfl (x_rcC C) rfl ⟨ble rfl, ble rfl⟩ (ble rfl) dL_arePotsRight_251 rfl ?_
  first | refine x_aload_n 7 dL_arePotsRight_254 rfl rfl ?_ | refine x_aload_nN 7 dL_arePotsRight_254 rfl rfl ?_
  refine x_iload 1 dL_arePotsRight_255 rfl ?_
  refine x_cV1 (As := [.int _]) (q_snd ok C (by assumption)) vL_78 rfl (x_rcC C) rfl ⟨ble rfl, ble rfl⟩ (ble rfl) dL_arePotsRight_257 rfl ?_
  refine x_icmp_ne 375 dL_arePotsRight_260 (by decide) (fun z => by first | exact absurd z (rfl) | exact absurd (rfl) z) (fun _ => ?_)
  first | refine x_aload_n 7 dL_arePotsRight_263 rfl rfl ?_ | refine x_aload_nN 7 dL_arePotsRight_263 rfl rfl ?_
  refine x_iload 1 dL_arePotsRight_264 rfl ?_
  refine x_iconst (v := 0) dL_arePotsRight_266 rfl ?_
  refine x_cV1 (As := [.int _, .int _]) (q_bl0 ok C (by assumption)) vL_88 rfl (x_rcC C) rfl ⟨ble rfl, ble rfl⟩ (ble rfl) dL_arePotsRight_267 rfl ?_
  refine x_iconst (v := 0) dL_arePotsRight_270 rfl ?_
  refine x_iload 0 dL_arePotsRight_271 rfl ?_
  first | refine x_aload_n 7 dL_arePotsRight_273 rfl rfl ?_ | refine x_aload_nN 7 dL_arePotsRight_273 rfl rfl ?_
  refine x_iload 1 dL_arePotsRight_274 rfl ?_
  refine x_iconst (v := 3) dL_arePotsRight_276 rfl ?_
  refine x_cV1 (As := [.int _, .int _]) (q_pt3 ok C (by assumption)) vL_66 rfl (x_rcC C) rfl ⟨ble rfl, ble rfl⟩ (ble rfl) dL_arePotsRight_277 rfl ?_
  refine x_isub dL_arePotsRight_280 ?_
  refine x_mmax rfl wL_42 wMmax2 wMath3 wMmax4 (ble rfl) (ble rfl) dL_arePotsRight_281 ?_
  refine x_icmp_ne 375 dL_arePotsRight_284 (by decide) (fun z => by first | exact absurd z (mx_0 _) | exact absurd (mx_0 _) z) (fun _ => ?_)
  first | refine x_aload_n 7 dL_arePotsRight_287 rfl rfl ?_ | refine x_aload_nN 7 dL_arePotsRight_287 rfl rfl ?_
  refine x_iload 1 dL_arePotsRight_288 rfl ?_
  refine x_iconst (v := 0) dL_arePotsRight_290 rfl ?_
  refine x_iconst (v := 0) dL_arePotsRight_291 rfl ?_
  refine x_cV1 (As := [.int _, .int _, .int _]) (q_ws ok C (by assumption) 0 (by decide)) vL_91 rfl (x_rcC C) rfl ⟨ble rfl, ble rfl⟩ (ble rfl) dL_arePotsRight_292 rfl ?_
  first | refine x_aload_n 7 dL_arePotsRight_295 rfl rfl ?_ | refine x_aload_nN 7 dL_arePotsRight_295 rfl rfl ?_
  refine x_iload 1 dL_arePotsRight_296 rfl ?_
  refine x_cV1 (As := [.int _]) (q_snd ok C (by assumption)) vL_78 rfl (x_rcC C) rfl ⟨ble rfl, ble rfl⟩ (ble rfl) dL_arePotsRight_298 rfl ?_
  refine x_icmp_ne 375 dL_arePotsRight_301 (by decide) (fun z => by first | exact absurd z (ws_0 P) | exact absurd (ws_0 P) z) (fun _ => ?_)
  first | refine x_aload_n 7 dL_arePotsRight_304 rfl rfl ?_ | refine x_aload_nN 7 dL_arePotsRight_304 rfl rfl ?_
  refine x_iload 1 dL_arePotsRight_305 rfl ?_
  refine x_bipush (v := 7) dL_arePotsRight_307 rfl ?_
  refine x_cV1 (As := [.int _, .int _]) (q_pt7 ok C (by assumption)) vL_66 rfl (x_rcC C) rfl ⟨ble rfl, ble rfl⟩ (ble rfl) dL_arePotsRight_309 rfl ?_
  refine x_iconst (v := 1) dL_arePotsRight_312 rfl ?_
  have J371 : ∀ (_u : Unit), XX l G mL_arePotsRight (Rm 8 0 0) (KQ G (Rm 8 0 0) (fun w h' => w = some (.int 1) ∧ Cs G h' N ns np no)) 0 0 371 [(6, .int (nI p)), (4, .int (sm (inV N) p)), (3, .int (sm (inS N) p)), (2, .int (sm (fun i => crackedK (kOf (N (60 + 8 * i))) (N (61 + 8 * i)) (N (62 + 8 * i))) p)), (1, .int (sm (fun i => smoothK (kOf (N (60 + 8 * i))) (N (62 + 8 * i))) p)), (0, .ref (Ad G 0))] [] h := by
    intro _u
    refine x_iconst (v := 1) dL_arePotsRight_371 rfl ?_
    refine x_goto 376 dL_arePotsRight_372 (by decide) ?_
    refine x_istore (L' := [(5, _), (6, _), (4, _), (3, _), (2, _), (1, _), (0, _)]) dL_arePotsRight_376 (ble rfl) rfl ?_
    refine x_locs (L' := [(6, _), (5, _), (4, _), (3, _), (2, _), (1, _), (0, _)]) [1, 0, 2, 3, 4, 5, 6] rfl ?_
    exact kk
  refine x_icmp_eq 371 dL_arePotsRight_313 (by decide) (fun c313 => ?_) (fun c313 => ?_)
  · refine x_locs (L' := [(6, _), (4, _), (3, _), (2, _), (1, _), (0, _)]) [1, 3, 4, 5, 6, 7] rfl ?_
    exact J371 ()
  · first | refine x_aload_n 7 dL_arePotsRight_316 rfl rfl ?_ | refine x_aload_nN 7 dL_arePotsRight_316 rfl rfl ?_
    refine x_iload 1 dL_arePotsRight_317 rfl ?_
    first | refine x_aload_n 7 dL_arePotsRight_319 rfl rfl ?_ | refine x_aload_nN 7 dL_arePotsRight_319 rfl rfl ?_
    refine x_iload 1 dL_arePotsRight_320 rfl ?_
    refine x_iconst (v := 1) dL_arePotsRight_322 rfl ?_
    refine x_cV1 (As := [.int _, .int _]) (q_bl1 ok C (by assumption)) vL_88 rfl (x_rcC C) rfl ⟨ble rfl, ble rfl⟩ (ble rfl) dL_arePotsRight_323 rfl ?_
    refine x_bipush (v := 99) dL_arePotsRight_326 rfl ?_
    refine x_icmp_le 335 dL_arePotsRight_328 (by decide) (fun c328 => ?_) (fun c328 => ?_)
    · first | refine x_aload_n 7 dL_arePotsRight_335 rfl rfl ?_ | refine x_aload_nN 7 dL_arePotsRight_335 rfl rfl ?_
      refine x_iload 1 dL_arePotsRight_336 rfl ?_
      refine x_iconst (v := 1) dL_arePotsRight_338 rfl ?_
      refine x_cV1 (As := [.int _, .int _]) (q_bl1 ok C (by assumption)) vL_88 rfl (x_rcC C) rfl ⟨ble rfl, ble rfl⟩ (ble rfl) dL_arePotsRight_339 rfl ?_
      refine x_iconst (v := 0) dL_arePotsRight_342 rfl ?_
      refine x_cV1 (As := [.int _, .int _, .int _]) (q_ws ok C (by assumption) _ (fun z => z.elim (mxc_r P) (fun z => absurd (Int32.lt_of_lt_of_le z c328) Int32.lt_irrefl))) vL_91 rfl (x_rcC C) rfl ⟨ble rfl, ble rfl⟩ (ble rfl) dL_arePotsRight_343 rfl ?_
      first | refine x_aload_n 7 dL_arePotsRight_346 rfl rfl ?_ | refine x_aload_nN 7 dL_arePotsRight_346 rfl rfl ?_
      refine x_iload 1 dL_arePotsRight_347 rfl ?_
      refine x_iconst (v := 1) dL_arePotsRight_349 rfl ?_
      refine x_cV1 (As := [.int _, .int _]) (q_bl1 ok C (by assumption)) vL_88 rfl (x_rcC C) rfl ⟨ble rfl, ble rfl⟩ (ble rfl) dL_arePotsRight_350 rfl ?_
      refine x_bipush (v := 99) dL_arePotsRight_353 rfl ?_
      refine x_icmp_le 367 dL_arePotsRight_355 (by decide) (fun _ => ?_) (fun z => by first | exact absurd (c328) z | exact absurd z (c328))
      refine x_iconst (v := 0) dL_arePotsRight_367 rfl ?_
      refine x_icmp_ne 375 dL_arePotsRight_368 (by decide) (fun z => by first | exact absurd z (ws_A P c313 _) | exact absurd (ws_A P c313 _) z) (fun _ => ?_)
      refine x_locs (L' := [(6, _), (4, _), (3, _), (2, _), (1, _), (0, _)]) [1, 3, 4, 5, 6, 7] rfl ?_
      exact J371 ()
    · refine x_iconst (v := 0) dL_arePotsRight_331 rfl ?_
      refine x_goto 342 dL_arePotsRight_332 (by decide) ?_
      refine x_iconst (v := 0) dL_arePotsRight_342 rfl ?_
      refine x_cV1 (As := [.int _, .int _, .int _]) (q_ws ok C (by assumption) 0 (by decide)) vL_91 rfl (x_rcC C) rfl ⟨ble rfl, ble rfl⟩ (ble rfl) dL_arePotsRight_343 rfl ?_
      first | refine x_aload_n 7 dL_arePotsRight_346 rfl rfl ?_ | refine x_aload_nN 7 dL_arePotsRight_346 rfl rfl ?_
      refine x_iload 1 dL_arePotsRight_347 rfl ?_
      refine x_iconst (v := 1) dL_arePotsRight_349 rfl ?_
      refine x_cV1 (As := [.int _, .int _]) (q_bl1 ok C (by assumption)) vL_88 rfl (x_rcC C) rfl ⟨ble rfl, ble rfl⟩ (ble rfl) dL_arePotsRight_350 rfl ?_
      refine x_bipush (v := 99) dL_arePotsRight_353 rfl ?_
      refine x_icmp_le 367 dL_arePotsRight_355 (by decide) (fun z => by first | exact absurd z (c328) | exact absurd (c328) z) (fun _ => ?_)
      first | refine x_aload_n 7 dL_arePotsRight_358 rfl rfl ?_ | refine x_aload_nN 7 dL_arePotsRight_358 rfl rfl ?_
      refine x_iload 1 dL_arePotsRight_359 rfl ?_
      refine x_cV1 (As := [.int _]) (q_snd ok C (by assumption)) vL_78 rfl (x_rcC C) rfl ⟨ble rfl, ble rfl⟩ (ble rfl) dL_arePotsRight_361 rfl ?_
      refine x_goto 368 dL_arePotsRight_364 (by decide) ?_
      refine x_icmp_ne 375 dL_arePotsRight_368 (by decide) (fun z => by first | exact absurd z (ws_0 P) | exact absurd (ws_0 P) z) (fun _ => ?_)
      refine x_locs (L' := [(6, _), (4, _), (3, _), (2, _), (1, _), (0, _)]) [1, 3, 4, 5, 6, 7] rfl ?_
      exact J371 ()
set_option maxRecDepth 100000 in
set_option maxHeartbeats 4000000 in
theorem ap_a {l : Launch} {G : Gl} {h : Hp} {N : Nat → Int32} {ns np no : Nat} (ok : Ok G) (C : Cs G h N ns np no) (R : RI N ns np no) (J : RJ N ns np no) {p : Nat} (hi : p < np) (kk : XX l G mL_arePotsRight (Rm 8 0 0) (KQ G (Rm 8 0 0) (fun w h' => w = some (.int 1) ∧ Cs G h' N ns np no)) 0 0 228 [(7, .int (kSm (kOf (N (60 + 8 * p))))), (6, .int (nI (p))), (5, .int 1), (4, .int (sm (inV N) (p))), (3, .int (sm (inS N) (p))), (2, .int (sm (fun i => crackedK (kOf (N (60 + 8 * i))) (N (61 + 8 * i)) (N (62 + 8 * i))) (p))), (1, .int (sm (fun i => smoothK (kOf (N (60 + 8 * i))) (N (62 + 8 * i))) (p))), (0, .ref (Ad G 0))] [] h) (z : Int32) : XX l G mL_arePotsRight (Rm 8 0 0) (KQ G (Rm 8 0 0) (fun w h' => w = some (.int 1) ∧ Cs G h' N ns np no)) 0 0 83 [(9, .int z), (8, .int (thickK (kOf (N (60 + 8 * p))) (N (61 + 8 * p)) (N (62 + 8 * p)))), (7, .int (kSm (kOf (N (60 + 8 * p))))), (6, .int (nI (p))), (5, .int 1), (4, .int (sm (inV N) (p))), (3, .int (sm (inS N) (p))), (2, .int (sm (fun i => crackedK (kOf (N (60 + 8 * i))) (N (61 + 8 * i)) (N (62 + 8 * i))) (p))), (1, .int (sm (fun i => smoothK (kOf (N (60 + 8 * i))) (N (62 + 8 * i))) (p))), (0, .ref (Ad G 0))] [] h := by
  have P := R.1.2.2.2.2.2.2.1 p hi
  obtain ⟨pk, ⟨g, hg, hg1, hg9⟩, ⟨b, hb, hb2⟩, ⟨t, ht, ht9⟩, -⟩ := id P
  have hk3 := pk.2
  obtain ⟨s, hs1, hs2, hs3⟩ := J.1 p hi
  have ts := J.2.2.1 p hi
  have tce := tc_e P
  first | refine x_aload_n 9 dL_arePotsRight_83 rfl rfl ?_ | refine x_aload_nN 9 dL_arePotsRight_83 rfl rfl ?_
  refine x_iload 3 dL_arePotsRight_84 rfl ?_
  refine x_iconst (v := 3) dL_arePotsRight_86 rfl ?_
  refine x_cV1 (As := [.int _, .int _]) (q_pt3 ok C (by assumption)) vL_66 rfl (x_rcC C) rfl ⟨ble rfl, ble rfl⟩ (ble rfl) dL_arePotsRight_87 rfl ?_
  refine x_iload 2 dL_arePotsRight_90 rfl ?_
  have J100 : ∀ (v : Int32), v = (smoothK (kOf (N (60 + 8 * p))) (N (62 + 8 * p))) → XX l G mL_arePotsRight (Rm 8 0 0) (KQ G (Rm 8 0 0) (fun w h' => w = some (.int 1) ∧ Cs G h' N ns np no)) 0 0 100 [(8, .int (thickK (kOf (N (60 + 8 * p))) (N (61 + 8 * p)) (N (62 + 8 * p)))), (7, .int (kSm (kOf (N (60 + 8 * p))))), (6, .int (nI p)), (5, .int 1), (4, .int (sm (inV N) p)), (3, .int (sm (inS N) p)), (2, .int (sm (fun i => crackedK (kOf (N (60 + 8 * i))) (N (61 + 8 * i)) (N (62 + 8 * i))) p)), (1, .int (sm (fun i => smoothK (kOf (N (60 + 8 * i))) (N (62 + 8 * i))) p)), (0, .ref (Ad G 0))] [.int v] h := by
    intro v ev
    subst ev
    refine x_istore (L' := [(9, _), (8, _), (7, _), (6, _), (5, _), (4, _), (3, _), (2, _), (1, _), (0, _)]) dL_arePotsRight_100 (ble rfl) rfl ?_
    refine x_iload 4 dL_arePotsRight_102 rfl ?_
    refine x_if_eq 225 dL_arePotsRight_104 (by decide) (fun z => by first | exact absurd z (by decide) | exact absurd (by decide) z) (fun _ => ?_)
    first | refine x_aload_n 9 dL_arePotsRight_107 rfl rfl ?_ | refine x_aload_nN 9 dL_arePotsRight_107 rfl rfl ?_
    refine x_iload 3 dL_arePotsRight_108 rfl ?_
    refine x_iconst (v := 2) dL_arePotsRight_110 rfl ?_
    refine x_cV1 (As := [.int _, .int _]) (q_pt2 ok C (by assumption)) vL_66 rfl (x_rcC C) rfl ⟨ble rfl, ble rfl⟩ (ble rfl) dL_arePotsRight_111 rfl ?_
    refine x_iload 1 dL_arePotsRight_114 rfl ?_
    refine x_icmp_ne 225 dL_arePotsRight_116 (by decide) (fun z => by first | exact absurd z (rfl) | exact absurd (rfl) z) (fun _ => ?_)
    first | refine x_aload_n 9 dL_arePotsRight_119 rfl rfl ?_ | refine x_aload_nN 9 dL_arePotsRight_119 rfl rfl ?_
    refine x_iload 3 dL_arePotsRight_120 rfl ?_
    refine x_bipush (v := 6) dL_arePotsRight_122 rfl ?_
    refine x_cV1 (As := [.int _, .int _]) (q_pt6 ok C (by assumption)) vL_66 rfl (x_rcC C) rfl ⟨ble rfl, ble rfl⟩ (ble rfl) dL_arePotsRight_124 rfl ?_
    refine x_iload 0 dL_arePotsRight_127 rfl ?_
    have J137 : ∀ (v : Int32), v = (smoothK (kOf (N (60 + 8 * p))) (N (62 + 8 * p))) → XX l G mL_arePotsRight (Rm 8 0 0) (KQ G (Rm 8 0 0) (fun w h' => w = some (.int 1) ∧ Cs G h' N ns np no)) 0 0 137 [(9, .int (smoothK (kOf (N (60 + 8 * p))) (N (62 + 8 * p)))), (8, .int (thickK (kOf (N (60 + 8 * p))) (N (61 + 8 * p)) (N (62 + 8 * p)))), (7, .int (kSm (kOf (N (60 + 8 * p))))), (6, .int (nI p)), (5, .int 1), (4, .int (sm (inV N) p)), (3, .int (sm (inS N) p)), (2, .int (sm (fun i => crackedK (kOf (N (60 + 8 * i))) (N (61 + 8 * i)) (N (62 + 8 * i))) p)), (1, .int (sm (fun i => smoothK (kOf (N (60 + 8 * i))) (N (62 + 8 * i))) p)), (0, .ref (Ad G 0))] [.int v, .int (smoothK (kOf (N (60 + 8 * p))) (N (62 + 8 * p)))] h := by
      intro v ev
      subst ev
      refine x_icmp_ne 225 dL_arePotsRight_137 (by decide) (fun z => by first | exact absurd z (rfl) | exact absurd (rfl) z) (fun _ => ?_)
      first | refine x_aload_n 9 dL_arePotsRight_140 rfl rfl ?_ | refine x_aload_nN 9 dL_arePotsRight_140 rfl rfl ?_
      refine x_iload 3 dL_arePotsRight_141 rfl ?_
      refine x_bipush (v := 7) dL_arePotsRight_143 rfl ?_
      refine x_cV1 (As := [.int _, .int _]) (q_pt7 ok C (by assumption)) vL_66 rfl (x_rcC C) rfl ⟨ble rfl, ble rfl⟩ (ble rfl) dL_arePotsRight_145 rfl ?_
      refine x_iload 1 dL_arePotsRight_148 rfl ?_
      have J158 : ∀ (v : Int32), v = (crackedK (kOf (N (60 + 8 * p))) (N (61 + 8 * p)) (N (62 + 8 * p))) → XX l G mL_arePotsRight (Rm 8 0 0) (KQ G (Rm 8 0 0) (fun w h' => w = some (.int 1) ∧ Cs G h' N ns np no)) 0 0 158 [(9, .int (smoothK (kOf (N (60 + 8 * p))) (N (62 + 8 * p)))), (8, .int (thickK (kOf (N (60 + 8 * p))) (N (61 + 8 * p)) (N (62 + 8 * p)))), (7, .int (kSm (kOf (N (60 + 8 * p))))), (6, .int (nI p)), (5, .int 1), (4, .int (sm (inV N) p)), (3, .int (sm (inS N) p)), (2, .int (sm (fun i => crackedK (kOf (N (60 + 8 * i))) (N (61 + 8 * i)) (N (62 + 8 * i))) p)), (1, .int (sm (fun i => smoothK (kOf (N (60 + 8 * i))) (N (62 + 8 * i))) p)), (0, .ref (Ad G 0))] [.int v, .int (crackedK (kOf (N (60 + 8 * p))) (N (61 + 8 * p)) (N (62 + 8 * p)))] h := by
        intro v ev
        subst ev
        refine x_icmp_ne 225 dL_arePotsRight_158 (by decide) (fun z => by first | exact absurd z (rfl) | exact absurd (rfl) z) (fun _ => ?_)
        first | refine x_aload_n 9 dL_arePotsRight_161 rfl rfl ?_ | refine x_aload_nN 9 dL_arePotsRight_161 rfl rfl ?_
        refine x_iload 3 dL_arePotsRight_162 rfl ?_
        refine x_iconst (v := 4) dL_arePotsRight_164 rfl ?_
        refine x_cV1 (As := [.int _, .int _]) (q_pt4 ok C (by assumption)) vL_66 rfl (x_rcC C) rfl ⟨ble rfl, ble rfl⟩ (ble rfl) dL_arePotsRight_165 rfl ?_
        refine x_if_lt 225 dL_arePotsRight_168 (by decide) (fun z => by first | exact absurd z (by rw [ht]; exact nI_pos (by omega)) | exact absurd (by rw [ht]; exact nI_pos (by omega)) z) (fun _ => ?_)
        first | refine x_aload_n 9 dL_arePotsRight_171 rfl rfl ?_ | refine x_aload_nN 9 dL_arePotsRight_171 rfl rfl ?_
        refine x_iload 3 dL_arePotsRight_172 rfl ?_
        refine x_iconst (v := 4) dL_arePotsRight_174 rfl ?_
        refine x_cV1 (As := [.int _, .int _]) (q_pt4 ok C (by assumption)) vL_66 rfl (x_rcC C) rfl ⟨ble rfl, ble rfl⟩ (ble rfl) dL_arePotsRight_175 rfl ?_
        refine x_bipush (v := 9) dL_arePotsRight_178 rfl ?_
        refine x_icmp_gt 225 dL_arePotsRight_180 (by decide) (fun z => by first | exact absurd z (by rw [ht]; exact nI_nlt (a := 9) (b := t) (by omega) (by omega)) | exact absurd (by rw [ht]; exact nI_nlt (a := 9) (b := t) (by omega) (by omega)) z) (fun _ => ?_)
        first | refine x_aload_n 9 dL_arePotsRight_183 rfl rfl ?_ | refine x_aload_nN 9 dL_arePotsRight_183 rfl rfl ?_
        refine x_iload 3 dL_arePotsRight_184 rfl ?_
        refine x_iconst (v := 4) dL_arePotsRight_186 rfl ?_
        refine x_cV1 (As := [.int _, .int _]) (q_pt4 ok C (by assumption)) vL_66 rfl (x_rcC C) rfl ⟨ble rfl, ble rfl⟩ (ble rfl) dL_arePotsRight_187 rfl ?_
        have J198 : ∀ (_u : Unit), XX l G mL_arePotsRight (Rm 8 0 0) (KQ G (Rm 8 0 0) (fun w h' => w = some (.int 1) ∧ Cs G h' N ns np no)) 0 0 198 [(9, .int (smoothK (kOf (N (60 + 8 * p))) (N (62 + 8 * p)))), (8, .int (thickK (kOf (N (60 + 8 * p))) (N (61 + 8 * p)) (N (62 + 8 * p)))), (7, .int (kSm (kOf (N (60 + 8 * p))))), (6, .int (nI p)), (5, .int 1), (4, .int (sm (inV N) p)), (3, .int (sm (inS N) p)), (2, .int (sm (fun i => crackedK (kOf (N (60 + 8 * i))) (N (61 + 8 * i)) (N (62 + 8 * i))) p)), (1, .int (sm (fun i => smoothK (kOf (N (60 + 8 * i))) (N (62 + 8 * i))) p)), (0, .ref (Ad G 0))] [] h := by
          intro _u
          first | refine x_aload_n 9 dL_arePotsRight_198 rfl rfl ?_ | refine x_aload_nN 9 dL_arePotsRight_198 rfl rfl ?_
          refine x_iload 3 dL_arePotsRight_199 rfl ?_
          refine x_iconst (v := 1) dL_arePotsRight_201 rfl ?_
          refine x_cV1 (As := [.int _, .int _]) (q_pt1 ok C (by assumption)) vL_66 rfl (x_rcC C) rfl ⟨ble rfl, ble rfl⟩ (ble rfl) dL_arePotsRight_202 rfl ?_
          first | refine x_aload_n 9 dL_arePotsRight_205 rfl rfl ?_ | refine x_aload_nN 9 dL_arePotsRight_205 rfl rfl ?_
          first | refine x_aload_n 9 dL_arePotsRight_206 rfl rfl ?_ | refine x_aload_nN 9 dL_arePotsRight_206 rfl rfl ?_
          refine x_iload 3 dL_arePotsRight_207 rfl ?_
          refine x_bipush (v := 9) dL_arePotsRight_209 rfl ?_
          refine x_cV1 (As := [.int _, .int _]) (q_pt9 ok C (by assumption)) vL_66 rfl (x_rcC C) rfl ⟨ble rfl, ble rfl⟩ (ble rfl) dL_arePotsRight_211 rfl ?_
          rw [hs2]
          refine x_iconst (v := 0) dL_arePotsRight_214 rfl ?_
          refine x_cV1 (As := [.int _, .int _]) (q_sh0 ok C hs1) vL_63 rfl (x_rcC C) rfl ⟨ble rfl, ble rfl⟩ (ble rfl) dL_arePotsRight_215 rfl ?_
          refine x_icmp_ne 225 dL_arePotsRight_218 (by decide) (fun z => by first | exact absurd z (hs3) | exact absurd (hs3) z) (fun _ => ?_)
          refine x_iconst (v := 1) dL_arePotsRight_221 rfl ?_
          refine x_goto 226 dL_arePotsRight_222 (by decide) ?_
          refine x_istore (L' := [(5, _), (9, _), (8, _), (7, _), (6, _), (4, _), (3, _), (2, _), (1, _), (0, _)]) dL_arePotsRight_226 (ble rfl) rfl ?_
          refine x_locs (L' := [(7, _), (6, _), (5, _), (4, _), (3, _), (2, _), (1, _), (0, _)]) [3, 4, 0, 5, 6, 7, 8, 9] rfl ?_
          exact kk
        refine x_if_eq 198 dL_arePotsRight_190 (by decide) (fun c190 => ?_) (fun c190 => ?_)
        · refine x_locs (L' := [(9, _), (8, _), (7, _), (6, _), (5, _), (4, _), (3, _), (2, _), (1, _), (0, _)]) [0, 1, 2, 3, 4, 5, 6, 7, 8, 9] rfl ?_
          exact J198 ()
        · refine x_iload 0 dL_arePotsRight_193 rfl ?_
          refine x_if_eq 225 dL_arePotsRight_195 (by decide) (fun z => by first | exact absurd z (by unfold smoothK; rw [if_neg (ts.resolve_left c190)]; decide) | exact absurd (by unfold smoothK; rw [if_neg (ts.resolve_left c190)]; decide) z) (fun _ => ?_)
          refine x_locs (L' := [(9, _), (8, _), (7, _), (6, _), (5, _), (4, _), (3, _), (2, _), (1, _), (0, _)]) [0, 1, 2, 3, 4, 5, 6, 7, 8, 9] rfl ?_
          exact J198 ()
      refine x_if_ne 157 dL_arePotsRight_150 (by decide) (fun c150 => ?_) (fun c150 => ?_)
      · refine x_iconst (v := 0) dL_arePotsRight_157 rfl ?_
        refine x_locs (L' := [(9, _), (8, _), (7, _), (6, _), (5, _), (4, _), (3, _), (2, _), (1, _), (0, _)]) [0, 1, 2, 3, 4, 5, 6, 7, 8, 9] rfl ?_
        exact J158 _ (by rw [tce]; first | rw [if_pos c150] | rw [if_neg c150])
      · refine x_iconst (v := 1) dL_arePotsRight_153 rfl ?_
        refine x_goto 158 dL_arePotsRight_154 (by decide) ?_
        refine x_locs (L' := [(9, _), (8, _), (7, _), (6, _), (5, _), (4, _), (3, _), (2, _), (1, _), (0, _)]) [0, 1, 2, 3, 4, 5, 6, 7, 8, 9] rfl ?_
        exact J158 _ (by rw [tce]; first | rw [if_pos c150] | rw [if_neg c150])
    refine x_if_eq 136 dL_arePotsRight_129 (by decide) (fun c129 => ?_) (fun c129 => ?_)
    · refine x_iconst (v := 0) dL_arePotsRight_136 rfl ?_
      refine x_locs (L' := [(9, _), (8, _), (7, _), (6, _), (5, _), (4, _), (3, _), (2, _), (1, _), (0, _)]) [0, 1, 2, 3, 4, 5, 6, 7, 8, 9] rfl ?_
      exact J137 _ (by first | exact c129.symm | exact (smooth_1 c129).symm)
    · refine x_iconst (v := 1) dL_arePotsRight_132 rfl ?_
      refine x_goto 137 dL_arePotsRight_133 (by decide) ?_
      refine x_locs (L' := [(9, _), (8, _), (7, _), (6, _), (5, _), (4, _), (3, _), (2, _), (1, _), (0, _)]) [0, 1, 2, 3, 4, 5, 6, 7, 8, 9] rfl ?_
      exact J137 _ (by first | exact c129.symm | exact (smooth_1 c129).symm)
  refine x_icmp_lt 99 dL_arePotsRight_92 (by decide) (fun c92 => ?_) (fun c92 => ?_)
  · refine x_iconst (v := 0) dL_arePotsRight_99 rfl ?_
    refine x_locs (L' := [(8, _), (7, _), (6, _), (5, _), (4, _), (3, _), (2, _), (1, _), (0, _)]) [1, 2, 3, 4, 5, 6, 7, 8, 9] rfl ?_
    exact J100 _ (by unfold smoothK; first | rw [if_pos c92] | rw [if_neg c92])
  · refine x_iconst (v := 1) dL_arePotsRight_95 rfl ?_
    refine x_goto 100 dL_arePotsRight_96 (by decide) ?_
    refine x_locs (L' := [(8, _), (7, _), (6, _), (5, _), (4, _), (3, _), (2, _), (1, _), (0, _)]) [1, 2, 3, 4, 5, 6, 7, 8, 9] rfl ?_
    exact J100 _ (by unfold smoothK; first | rw [if_pos c92] | rw [if_neg c92])
set_option maxRecDepth 100000 in
set_option maxHeartbeats 4000000 in
theorem ap_l {l : Launch} {G : Gl} {h : Hp} {N : Nat → Int32} {ns np no : Nat} (ok : Ok G) (C : Cs G h N ns np no) (R : RI N ns np no) (J : RJ N ns np no) (kk : XX l G mL_arePotsRight (Rm 8 0 0) (KQ G (Rm 8 0 0) (fun w h' => w = some (.int 1) ∧ Cs G h' N ns np no)) 0 0 447 [(5, .int 1), (4, .int (sm (inV N) (np))), (3, .int (sm (inS N) (np))), (2, .int (sm (fun i => crackedK (kOf (N (60 + 8 * i))) (N (61 + 8 * i)) (N (62 + 8 * i))) (np))), (1, .int (sm (fun i => smoothK (kOf (N (60 + 8 * i))) (N (62 + 8 * i))) (np))), (0, .ref (Ad G 0))] [] h) : ∀ (t p : Nat), p + t = np → XX l G mL_arePotsRight (Rm 8 0 0) (KQ G (Rm 8 0 0) (fun w h' => w = some (.int 1) ∧ Cs G h' N ns np no)) 0 0 15 [(6, .int (nI (p))), (5, .int 1), (4, .int (sm (inV N) (p))), (3, .int (sm (inS N) (p))), (2, .int (sm (fun i => crackedK (kOf (N (60 + 8 * i))) (N (61 + 8 * i)) (N (62 + 8 * i))) (p))), (1, .int (sm (fun i => smoothK (kOf (N (60 + 8 * i))) (N (62 + 8 * i))) (p))), (0, .ref (Ad G 0))] [] h
  | 0, p, hp => by
    obtain rfl : p = np := by omega
    have b3 := C.nn.2.2.2.2.1
    refine x_iload 0 dL_arePotsRight_15 rfl ?_
    first | refine x_aload_n 6 dL_arePotsRight_17 rfl rfl ?_ | refine x_aload_nN 6 dL_arePotsRight_17 rfl rfl ?_
    refine x_iconst (v := 3) dL_arePotsRight_18 rfl ?_
    refine x_cV1 (As := [.int _]) (q_ac3n ok C) vL_28 rfl (x_rcC C) rfl ⟨ble rfl, ble rfl⟩ (ble rfl) dL_arePotsRight_19 rfl ?_
    refine x_icmp_ge 447 dL_arePotsRight_22 (by decide) (fun _ => ?_) (fun z => by first | exact absurd (Int32.le_refl _) z | exact absurd z (Int32.le_refl _))
    refine x_locs (L' := [(5, _), (4, _), (3, _), (2, _), (1, _), (0, _)]) [1, 2, 3, 4, 5, 6] rfl ?_
    exact kk
  | t + 1, p, hp => by
    have hi : p < np := by omega
    have b3 := C.nn.2.2.2.2.1
    have P := R.1.2.2.2.2.2.2.1 p hi
    obtain ⟨pk, ⟨g, hg, hg1, hg9⟩, ⟨b, hb, hb2⟩, -⟩ := id P
    have hk3 := pk.2
    obtain ⟨ks, ks40⟩ := kSm_n _ hk3
    have thn := thick_n _ hk3 g (by omega) b (by omega)
    have k83 : ∀ z : Int32, XX l G mL_arePotsRight (Rm 8 0 0) (KQ G (Rm 8 0 0) (fun w h' => w = some (.int 1) ∧ Cs G h' N ns np no)) 0 0 83 [(9, .int z), (8, .int (thickK (kOf (N (60 + 8 * p))) (N (61 + 8 * p)) (N (62 + 8 * p)))), (7, .int (kSm (kOf (N (60 + 8 * p))))), (6, .int (nI (p))), (5, .int 1), (4, .int (sm (inV N) (p))), (3, .int (sm (inS N) (p))), (2, .int (sm (fun i => crackedK (kOf (N (60 + 8 * i))) (N (61 + 8 * i)) (N (62 + 8 * i))) (p))), (1, .int (sm (fun i => smoothK (kOf (N (60 + 8 * i))) (N (62 + 8 * i))) (p))), (0, .ref (Ad G 0))] [] h := fun z => ap_a ok C R J hi (ap_b ok C R J hi (ap_c ok C R J hi (ap_l ok C R J kk t (p + 1) (by omega)))) z
    refine x_iload 0 dL_arePotsRight_15 rfl ?_
    first | refine x_aload_n 6 dL_arePotsRight_17 rfl rfl ?_ | refine x_aload_nN 6 dL_arePotsRight_17 rfl rfl ?_
    refine x_iconst (v := 3) dL_arePotsRight_18 rfl ?_
    refine x_cV1 (As := [.int _]) (q_ac3n ok C) vL_28 rfl (x_rcC C) rfl ⟨ble rfl, ble rfl⟩ (ble rfl) dL_arePotsRight_19 rfl ?_
    refine x_icmp_ge 447 dL_arePotsRight_22 (by decide) (fun z => by first | exact absurd z (nI_ge hi (by omega)) | exact absurd (nI_ge hi (by omega)) z) (fun _ => ?_)
    refine x_iconst (v := 2) dL_arePotsRight_25 rfl ?_
    first | refine x_aload_n 6 dL_arePotsRight_26 rfl rfl ?_ | refine x_aload_nN 6 dL_arePotsRight_26 rfl rfl ?_
    refine x_iload 0 dL_arePotsRight_27 rfl ?_
    refine x_iconst (v := 0) dL_arePotsRight_29 rfl ?_
    refine x_cV1 (As := [.int _, .int _]) (q_pt0 ok C (by assumption)) vL_66 rfl (x_rcC C) rfl ⟨ble rfl, ble rfl⟩ (ble rfl) dL_arePotsRight_30 rfl ?_
    refine x_cS1 (As := [.int _]) (ct_areaOf (by assumption)) vL_75 rfl rfl ⟨ble rfl, ble rfl⟩ (ble rfl) dL_arePotsRight_33 rfl ?_
    refine x_imul dL_arePotsRight_36 ?_
    rw [sm_area _ hk3]
    refine x_istore (L' := [(7, _), (6, _), (5, _), (4, _), (3, _), (2, _), (1, _), (0, _)]) dL_arePotsRight_37 (ble rfl) rfl ?_
    first | refine x_aload_n 7 dL_arePotsRight_39 rfl rfl ?_ | refine x_aload_nN 7 dL_arePotsRight_39 rfl rfl ?_
    refine x_iload 1 dL_arePotsRight_40 rfl ?_
    refine x_iconst (v := 1) dL_arePotsRight_42 rfl ?_
    refine x_cV1 (As := [.int _, .int _]) (q_pt1 ok C (by assumption)) vL_66 rfl (x_rcC C) rfl ⟨ble rfl, ble rfl⟩ (ble rfl) dL_arePotsRight_43 rfl ?_
    refine x_istore (L' := [(8, _), (7, _), (6, _), (5, _), (4, _), (3, _), (2, _), (1, _), (0, _)]) dL_arePotsRight_46 (ble rfl) rfl ?_
    first | refine x_aload_n 8 dL_arePotsRight_48 rfl rfl ?_ | refine x_aload_nN 8 dL_arePotsRight_48 rfl rfl ?_
    refine x_iload 2 dL_arePotsRight_49 rfl ?_
    refine x_iconst (v := 3) dL_arePotsRight_51 rfl ?_
    refine x_cV1 (As := [.int _, .int _]) (q_pt3 ok C (by assumption)) vL_66 rfl (x_rcC C) rfl ⟨ble rfl, ble rfl⟩ (ble rfl) dL_arePotsRight_52 rfl ?_
    refine x_iload 1 dL_arePotsRight_55 rfl ?_
    refine x_isub dL_arePotsRight_57 ?_
    refine x_istore (L' := [(9, _), (8, _), (7, _), (6, _), (5, _), (4, _), (3, _), (2, _), (1, _), (0, _)]) dL_arePotsRight_58 (ble rfl) rfl ?_
    refine x_locs (L' := [(9, _), (8, _), (7, _), (6, _), (5, _), (4, _), (3, _), (2, _), (1, _), (0, _)]) [0, 1, 2, 3, 4, 5, 6, 7, 8, 9] rfl ?_
    by_cases hbs : b < kSN (kOf (N (60 + 8 * p)))
    · have z0 : (thickK (kOf (N (60 + 8 * p))) (N (61 + 8 * p)) (N (62 + 8 * p))) = N (61 + 8 * p) := by rw [hg, hb, thn, show (b - kSN (kOf (N (60 + 8 * p)))) / 6 = 0 by omega]; rfl
      have z1 : N (62 + 8 * p) - kSm (kOf (N (60 + 8 * p))) < 6 := by rw [hb, ks]; exact lt6_n b (by omega) _ (by omega) hbs
      refine x_iload 0 dL_arePotsRight_60 rfl ?_
      refine x_bipush (v := 6) dL_arePotsRight_62 rfl ?_
      refine x_icmp_lt 83 dL_arePotsRight_64 (by decide) (fun _ => ?_) (fun z => by first | exact absurd (z1) z | exact absurd z (z1))
      refine x_locs (L' := [(9, _), (8, _), (7, _), (6, _), (5, _), (4, _), (3, _), (2, _), (1, _), (0, _)]) [0, 1, 2, 3, 4, 5, 6, 7, 8, 9] rfl ?_
      rw [← z0]
      exact k83 _
    · have hbs2 := hbs
      refine x_eqL (L' := [(9, .int (nI (b - kSN (kOf (N (60 + 8 * p)))))), (8, .int (nI g)), (7, .int (kSm (kOf (N (60 + 8 * p))))), (6, .int (nI (p))), (5, .int 1), (4, .int (sm (inV N) (p))), (3, .int (sm (inS N) (p))), (2, .int (sm (fun i => crackedK (kOf (N (60 + 8 * i))) (N (61 + 8 * i)) (N (62 + 8 * i))) (p))), (1, .int (sm (fun i => smoothK (kOf (N (60 + 8 * i))) (N (62 + 8 * i))) (p))), (0, .ref (Ad G 0))]) (by rw [hb, ks, nI_sub' (show kSN (kOf (N (60 + 8 * p))) ≤ b by omega), hg]) ?_
      refine ap_in ok C R J (TT := g - (b - kSN (kOf (N (60 + 8 * p)))) / 6) (fun T z eT => ?_) 40 _ g (by omega) (by omega) (by omega) rfl
      refine x_eqL (L' := [(9, .int z), (8, .int (thickK (kOf (N (60 + 8 * p))) (N (61 + 8 * p)) (N (62 + 8 * p)))), (7, .int (kSm (kOf (N (60 + 8 * p))))), (6, .int (nI (p))), (5, .int 1), (4, .int (sm (inV N) (p))), (3, .int (sm (inS N) (p))), (2, .int (sm (fun i => crackedK (kOf (N (60 + 8 * i))) (N (61 + 8 * i)) (N (62 + 8 * i))) (p))), (1, .int (sm (fun i => smoothK (kOf (N (60 + 8 * i))) (N (62 + 8 * i))) (p))), (0, .ref (Ad G 0))]) (by rw [eT, hg, hb, thn]) ?_
      exact k83 z
