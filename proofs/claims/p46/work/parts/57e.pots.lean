theorem fcmp_0 : Op.cmpValue (FP.fcmp 0 0) .l = 0 := by decide +kernel
theorem dcmp_0 : Op.cmpValue (FP.dcmp 0 0) .l = 0 := by decide +kernel
theorem dcmp_s : ∀ a, a < 17 → ∀ b, b < 17 → ¬ b = 0 → Op.cmpValue (FP.dcmp (FP.ddiv (FP.i2d (nI a)) (FP.i2d (nI b))) (FP.ddiv (FP.i2d (nI a)) (FP.i2d (nI b)))) .l = 0 := by decide +kernel
theorem fdiv_le {a b : Nat} (ha : a ≤ 1472) (hb : b ≤ 16) (hb0 : ¬ b = 0) : (FP.fdiv (FP.i2f (nI a)) (FP.i2f (nI b))).toNat ≤ 2139095040 := by
  obtain ⟨c, q, e1⟩ := okF_e (dec_a a (by omega))
  obtain ⟨d, r, e2, hd⟩ := okZ_e (dec_b b (by omega) hb0)
  have h : Jvm.FP.Core.div Jvm.FP.Core.b32 (FP.i2f (nI a)).toNat (FP.i2f (nI b)).toNat ≤ 2139095040 := by
    unfold Jvm.FP.Core.div
    rw [e1, e2]
    exact quo_le c d q r hd
  show (UInt32.ofNat (Jvm.FP.Core.div Jvm.FP.Core.b32 (FP.i2f (nI a)).toNat (FP.i2f (nI b)).toNat)).toNat ≤ 2139095040
  generalize Jvm.FP.Core.div Jvm.FP.Core.b32 (FP.i2f (nI a)).toNat (FP.i2f (nI b)).toNat = n at h
  show n % 4294967296 ≤ 2139095040
  omega
theorem dec_n {n : Nat} (h : n ≤ 2139095040) : Jvm.FP.Core.decode Jvm.FP.Core.b32 n = .inf false ∨ ∃ c q, Jvm.FP.Core.decode Jvm.FP.Core.b32 n = .fin false c q := by
  have t : Jvm.FP.Core.b32.tails = 8388608 := rfl
  have x : Jvm.FP.Core.b32.exps = 256 := rfl
  have s : Jvm.FP.Core.fieldS Jvm.FP.Core.b32 n = false := by
    unfold Jvm.FP.Core.fieldS
    rw [t, x, show n / 8388608 / 256 % 2 = 0 by omega]
    rfl
  unfold Jvm.FP.Core.decode
  rw [s]
  split
  · rename_i e
    unfold Jvm.FP.Core.fieldE at e
    rw [t, x] at e
    have : Jvm.FP.Core.fieldT Jvm.FP.Core.b32 n = 0 := by
      unfold Jvm.FP.Core.fieldT
      rw [t]
      omega
    rw [if_pos this]
    exact Or.inl rfl
  · split
    · exact Or.inr ⟨_, _, rfl⟩
    · exact Or.inr ⟨_, _, rfl⟩
theorem cmp_s (x : Int) : compare x x = .eq := by
  show compareOfLessAndEq x x = .eq
  unfold compareOfLessAndEq
  rw [if_neg (Int.lt_irrefl x), if_pos rfl]
theorem fcmp_s {x : UInt32} (h : x.toNat ≤ 2139095040) : Op.cmpValue (FP.fcmp x x) .l = 0 := by
  have e : FP.fcmp x x = some .eq := by
    show Jvm.FP.Core.order (Jvm.FP.Core.decode Jvm.FP.Core.b32 x.toNat) (Jvm.FP.Core.decode Jvm.FP.Core.b32 x.toNat) = some .eq
    rcases dec_n h with e | ⟨c, q, e⟩
    · rw [e]; exact congrArg some (cmp_s _)
    · rw [e]; exact congrArg some (cmp_s _)
  rw [e]; rfl
theorem hfc (a b : Nat) (ha : a ≤ 1472) (hb : b ≤ 16) (hb0 : ¬ b = 0) : Op.cmpValue (FP.fcmp (FP.fdiv (FP.i2f (nI a)) (FP.i2f (nI b))) (FP.fdiv (FP.i2f (nI a)) (FP.i2f (nI b)))) .l = 0 := fcmp_s (fdiv_le ha hb hb0)
set_option maxRecDepth 100000 in
set_option maxHeartbeats 4000000 in
theorem ct_arePotsRight {l : Launch} {G : Gl} {h : Hp} {N : Nat → Int32} {ns np no : Nat} (ok : Ok G) (C : Cs G h N ns np no) (R : RI N ns np no) (J : RJ N ns np no) : Ct l G mL_arePotsRight 8 0 0 [.ref (Ad G 0)] h (fun w h' => w = some (.int 1) ∧ Cs G h' N ns np no) := by
  refine Ct.of (L := [(0, _)]) (by decide) (ble rfl) rfl ?_
  have AP := R.1.2.2.2.2.2.2.1
  obtain ⟨-, e3, -, -, b3, b4⟩ := C.nn
  obtain ⟨sh1, sh2⟩ := shop_n R
  have sh3 := shop_v R
  obtain ⟨u, hu, hu16⟩ : ∃ s, sm (inS N) np = nI s ∧ s ≤ 16 := by
    obtain ⟨s, e, hs⟩ := mrn_e (N := N) b3
    exact ⟨s, by rw [sh2, mr_e AP]; exact e, hs⟩
  obtain ⟨v, hv, hv2⟩ : ∃ s, sm (inV N) np = nI s ∧ s ≤ 1472 := by
    obtain ⟨s, e, hs⟩ := ms_n AP b3
    exact ⟨s, by rw [sh3, ms_e AP]; exact e, hs⟩
  obtain ⟨w, hw, hw16⟩ : ∃ s, (sm (fun i => soldK (N (191 + 5 * i))) no) = nI s ∧ s ≤ 16 := by
    obtain ⟨s, e, hs⟩ := so_n (N := N) b3
    exact ⟨s, by rw [← R.2.2.1]; exact e, hs⟩
  have hsub : N 3 - sm (inS N) np = (sm (fun i => soldK (N (191 + 5 * i))) no) := by
    rw [sh1, Int32.sub_eq_add_neg, Int32.neg_sub, Int32.sub_eq_add_neg, show N 3 + ((sm (fun i => soldK (N (191 + 5 * i))) no) + -N 3) = (sm (fun i => soldK (N (191 + 5 * i))) no) + (N 3 + -N 3) by ac_rfl, Int32.add_right_neg, Int32.add_zero]
  have kk : XX l G mL_arePotsRight (Rm 8 0 0) (KQ G (Rm 8 0 0) (fun w h' => w = some (.int 1) ∧ Cs G h' N ns np no)) 0 0 447 [(5, .int 1), (4, .int (sm (inV N) (np))), (3, .int (sm (inS N) (np))), (2, .int (sm (fun i => crackedK (kOf (N (60 + 8 * i))) (N (61 + 8 * i)) (N (62 + 8 * i))) (np))), (1, .int (sm (fun i => smoothK (kOf (N (60 + 8 * i))) (N (62 + 8 * i))) (np))), (0, .ref (Ad G 0))] [] h := by
    have J507 : ∀ (h : Hp), Cs G h N ns np no → XX l G mL_arePotsRight (Rm 8 0 0) (KQ G (Rm 8 0 0) (fun w h' => w = some (.int 1) ∧ Cs G h' N ns np no)) 0 0 509 [(5, .int 1), (3, .int (sm (inS N) np)), (0, .ref (Ad G 0))] [] h := by
      intro h C
      refine x_iload 0 dL_arePotsRight_509 rfl ?_
      refine x_if_eq 553 dL_arePotsRight_511 (by decide) (fun z => by first | exact absurd z (by decide) | exact absurd (by decide) z) (fun _ => ?_)
      first | refine x_aload_n 2 dL_arePotsRight_514 rfl rfl ?_ | refine x_aload_nN 2 dL_arePotsRight_514 rfl rfl ?_
      refine x_cV1 (As := []) (q_ss ok C (fun z => by rw [hw, e3]; exact ddiv_n w (by omega) np (by omega) (fun y => z (by rw [e3, y]; rfl)))) vL_102 rfl (x_rcC C) rfl ⟨ble rfl, ble rfl⟩ (ble rfl) dL_arePotsRight_515 rfl ?_
      first | refine x_aload_n 2 dL_arePotsRight_518 rfl rfl ?_ | refine x_aload_nN 2 dL_arePotsRight_518 rfl rfl ?_
      refine x_iconst (v := 3) dL_arePotsRight_519 rfl ?_
      refine x_cV1 (As := [.int _]) (q_ac3 ok C) vL_28 rfl (x_rcC C) rfl ⟨ble rfl, ble rfl⟩ (ble rfl) dL_arePotsRight_520 rfl ?_
      refine x_if_ne 530 dL_arePotsRight_523 (by decide) (fun c523 => ?_) (fun c523 => ?_)
      · first | refine x_aload_n 2 dL_arePotsRight_530 rfl rfl ?_ | refine x_aload_nN 2 dL_arePotsRight_530 rfl rfl ?_
        refine x_iconst (v := 3) dL_arePotsRight_531 rfl ?_
        refine x_cV1 (As := [.int _]) (q_ac3 ok C) vL_28 rfl (x_rcC C) rfl ⟨ble rfl, ble rfl⟩ (ble rfl) dL_arePotsRight_532 rfl ?_
        refine x_iload_n 1 dL_arePotsRight_535 rfl rfl ?_
        refine x_isub dL_arePotsRight_536 ?_
        refine x_i2d dL_arePotsRight_537 ?_
        first | refine x_aload_n 2 dL_arePotsRight_538 rfl rfl ?_ | refine x_aload_nN 2 dL_arePotsRight_538 rfl rfl ?_
        refine x_iconst (v := 3) dL_arePotsRight_539 rfl ?_
        refine x_cV1 (As := [.int _]) (q_ac3 ok C) vL_28 rfl (x_rcC C) rfl ⟨ble rfl, ble rfl⟩ (ble rfl) dL_arePotsRight_540 rfl ?_
        refine x_i2d dL_arePotsRight_543 ?_
        refine x_ddiv dL_arePotsRight_544 (by rw [hsub, hw, e3]; exact ddiv_n w (by omega) np (by omega) (fun y => c523 (by rw [e3, y]; rfl))) ?_
        refine x_dcmp dL_arePotsRight_545 ?_
        refine x_if_ne 553 dL_arePotsRight_546 (by decide) (fun z => by first | exact absurd z (by rw [if_neg (by exact c523), hsub, hw, e3]; exact dcmp_s w (by omega) np (by omega) (fun y => c523 (by rw [e3, y]; rfl))) | exact absurd (by rw [if_neg (by exact c523), hsub, hw, e3]; exact dcmp_s w (by omega) np (by omega) (fun y => c523 (by rw [e3, y]; rfl))) z) (fun _ => ?_)
        refine x_iconst (v := 1) dL_arePotsRight_549 rfl ?_
        refine x_goto 554 dL_arePotsRight_550 (by decide) ?_
        refine x_zret rfl (by first | rfl | (split <;> rfl) | (unfold b2i; split <;> rfl)) dL_arePotsRight_554 ?_
        exact ⟨rfl, C⟩
      · refine x_dconst0 dL_arePotsRight_526 ?_
        refine x_goto 545 dL_arePotsRight_527 (by decide) ?_
        refine x_dcmp dL_arePotsRight_545 ?_
        refine x_if_ne 553 dL_arePotsRight_546 (by decide) (fun z => by first | exact absurd z (by rw [if_pos (by exact c523)]; exact dcmp_0) | exact absurd (by rw [if_pos (by exact c523)]; exact dcmp_0) z) (fun _ => ?_)
        refine x_iconst (v := 1) dL_arePotsRight_549 rfl ?_
        refine x_goto 554 dL_arePotsRight_550 (by decide) ?_
        refine x_zret rfl (by first | rfl | (split <;> rfl) | (unfold b2i; split <;> rfl)) dL_arePotsRight_554 ?_
        exact ⟨rfl, C⟩
    refine x_iload 0 dL_arePotsRight_447 rfl ?_
    refine x_if_eq 506 dL_arePotsRight_449 (by decide) (fun z => by first | exact absurd z (by decide) | exact absurd (by decide) z) (fun _ => ?_)
    refine x_iload_n 4 dL_arePotsRight_452 rfl rfl ?_
    first | refine x_aload_n 5 dL_arePotsRight_453 rfl rfl ?_ | refine x_aload_nN 5 dL_arePotsRight_453 rfl rfl ?_
    refine x_iconst (v := 5) dL_arePotsRight_454 rfl ?_
    refine x_cV1 (As := [.int _]) (q_ac5 ok C) vL_28 rfl (x_rcC C) rfl ⟨ble rfl, ble rfl⟩ (ble rfl) dL_arePotsRight_455 rfl ?_
    refine x_icmp_ne 506 dL_arePotsRight_458 (by decide) (fun z => by first | exact absurd z (rfl) | exact absurd (rfl) z) (fun _ => ?_)
    refine x_iload_n 3 dL_arePotsRight_461 rfl rfl ?_
    first | refine x_aload_n 5 dL_arePotsRight_462 rfl rfl ?_ | refine x_aload_nN 5 dL_arePotsRight_462 rfl rfl ?_
    refine x_bipush (v := 6) dL_arePotsRight_463 rfl ?_
    refine x_cV1 (As := [.int _]) (q_ac6 ok C) vL_28 rfl (x_rcC C) rfl ⟨ble rfl, ble rfl⟩ (ble rfl) dL_arePotsRight_465 rfl ?_
    refine x_icmp_ne 506 dL_arePotsRight_468 (by decide) (fun z => by first | exact absurd z (rfl) | exact absurd (rfl) z) (fun _ => ?_)
    refine x_iload_n 2 dL_arePotsRight_471 rfl rfl ?_
    first | refine x_aload_n 5 dL_arePotsRight_472 rfl rfl ?_ | refine x_aload_nN 5 dL_arePotsRight_472 rfl rfl ?_
    refine x_iconst (v := 4) dL_arePotsRight_473 rfl ?_
    refine x_cV1 (As := [.int _]) (q_ac4 ok C) vL_28 rfl (x_rcC C) rfl ⟨ble rfl, ble rfl⟩ (ble rfl) dL_arePotsRight_474 rfl ?_
    refine x_icmp_ne 506 dL_arePotsRight_477 (by decide) (fun z => by first | exact absurd z (sh1) | exact absurd (sh1) z) (fun _ => ?_)
    first | refine x_aload_n 5 dL_arePotsRight_480 rfl rfl ?_ | refine x_aload_nN 5 dL_arePotsRight_480 rfl rfl ?_
    refine x_pV1 (mc1 := 0) (ms1 := 0) (As := []) (q_ms ok C (fun z => by rw [← sh3, ← sh2, hv, hu]; exact fdiv_n hv2 hu16 (fun y => z (by rw [← sh2, hu, y]; rfl)))) vL_98 rfl (x_rcC C) rfl ⟨ble rfl, ble rfl⟩ (ble rfl) dL_arePotsRight_481 rfl ⟨by omega, by omega⟩ (fun h481 q481 => ?_)
    clear C
    have C := q481
    refine x_iload_n 2 dL_arePotsRight_484 rfl rfl ?_
    refine x_if_ne 492 dL_arePotsRight_485 (by decide) (fun c485 => ?_) (fun c485 => ?_)
    · refine x_iload 1 dL_arePotsRight_492 rfl ?_
      refine x_i2f dL_arePotsRight_494 ?_
      refine x_iload_n 2 dL_arePotsRight_495 rfl rfl ?_
      refine x_i2f dL_arePotsRight_496 ?_
      refine x_fdiv dL_arePotsRight_497 (by rw [hv, hu]; exact fdiv_n hv2 hu16 (fun y => c485 (by rw [hu, y]; rfl))) ?_
      refine x_fcmp dL_arePotsRight_498 ?_
      refine x_if_ne 506 dL_arePotsRight_499 (by decide) (fun z => by first | exact absurd z (by rw [show meanS (lz N np) np = FP.fdiv (FP.i2f (nI v)) (FP.i2f (nI u)) by unfold meanS; rw [if_neg (by rw [← sh2]; exact c485), ← sh3, ← sh2, hv, hu]]; rw [hv, hu]; exact hfc v u hv2 hu16 (fun y => c485 (by rw [hu, y]; rfl))) | exact absurd (by rw [show meanS (lz N np) np = FP.fdiv (FP.i2f (nI v)) (FP.i2f (nI u)) by unfold meanS; rw [if_neg (by rw [← sh2]; exact c485), ← sh3, ← sh2, hv, hu]]; rw [hv, hu]; exact hfc v u hv2 hu16 (fun y => c485 (by rw [hu, y]; rfl))) z) (fun _ => ?_)
      refine x_iconst (v := 1) dL_arePotsRight_502 rfl ?_
      refine x_goto 507 dL_arePotsRight_503 (by decide) ?_
      refine x_istore (L' := [(5, _), (4, _), (3, _), (2, _), (1, _), (0, _)]) dL_arePotsRight_507 (ble rfl) rfl ?_
      refine x_locs (L' := [(5, _), (3, _), (0, _)]) [0, 2, 5] rfl ?_
      exact J507 _ C
    · refine x_fconst0 dL_arePotsRight_488 ?_
      refine x_goto 498 dL_arePotsRight_489 (by decide) ?_
      refine x_fcmp dL_arePotsRight_498 ?_
      refine x_if_ne 506 dL_arePotsRight_499 (by decide) (fun z => by first | exact absurd z (by rw [show meanS (lz N np) np = 0 by unfold meanS; exact if_pos (by rw [← sh2]; exact c485)]; exact fcmp_0) | exact absurd (by rw [show meanS (lz N np) np = 0 by unfold meanS; exact if_pos (by rw [← sh2]; exact c485)]; exact fcmp_0) z) (fun _ => ?_)
      refine x_iconst (v := 1) dL_arePotsRight_502 rfl ?_
      refine x_goto 507 dL_arePotsRight_503 (by decide) ?_
      refine x_istore (L' := [(5, _), (4, _), (3, _), (2, _), (1, _), (0, _)]) dL_arePotsRight_507 (ble rfl) rfl ?_
      refine x_locs (L' := [(5, _), (3, _), (0, _)]) [0, 2, 5] rfl ?_
      exact J507 _ C
  refine x_iconst (v := 0) dL_arePotsRight_0 rfl ?_
  refine x_istore_n (L' := [(1, _), (0, _)]) dL_arePotsRight_1 rfl (ble rfl) rfl ?_
  refine x_iconst (v := 0) dL_arePotsRight_2 rfl ?_
  refine x_istore_n (L' := [(2, _), (1, _), (0, _)]) dL_arePotsRight_3 rfl (ble rfl) rfl ?_
  refine x_iconst (v := 0) dL_arePotsRight_4 rfl ?_
  refine x_istore_n (L' := [(3, _), (2, _), (1, _), (0, _)]) dL_arePotsRight_5 rfl (ble rfl) rfl ?_
  refine x_iconst (v := 0) dL_arePotsRight_6 rfl ?_
  refine x_istore (L' := [(4, _), (3, _), (2, _), (1, _), (0, _)]) dL_arePotsRight_7 (ble rfl) rfl ?_
  refine x_iconst (v := 1) dL_arePotsRight_9 rfl ?_
  refine x_istore (L' := [(5, _), (4, _), (3, _), (2, _), (1, _), (0, _)]) dL_arePotsRight_10 (ble rfl) rfl ?_
  refine x_iconst (v := 0) dL_arePotsRight_12 rfl ?_
  refine x_istore (L' := [(6, _), (5, _), (4, _), (3, _), (2, _), (1, _), (0, _)]) dL_arePotsRight_13 (ble rfl) rfl ?_
  refine x_locs (L' := [(6, _), (5, _), (4, _), (3, _), (2, _), (1, _), (0, _)]) [0, 1, 2, 3, 4, 5, 6] rfl ?_
  exact ap_l ok C R J kk np 0 (by omega)
