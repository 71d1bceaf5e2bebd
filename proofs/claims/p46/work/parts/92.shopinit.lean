set_option maxRecDepth 100000 in
set_option maxHeartbeats 1000000 in
theorem sh_e3 {l : Launch} {G : Gl} {h0 : Hp} {a : Nat} (hA : G.2.2.1 a) (nm : Nat → Nat) (h : Hp) (S : ShI G h0 a h nm 12 16 8) : XX l G mX8_init (Rm 3 40 284) (KQ G (Rm 3 40 284) (fun w h' => w = none ∧ ∃ nm, ShI G h0 a h' nm 12 16 8)) (0) (0) 172 [(1, .int (nI 8)), (0, .ref a)] [] h := by
  refine x_vret rfl dX8_init_172 ?_
  exact ⟨rfl, nm, S⟩
set_option maxRecDepth 100000 in
set_option maxHeartbeats 1000000 in
theorem sh_l3 {l : Launch} {G : Gl} {h0 : Hp} {a : Nat} (hA : G.2.2.1 a) (kk : ∀ (nm : Nat → Nat) (h : Hp), ShI G h0 a h nm 12 16 8 → XX l G mX8_init (Rm 3 40 284) (KQ G (Rm 3 40 284) (fun w h' => w = none ∧ ∃ nm, ShI G h0 a h' nm 12 16 8)) (0) (0) 172 [(1, .int (nI 8)), (0, .ref a)] [] h) : ∀ (t i : Nat) (nm : Nat → Nat) (h : Hp), i + t = 8 → ShI G h0 a h nm 12 16 i → XX l G mX8_init (Rm 3 40 284) (KQ G (Rm 3 40 284) (fun w h' => w = none ∧ ∃ nm, ShI G h0 a h' nm 12 16 8)) (t * 1 + 0) (t * 5 + 0) 144 [(1, .int (nI i)), (0, .ref a)] [] h
  | 0, i, nm, h, hi, S => by
    obtain rfl : i = 8 := by omega
    obtain ⟨c0, ⟨f1, c1, d1⟩, ⟨f2, c2, d2⟩, ⟨f3, c3, d3⟩, c4, c5, c6, c7⟩ := S.1
    refine x_bud (mc' := 0) (ms' := 0) (by omega) (by omega) ?_
    refine x_iload_n 0 dX8_init_144 rfl rfl ?_
    first | refine x_aload_n 1 dX8_init_145 rfl rfl ?_ | refine x_aload_nN 1 dX8_init_145 rfl rfl ?_
    refine x_get fX8_25 rfl dX8_init_146 (by with_reducible repeat first | assumption | exact hset_s | refine hget_n (by first | assumption | exact Ne.symm (by assumption)) ?_) (by rfl) ?_
    refine x_alen 5 rfl dX8_init_149 c3 (v := nI 8) rfl ?_
    refine x_icmp_ge 172 dX8_init_150 (by decide) (fun _ => ?_) (fun z => by first | exact absurd (Int32.le_refl _) z | exact absurd z (Int32.le_refl _))
    refine x_locs (L' := [(1, _), (0, _)]) [0, 1] rfl ?_
    exact kk nm h S
  | t + 1, i, nm, h, hi, S => by
    have hi2 : i < 8 := by omega
    obtain ⟨c0, ⟨f1, c1, d1⟩, ⟨f2, c2, d2⟩, ⟨f3, c3, d3⟩, c4, c5, c6, c7⟩ := id S.1
    refine x_bud (mc' := (t * 1 + 0) + 1) (ms' := (t * 5 + 0) + 5) (by omega) (by omega) ?_
    refine x_iload_n 0 dX8_init_144 rfl rfl ?_
    first | refine x_aload_n 1 dX8_init_145 rfl rfl ?_ | refine x_aload_nN 1 dX8_init_145 rfl rfl ?_
    refine x_get fX8_25 rfl dX8_init_146 (by with_reducible repeat first | assumption | exact hset_s | refine hget_n (by first | assumption | exact Ne.symm (by assumption)) ?_) (by rfl) ?_
    refine x_alen 5 rfl dX8_init_149 c3 (v := nI 8) rfl ?_
    refine x_icmp_ge 172 dX8_init_150 (by decide) (fun z => by first | exact absurd z (nI_ge hi2 (by omega)) | exact absurd (nI_ge hi2 (by omega)) z) (fun _ => ?_)
    first | refine x_aload_n 1 dX8_init_153 rfl rfl ?_ | refine x_aload_nN 1 dX8_init_153 rfl rfl ?_
    refine x_get fX8_25 rfl dX8_init_154 (by with_reducible repeat first | assumption | exact hset_s | refine hget_n (by first | assumption | exact Ne.symm (by assumption)) ?_) (by rfl) ?_
    refine x_iload_n 0 dX8_init_157 rfl rfl ?_
    refine x_new (ci := 3) (fs := [.null, .int 0, .int 0, .int 0, .int 0]) tyX3 inX3 tyX3_ok rfl rfl (List.mem_append_right _ (List.mem_of_getElem? (i := 42) (by decide +kernel))) (List.mem_append_right _ (List.mem_of_getElem? (i := 114) (by decide +kernel))) (List.mem_append_right _ (List.mem_of_getElem? (i := 8) (by decide +kernel))) (by intro j hj; rcases (show j = 0 ∨ j = 1 ∨ j = 2 ∨ j = 3 ∨ j = 4 by omega) with rfl | rfl | rfl | rfl | rfl <;> rfl) dX8_init_158 (fun q zq gq => ?_)
    have nq1 : nm 3 ≠ q := fun e => S.1.dom 3 (Or.inl (by omega)) (by rw [e]; exact zq)
    have naq : a ≠ q := fun e => by rw [← e, c0] at zq; cases zq
    refine x_dup dX8_init_161 rfl ?_
    refine x_callIN (mc1 := t * 1 + 0) (ms1 := t * 5 + 0) (As := []) (ct_iOrd hset_s gq) vX8_62 rfl rfl ⟨ble rfl, ble rfl⟩ (ble rfl) dX8_init_162 rfl ⟨by omega, by omega⟩ (fun w h1 q1 => ?_)
    obtain ⟨rfl, rfl⟩ := q1
    refine x_eqH hset_2 ?_
    refine x_aast (T := TX3) (N0 := 5) 5 rfl dX8_init_165 (hget_n nq1 c3) hset_s rfl (vp_in_nI hi2 (by omega)) (S.2.2.1 3 (Or.inl (by omega))).2 ?_
    refine x_iinc (L' := [(1, _), (0, _)]) (j := 0) (nI (_ + 1)) dX8_init_166 rfl (nI_1 _) (ble rfl) rfl ?_
    refine x_goto 144 dX8_init_169 (by decide) ?_
    refine x_locs (L' := [(1, _), (0, _)]) [0, 1] rfl ?_
    rw [nI_clamp (by omega)]
    exact sh_l3 hA kk t (i + 1) _ _ (by omega) (S.ord (by omega) (by omega) hi2 zq gq c3)
set_option maxRecDepth 100000 in
set_option maxHeartbeats 1000000 in
theorem sh_e2 {l : Launch} {G : Gl} {h0 : Hp} {a : Nat} (hA : G.2.2.1 a) (nm : Nat → Nat) (h : Hp) (S : ShI G h0 a h nm 12 16 0) : XX l G mX8_init (Rm 3 40 284) (KQ G (Rm 3 40 284) (fun w h' => w = none ∧ ∃ nm, ShI G h0 a h' nm 12 16 8)) (8) (48) 142 [(1, .int (nI 16)), (0, .ref a)] [] h := by
  refine x_iconst (v := 0) dX8_init_142 rfl ?_
  refine x_istore_n (L' := [(1, _), (0, _)]) dX8_init_143 rfl (ble rfl) rfl ?_
  refine x_locs (L' := [(1, _), (0, _)]) [0, 1] rfl ?_
  refine x_locs (L' := [(1, .int (nI 0)), (0, .ref a)]) [0, 1] rfl ?_
  refine x_bud (mc' := 8 * 1 + 0) (ms' := 8 * 5 + 0) (by omega) (by omega) ?_
  exact sh_l3 hA (sh_e3 hA) 8 0 nm h (by omega) S
set_option maxRecDepth 100000 in
set_option maxHeartbeats 1000000 in
theorem sh_l2 {l : Launch} {G : Gl} {h0 : Hp} {a : Nat} (hA : G.2.2.1 a) (kk : ∀ (nm : Nat → Nat) (h : Hp), ShI G h0 a h nm 12 16 0 → XX l G mX8_init (Rm 3 40 284) (KQ G (Rm 3 40 284) (fun w h' => w = none ∧ ∃ nm, ShI G h0 a h' nm 12 16 8)) (8) (48) 142 [(1, .int (nI 16)), (0, .ref a)] [] h) : ∀ (t i : Nat) (nm : Nat → Nat) (h : Hp), i + t = 16 → ShI G h0 a h nm 12 i 0 → XX l G mX8_init (Rm 3 40 284) (KQ G (Rm 3 40 284) (fun w h' => w = none ∧ ∃ nm, ShI G h0 a h' nm 12 16 8)) (t * 1 + 8) (t * 9 + 48) 113 [(1, .int (nI i)), (0, .ref a)] [] h
  | 0, i, nm, h, hi, S => by
    obtain rfl : i = 16 := by omega
    obtain ⟨c0, ⟨f1, c1, d1⟩, ⟨f2, c2, d2⟩, ⟨f3, c3, d3⟩, c4, c5, c6, c7⟩ := S.1
    refine x_bud (mc' := 8) (ms' := 48) (by omega) (by omega) ?_
    refine x_iload_n 0 dX8_init_113 rfl rfl ?_
    first | refine x_aload_n 1 dX8_init_114 rfl rfl ?_ | refine x_aload_nN 1 dX8_init_114 rfl rfl ?_
    refine x_get fX8_19 rfl dX8_init_115 (by with_reducible repeat first | assumption | exact hset_s | refine hget_n (by first | assumption | exact Ne.symm (by assumption)) ?_) (by rfl) ?_
    refine x_alen 4 rfl dX8_init_118 c2 (v := nI 16) rfl ?_
    refine x_icmp_ge 142 dX8_init_119 (by decide) (fun _ => ?_) (fun z => by first | exact absurd (Int32.le_refl _) z | exact absurd z (Int32.le_refl _))
    refine x_locs (L' := [(1, _), (0, _)]) [0, 1] rfl ?_
    exact kk nm h S
  | t + 1, i, nm, h, hi, S => by
    have hi2 : i < 16 := by omega
    obtain ⟨c0, ⟨f1, c1, d1⟩, ⟨f2, c2, d2⟩, ⟨f3, c3, d3⟩, c4, c5, c6, c7⟩ := id S.1
    refine x_bud (mc' := (t * 1 + 8) + 1) (ms' := (t * 9 + 48) + 9) (by omega) (by omega) ?_
    refine x_iload_n 0 dX8_init_113 rfl rfl ?_
    first | refine x_aload_n 1 dX8_init_114 rfl rfl ?_ | refine x_aload_nN 1 dX8_init_114 rfl rfl ?_
    refine x_get fX8_19 rfl dX8_init_115 (by with_reducible repeat first | assumption | exact hset_s | refine hget_n (by first | assumption | exact Ne.symm (by assumption)) ?_) (by rfl) ?_
    refine x_alen 4 rfl dX8_init_118 c2 (v := nI 16) rfl ?_
    refine x_icmp_ge 142 dX8_init_119 (by decide) (fun z => by first | exact absurd z (nI_ge hi2 (by omega)) | exact absurd (nI_ge hi2 (by omega)) z) (fun _ => ?_)
    first | refine x_aload_n 1 dX8_init_122 rfl rfl ?_ | refine x_aload_nN 1 dX8_init_122 rfl rfl ?_
    refine x_get fX8_19 rfl dX8_init_123 (by with_reducible repeat first | assumption | exact hset_s | refine hget_n (by first | assumption | exact Ne.symm (by assumption)) ?_) (by rfl) ?_
    refine x_iload_n 0 dX8_init_126 rfl rfl ?_
    refine x_new (ci := 4) (fs := [.int 0, .null, .int 0, .int 0, .int 0, .int 0, .int 0, .int 0, .int 0]) tyX4 inX4 tyX4_ok rfl rfl (List.mem_append_right _ (List.mem_of_getElem? (i := 40) (by decide +kernel))) (List.mem_append_right _ (List.mem_of_getElem? (i := 69) (by decide +kernel))) (List.mem_append_right _ (List.mem_of_getElem? (i := 5) (by decide +kernel))) (by intro j hj; rcases (show j = 0 ∨ j = 1 ∨ j = 2 ∨ j = 3 ∨ j = 4 ∨ j = 5 ∨ j = 6 ∨ j = 7 ∨ j = 8 by omega) with rfl | rfl | rfl | rfl | rfl | rfl | rfl | rfl | rfl <;> rfl) dX8_init_127 (fun q zq gq => ?_)
    have nq1 : nm 2 ≠ q := fun e => S.1.dom 2 (Or.inl (by omega)) (by rw [e]; exact zq)
    have naq : a ≠ q := fun e => by rw [← e, c0] at zq; cases zq
    refine x_dup dX8_init_130 rfl ?_
    refine x_iload_n 0 dX8_init_131 rfl rfl ?_
    refine x_callI (mc1 := t * 1 + 8) (ms1 := t * 9 + 48) (As := [.int _]) (ct_iPot hset_s gq _) vX8_59 rfl rfl ⟨ble rfl, ble rfl⟩ (ble rfl) dX8_init_132 rfl ⟨by omega, by omega⟩ (fun w h1 q1 => ?_)
    obtain ⟨rfl, rfl⟩ := q1
    refine x_eqH hset_2 ?_
    refine x_aast (T := TX4) (N0 := 9) 4 rfl dX8_init_135 (hget_n nq1 c2) hset_s rfl (vp_in_nI hi2 (by omega)) (S.2.2.1 2 (Or.inl (by omega))).2 ?_
    refine x_iinc (L' := [(1, _), (0, _)]) (j := 0) (nI (_ + 1)) dX8_init_136 rfl (nI_1 _) (ble rfl) rfl ?_
    refine x_goto 113 dX8_init_139 (by decide) ?_
    refine x_locs (L' := [(1, _), (0, _)]) [0, 1] rfl ?_
    rw [nI_clamp (by omega)]
    exact sh_l2 hA kk t (i + 1) _ _ (by omega) (S.pot (by omega) hi2 (by omega) zq gq c2)
set_option maxRecDepth 100000 in
set_option maxHeartbeats 1000000 in
theorem sh_e1 {l : Launch} {G : Gl} {h0 : Hp} {a : Nat} (hA : G.2.2.1 a) (nm : Nat → Nat) (h : Hp) (S : ShI G h0 a h nm 12 0 0) : XX l G mX8_init (Rm 3 40 284) (KQ G (Rm 3 40 284) (fun w h' => w = none ∧ ∃ nm, ShI G h0 a h' nm 12 16 8)) (24) (192) 111 [(1, .int (nI 12)), (0, .ref a)] [] h := by
  refine x_iconst (v := 0) dX8_init_111 rfl ?_
  refine x_istore_n (L' := [(1, _), (0, _)]) dX8_init_112 rfl (ble rfl) rfl ?_
  refine x_locs (L' := [(1, _), (0, _)]) [0, 1] rfl ?_
  refine x_locs (L' := [(1, .int (nI 0)), (0, .ref a)]) [0, 1] rfl ?_
  refine x_bud (mc' := 16 * 1 + 8) (ms' := 16 * 9 + 48) (by omega) (by omega) ?_
  exact sh_l2 hA (sh_e2 hA) 16 0 nm h (by omega) S
set_option maxRecDepth 100000 in
set_option maxHeartbeats 1000000 in
theorem sh_l1 {l : Launch} {G : Gl} {h0 : Hp} {a : Nat} (hA : G.2.2.1 a) (kk : ∀ (nm : Nat → Nat) (h : Hp), ShI G h0 a h nm 12 0 0 → XX l G mX8_init (Rm 3 40 284) (KQ G (Rm 3 40 284) (fun w h' => w = none ∧ ∃ nm, ShI G h0 a h' nm 12 16 8)) (24) (192) 111 [(1, .int (nI 12)), (0, .ref a)] [] h) : ∀ (t i : Nat) (nm : Nat → Nat) (h : Hp), i + t = 12 → ShI G h0 a h nm i 0 0 → XX l G mX8_init (Rm 3 40 284) (KQ G (Rm 3 40 284) (fun w h' => w = none ∧ ∃ nm, ShI G h0 a h' nm 12 16 8)) (t * 1 + 24) (t * 4 + 192) 83 [(1, .int (nI i)), (0, .ref a)] [] h
  | 0, i, nm, h, hi, S => by
    obtain rfl : i = 12 := by omega
    obtain ⟨c0, ⟨f1, c1, d1⟩, ⟨f2, c2, d2⟩, ⟨f3, c3, d3⟩, c4, c5, c6, c7⟩ := S.1
    refine x_bud (mc' := 24) (ms' := 192) (by omega) (by omega) ?_
    refine x_iload_n 0 dX8_init_83 rfl rfl ?_
    first | refine x_aload_n 1 dX8_init_84 rfl rfl ?_ | refine x_aload_nN 1 dX8_init_84 rfl rfl ?_
    refine x_get fX8_11 rfl dX8_init_85 (by with_reducible repeat first | assumption | exact hset_s | refine hget_n (by first | assumption | exact Ne.symm (by assumption)) ?_) (by rfl) ?_
    refine x_alen 3 rfl dX8_init_88 c1 (v := nI 12) rfl ?_
    refine x_icmp_ge 111 dX8_init_89 (by decide) (fun _ => ?_) (fun z => by first | exact absurd (Int32.le_refl _) z | exact absurd z (Int32.le_refl _))
    refine x_locs (L' := [(1, _), (0, _)]) [0, 1] rfl ?_
    exact kk nm h S
  | t + 1, i, nm, h, hi, S => by
    have hi2 : i < 12 := by omega
    obtain ⟨c0, ⟨f1, c1, d1⟩, ⟨f2, c2, d2⟩, ⟨f3, c3, d3⟩, c4, c5, c6, c7⟩ := id S.1
    refine x_bud (mc' := (t * 1 + 24) + 1) (ms' := (t * 4 + 192) + 4) (by omega) (by omega) ?_
    refine x_iload_n 0 dX8_init_83 rfl rfl ?_
    first | refine x_aload_n 1 dX8_init_84 rfl rfl ?_ | refine x_aload_nN 1 dX8_init_84 rfl rfl ?_
    refine x_get fX8_11 rfl dX8_init_85 (by with_reducible repeat first | assumption | exact hset_s | refine hget_n (by first | assumption | exact Ne.symm (by assumption)) ?_) (by rfl) ?_
    refine x_alen 3 rfl dX8_init_88 c1 (v := nI 12) rfl ?_
    refine x_icmp_ge 111 dX8_init_89 (by decide) (fun z => by first | exact absurd z (nI_ge hi2 (by omega)) | exact absurd (nI_ge hi2 (by omega)) z) (fun _ => ?_)
    first | refine x_aload_n 1 dX8_init_92 rfl rfl ?_ | refine x_aload_nN 1 dX8_init_92 rfl rfl ?_
    refine x_get fX8_11 rfl dX8_init_93 (by with_reducible repeat first | assumption | exact hset_s | refine hget_n (by first | assumption | exact Ne.symm (by assumption)) ?_) (by rfl) ?_
    refine x_iload_n 0 dX8_init_96 rfl rfl ?_
    refine x_new (ci := 7) (fs := [.int 0, .int 0, .int 0, .int 0]) tyX7 inX7 tyX7_ok rfl rfl (List.mem_append_right _ (List.mem_of_getElem? (i := 38) (by decide +kernel))) (List.mem_append_right _ (List.mem_of_getElem? (i := 44) (by decide +kernel))) (List.mem_append_right _ (List.mem_of_getElem? (i := 4) (by decide +kernel))) (by intro j hj; rcases (show j = 0 ∨ j = 1 ∨ j = 2 ∨ j = 3 by omega) with rfl | rfl | rfl | rfl <;> rfl) dX8_init_97 (fun q zq gq => ?_)
    have nq1 : nm 1 ≠ q := fun e => S.1.dom 1 (Or.inl (by omega)) (by rw [e]; exact zq)
    have naq : a ≠ q := fun e => by rw [← e, c0] at zq; cases zq
    refine x_dup dX8_init_100 rfl ?_
    refine x_callIN (mc1 := t * 1 + 24) (ms1 := t * 4 + 192) (As := []) (ct_iSheet hset_s gq) vX8_58 rfl rfl ⟨ble rfl, ble rfl⟩ (ble rfl) dX8_init_101 rfl ⟨by omega, by omega⟩ (fun w h1 q1 => ?_)
    obtain ⟨rfl, rfl⟩ := q1
    refine x_aast (T := TX7) (N0 := 4) 3 rfl dX8_init_104 (hget_n nq1 c1) hset_s rfl (vp_in_nI hi2 (by omega)) (S.2.2.1 1 (Or.inl (by omega))).2 ?_
    refine x_iinc (L' := [(1, _), (0, _)]) (j := 0) (nI (_ + 1)) dX8_init_105 rfl (nI_1 _) (ble rfl) rfl ?_
    refine x_goto 83 dX8_init_108 (by decide) ?_
    refine x_locs (L' := [(1, _), (0, _)]) [0, 1] rfl ?_
    rw [nI_clamp (by omega)]
    exact sh_l1 hA kk t (i + 1) _ _ (by omega) (S.sheet hi2 (by omega) (by omega) zq gq c1)
theorem fr_new {h h' : Hp} {a q : Nat} {e : va_E} (F : Fr (fun x => x = a) h h') (z : h q = none) : Fr (fun x => x = a) h (hset h' q e) := fun x y hx nx => by
  rw [hset_n (fun e => by rw [e, z] at hx; cases hx)]
  exact F x y hx nx
set_option maxRecDepth 100000 in
set_option maxHeartbeats 1000000 in
theorem ct_iShop {l : Launch} {G : Gl} {h : Hp} {a : Nat} (ha : h a = some (.inr (8, [.null, .null, .null, .null, .int 0, .int 0, .int 0, .int 0, .int 0, .int 0, .int 0, .int 0]))) (hA : G.2.2.1 a) : Ct l G mX8_init 3 (40) (284) [.ref a] h (fun w h' => w = none ∧ ∃ nm, ShI G h a h' nm 12 16 8) := by
  refine Ct.of (L := [(0, _)]) (by decide) (ble rfl) rfl ?_
  first | refine x_aload_n 0 dX8_init_0 rfl rfl ?_ | refine x_aload_nN 0 dX8_init_0 rfl rfl ?_
  refine x_objInit rfl wX8_3 wObj2 wObj3 dX8_init_1 (ble rfl) (ble rfl) ?_
  first | refine x_aload_n 0 dX8_init_4 rfl rfl ?_ | refine x_aload_nN 0 dX8_init_4 rfl rfl ?_
  refine x_bipush (v := 12) dX8_init_5 rfl ?_
  refine x_newq 3 12 rfl rfl (List.mem_append_right _ (List.mem_of_getElem? (i := 38) (by decide +kernel))) (List.mem_append_right _ (List.mem_of_getElem? (i := 39) (by decide +kernel))) (by decide) (by decide) dX8_init_7 (fun q1 zq1 gq1 => ?_)
  have n1 : a ≠ q1 := fun e => by rw [← e, ha] at zq1; cases zq1
  refine x_putF fX8_11 rfl rfl rfl rfl rfl rfl dX8_init_10 (by with_reducible repeat first | assumption | exact hset_s | refine hget_n (by first | assumption | exact Ne.symm (by assumption)) ?_) (by exact ble rfl) (by first | assumption | exact aA (by assumption) (by omega)) ?_
  first | refine x_aload_n 0 dX8_init_13 rfl rfl ?_ | refine x_aload_nN 0 dX8_init_13 rfl rfl ?_
  refine x_bipush (v := 16) dX8_init_14 rfl ?_
  refine x_newq 4 16 rfl rfl (List.mem_append_right _ (List.mem_of_getElem? (i := 40) (by decide +kernel))) (List.mem_append_right _ (List.mem_of_getElem? (i := 41) (by decide +kernel))) (by decide) (by decide) dX8_init_16 (fun q2 zq2 gq2 => ?_)
  have n2 : a ≠ q2 := fun e => by rw [← e, hset_s] at zq2; cases zq2
  have n12 : q1 ≠ q2 := fun e => by rw [← e, hset_n n1.symm, hset_s] at zq2; cases zq2
  have z2 : h q2 = none := by rw [hset_n n2.symm, hset_n n12.symm] at zq2; exact zq2
  refine x_putF fX8_19 rfl rfl rfl rfl rfl rfl dX8_init_19 (by with_reducible repeat first | assumption | exact hset_s | refine hget_n (by first | assumption | exact Ne.symm (by assumption)) ?_) (by exact ble rfl) (by first | assumption | exact aA (by assumption) (by omega)) ?_
  first | refine x_aload_n 0 dX8_init_22 rfl rfl ?_ | refine x_aload_nN 0 dX8_init_22 rfl rfl ?_
  refine x_bipush (v := 8) dX8_init_23 rfl ?_
  refine x_newq 5 8 rfl rfl (List.mem_append_right _ (List.mem_of_getElem? (i := 42) (by decide +kernel))) (List.mem_append_right _ (List.mem_of_getElem? (i := 43) (by decide +kernel))) (by decide) (by decide) dX8_init_25 (fun q3 zq3 gq3 => ?_)
  have n3 : a ≠ q3 := fun e => by rw [← e, hset_s] at zq3; cases zq3
  have n23 : q2 ≠ q3 := fun e => by rw [← e, hset_n n2.symm, hset_s] at zq3; cases zq3
  have n13 : q1 ≠ q3 := fun e => by rw [← e, hset_n n1.symm, hset_n n12, hset_n n1.symm, hset_s] at zq3; cases zq3
  have z3 : h q3 = none := by rw [hset_n n3.symm, hset_n n23.symm, hset_n n3.symm, hset_n n13.symm] at zq3; exact zq3
  refine x_putF fX8_25 rfl rfl rfl rfl rfl rfl dX8_init_28 (by with_reducible repeat first | assumption | exact hset_s | refine hget_n (by first | assumption | exact Ne.symm (by assumption)) ?_) (by exact ble rfl) (by first | assumption | exact aA (by assumption) (by omega)) ?_
  first | refine x_aload_n 0 dX8_init_31 rfl rfl ?_ | refine x_aload_nN 0 dX8_init_31 rfl rfl ?_
  refine x_bipush (v := 8) dX8_init_32 rfl ?_
  refine x_newa (ty := .int) 0 8 rfl rfl (List.mem_append_right _ (List.mem_of_getElem? (i := 68) (by decide +kernel))) rfl rfl rfl (by intro C0 hh; cases hh) (by decide) (by decide) dX8_init_34 (fun q4 zq4 gq4 => ?_)
  have n4 : a ≠ q4 := fun e => by rw [← e, hset_s] at zq4; cases zq4
  have n34 : q3 ≠ q4 := fun e => by rw [← e, hset_n n3.symm, hset_s] at zq4; cases zq4
  have n24 : q2 ≠ q4 := fun e => by rw [← e, hset_n n2.symm, hset_n n23, hset_n n2.symm, hset_s] at zq4; cases zq4
  have n14 : q1 ≠ q4 := fun e => by rw [← e, hset_n n1.symm, hset_n n13, hset_n n1.symm, hset_n n12, hset_n n1.symm, hset_s] at zq4; cases zq4
  have z4 : h q4 = none := by rw [hset_n n4.symm, hset_n n34.symm, hset_n n4.symm, hset_n n24.symm, hset_n n4.symm, hset_n n14.symm] at zq4; exact zq4
  refine x_putF fX8_29 rfl rfl rfl rfl rfl rfl dX8_init_36 (by with_reducible repeat first | assumption | exact hset_s | refine hget_n (by first | assumption | exact Ne.symm (by assumption)) ?_) (by exact ble rfl) (by first | assumption | exact aA (by assumption) (by omega)) ?_
  first | refine x_aload_n 0 dX8_init_39 rfl rfl ?_ | refine x_aload_nN 0 dX8_init_39 rfl rfl ?_
  refine x_iconst (v := 0) dX8_init_40 rfl ?_
  refine x_putS fX8_33 rfl rfl rfl rfl dX8_init_41 (by exact ble rfl) (by first | assumption | exact aA (by assumption) (by omega)) ?_
  first | refine x_aload_n 0 dX8_init_44 rfl rfl ?_ | refine x_aload_nN 0 dX8_init_44 rfl rfl ?_
  refine x_iconst (v := 0) dX8_init_45 rfl ?_
  refine x_putS fX8_37 rfl rfl rfl rfl dX8_init_46 (by exact ble rfl) (by first | assumption | exact aA (by assumption) (by omega)) ?_
  first | refine x_aload_n 0 dX8_init_49 rfl rfl ?_ | refine x_aload_nN 0 dX8_init_49 rfl rfl ?_
  refine x_iconst (v := 0) dX8_init_50 rfl ?_
  refine x_putS fX8_40 rfl rfl rfl rfl dX8_init_51 (by exact ble rfl) (by first | assumption | exact aA (by assumption) (by omega)) ?_
  first | refine x_aload_n 0 dX8_init_54 rfl rfl ?_ | refine x_aload_nN 0 dX8_init_54 rfl rfl ?_
  refine x_bipush (v := 30) dX8_init_55 rfl ?_
  refine x_putS fX8_43 rfl rfl rfl rfl dX8_init_57 (by exact ble rfl) (by first | assumption | exact aA (by assumption) (by omega)) ?_
  first | refine x_aload_n 0 dX8_init_60 rfl rfl ?_ | refine x_aload_nN 0 dX8_init_60 rfl rfl ?_
  refine x_bipush (v := 20) dX8_init_61 rfl ?_
  refine x_putS fX8_46 rfl rfl rfl rfl dX8_init_63 (by exact ble rfl) (by first | assumption | exact aA (by assumption) (by omega)) ?_
  first | refine x_aload_n 0 dX8_init_66 rfl rfl ?_ | refine x_aload_nN 0 dX8_init_66 rfl rfl ?_
  refine x_iconst (v := 0) dX8_init_67 rfl ?_
  refine x_putS fX8_49 rfl rfl rfl rfl dX8_init_68 (by exact ble rfl) (by first | assumption | exact aA (by assumption) (by omega)) ?_
  first | refine x_aload_n 0 dX8_init_71 rfl rfl ?_ | refine x_aload_nN 0 dX8_init_71 rfl rfl ?_
  refine x_iconst (v := 0) dX8_init_72 rfl ?_
  refine x_putS fX8_52 rfl rfl rfl rfl dX8_init_73 (by exact ble rfl) (by first | assumption | exact aA (by assumption) (by omega)) ?_
  first | refine x_aload_n 0 dX8_init_76 rfl rfl ?_ | refine x_aload_nN 0 dX8_init_76 rfl rfl ?_
  refine x_iconst (v := 0) dX8_init_77 rfl ?_
  refine x_putS fX8_55 rfl rfl rfl rfl dX8_init_78 (by exact ble rfl) (by first | assumption | exact aA (by assumption) (by omega)) ?_
  refine x_iconst (v := 0) dX8_init_81 rfl ?_
  refine x_istore_n (L' := [(1, _), (0, _)]) dX8_init_82 rfl (ble rfl) rfl ?_
  refine x_locs (L' := [(1, _), (0, _)]) [0, 1] rfl ?_
  refine x_locs (L' := [(1, .int (nI 0)), (0, .ref a)]) [0, 1] rfl ?_
  refine x_bud (mc' := 12 * 1 + 24) (ms' := 12 * 4 + 192) (by omega) (by omega) ?_
  refine sh_l1 hA (sh_e1 hA) 12 0 (fun x => if x = 1 then q1 else if x = 2 then q2 else if x = 3 then q3 else q4) _ (by omega) ⟨⟨by exact hset_s, ⟨_, (show (_ : Hp) q1 = some (eR G 3 12 (fun _ => none)) by with_reducible repeat first | assumption | exact hset_s | refine hget_n (by first | assumption | exact Ne.symm (by assumption)) ?_), fun q hq => absurd hq (Nat.not_lt_zero q)⟩, ⟨_, (show (_ : Hp) q2 = some (eR G 4 16 (fun _ => none)) by with_reducible repeat first | assumption | exact hset_s | refine hget_n (by first | assumption | exact Ne.symm (by assumption)) ?_), fun q hq => absurd hq (Nat.not_lt_zero q)⟩, ⟨_, (show (_ : Hp) q3 = some (eR G 5 8 (fun _ => none)) by with_reducible repeat first | assumption | exact hset_s | refine hget_n (by first | assumption | exact Ne.symm (by assumption)) ?_), fun q hq => absurd hq (Nat.not_lt_zero q)⟩, (show (_ : Hp) q4 = some (eI G 8 (fun _ => 0)) by with_reducible repeat first | assumption | exact hset_s | refine hget_n (by first | assumption | exact Ne.symm (by assumption)) ?_), fun q hq => absurd hq (Nat.not_lt_zero q), fun q hq => absurd hq (Nat.not_lt_zero q), fun q hq => absurd hq (Nat.not_lt_zero q)⟩, ?_, ?_, ?_, by rw [ha]; simp⟩
  · intro x y hx hy e
    have hx4 : x = 1 ∨ x = 2 ∨ x = 3 ∨ x = 4 := by unfold Us at hx; omega
    have hy4 : y = 1 ∨ y = 2 ∨ y = 3 ∨ y = 4 := by unfold Us at hy; omega
    rcases hx4 with rfl | rfl | rfl | rfl <;> rcases hy4 with rfl | rfl | rfl | rfl <;> first | rfl | exact absurd e n12 | exact absurd e n13 | exact absurd e n14 | exact absurd e n23 | exact absurd e n24 | exact absurd e n34 | exact absurd e.symm n12 | exact absurd e.symm n13 | exact absurd e.symm n14 | exact absurd e.symm n23 | exact absurd e.symm n24 | exact absurd e.symm n34
  · intro x hx
    have hx4 : x = 1 ∨ x = 2 ∨ x = 3 ∨ x = 4 := by unfold Us at hx; omega
    rcases hx4 with rfl | rfl | rfl | rfl
    · exact ⟨zq1, gq1⟩
    · exact ⟨z2, gq2⟩
    · exact ⟨z3, gq3⟩
    · exact ⟨z4, gq4⟩
  · repeat first | exact Fr.rf | refine Fr.st ?_ rfl | refine fr_new ?_ (by assumption)
