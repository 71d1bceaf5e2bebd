theorem hset_nn {h : Hp} {a b : Nat} {e : va_E} (k : h b ≠ none) : hset h a e b ≠ none := by
  by_cases q : b = a
  · rw [q, hset_s]; simp
  · rw [hset_n q]; exact k
theorem hset_sn {h : Hp} {a : Nat} {e : va_E} : hset h a e a ≠ none := by rw [hset_s]; simp
def scrU (q10 q11 q12 q13 b : Nat) : Nat → Nat := fun j => if j = 10 then q10 else if j = 11 then q11 else if j = 12 then q12 else if j = 13 then q13 else b
theorem scr_fin {G : Gl} {h h' : Hp} {q10 q11 q12 q13 b : Nat} (z10 : h q10 = none ∧ G.2.2.1 q10 ∧ h' q10 ≠ none) (zb : h b = none ∧ G.2.2.1 b ∧ h' b ≠ none) (z11 : h q11 = none ∧ G.2.2.1 q11 ∧ h' q11 ≠ none) (z12 : h q12 = none ∧ G.2.2.1 q12 ∧ h' q12 ≠ none) (z13 : h q13 = none ∧ G.2.2.1 q13 ∧ h' q13 ≠ none)
    (n1 : q10 ≠ b) (n2 : q10 ≠ q11) (n3 : q10 ≠ q12) (n4 : q10 ≠ q13) (n5 : b ≠ q11) (n6 : b ≠ q12) (n7 : b ≠ q13) (n8 : q11 ≠ q12) (n9 : q11 ≠ q13) (n0 : q12 ≠ q13) : Frs G h U9 (scrU q10 q11 q12 q13 b) ∧ ∀ i, U9 i → h' (scrU q10 q11 q12 q13 b i) ≠ none := by
  have c : ∀ i, U9 i → i = 10 ∨ i = 11 ∨ i = 12 ∨ i = 13 ∨ i = 15 := fun i hi => by unfold U9 at hi; omega
  refine ⟨⟨fun i j hi hj e => ?_, fun i hi => ?_⟩, fun i hi => ?_⟩
  · rcases c i hi with rfl | rfl | rfl | rfl | rfl <;> rcases c j hj with rfl | rfl | rfl | rfl | rfl <;> first | rfl | exact absurd e n1 | exact absurd e n2 | exact absurd e n3 | exact absurd e n4 | exact absurd e n5 | exact absurd e n6 | exact absurd e n7 | exact absurd e n8 | exact absurd e n9 | exact absurd e n0 | exact absurd e.symm n1 | exact absurd e.symm n2 | exact absurd e.symm n3 | exact absurd e.symm n4 | exact absurd e.symm n5 | exact absurd e.symm n6 | exact absurd e.symm n7 | exact absurd e.symm n8 | exact absurd e.symm n9 | exact absurd e.symm n0
  · rcases c i hi with rfl | rfl | rfl | rfl | rfl
    · exact ⟨z10.1, z10.2.1⟩
    · exact ⟨z11.1, z11.2.1⟩
    · exact ⟨z12.1, z12.2.1⟩
    · exact ⟨z13.1, z13.2.1⟩
    · exact ⟨zb.1, zb.2.1⟩
  · rcases c i hi with rfl | rfl | rfl | rfl | rfl
    · exact z10.2.2
    · exact z11.2.2
    · exact z12.2.2
    · exact z13.2.2
    · exact zb.2.2
set_option maxRecDepth 100000 in
set_option maxHeartbeats 1000000 in
theorem ct_iScript {l : Launch} {G : Gl} {h : Hp} {a : Nat} (ha : h a = some (.inr (6, [.null, .null, .null, .null, .int 0, .int 0]))) (hA : G.2.2.1 a) : Ct l G mX6_init 3 (5) (50) [.ref a] h (fun w h' => w = none ∧ ∃ u, Frs G h U9 u ∧ (∀ i, U9 i → h' (u i) ≠ none) ∧ h' a = some (.inr (6, [.ref (u 10), .ref (u 11), .ref (u 12), .ref (u 13), .int 0, .int 0])) ∧ h' (u 10) = some (.inr (0, [.ref (u 15), .int 0, .int 0, .int 0])) ∧ h' (u 15) = some (eB G 16 (fun _ => 0)) ∧ h' (u 11) = some (eR G 7 10 (fun _ => none)) ∧ h' (u 12) = some (eI G 10 (fun _ => 0)) ∧ h' (u 13) = some (eI G 10 (fun _ => 0)) ∧ Gr a h h') := by
  have nna := some_nn ha
  refine Ct.of (L := [(0, _)]) (by decide) (ble rfl) rfl ?_
  first | refine x_aload_n 0 dX6_init_0 rfl rfl ?_ | refine x_aload_nN 0 dX6_init_0 rfl rfl ?_
  refine x_objInit rfl wX6_3 wObj2 wObj3 dX6_init_1 (ble rfl) (ble rfl) ?_
  first | refine x_aload_n 0 dX6_init_4 rfl rfl ?_ | refine x_aload_nN 0 dX6_init_4 rfl rfl ?_
  refine x_new (ci := 0) (fs := [.null, .int 0, .int 0, .int 0]) tyJ4 inJ4 tyJ4_ok rfl rfl (List.mem_append_right _ (List.mem_of_getElem? (i := 263) (by decide +kernel))) (List.mem_append_right _ (List.mem_of_getElem? (i := 264) (by decide +kernel))) (List.mem_append_right _ (List.mem_of_getElem? (i := 14) (by decide +kernel))) (by intro j hj; rcases (show j = 0 ∨ j = 1 ∨ j = 2 ∨ j = 3 by omega) with rfl | rfl | rfl | rfl <;> rfl) dX6_init_5 (fun q10 zq10 gq10 => ?_)
  have n_a_q10 : a ≠ q10 := none_ne (by with_reducible repeat first | assumption | exact hset_sn | refine hset_nn ?_) zq10
  have g0 := (Gr.rf (some_nn ha)).new (e := .inr (0, [.null, .int 0, .int 0, .int 0])) zq10
  refine x_dup dX6_init_8 rfl ?_
  refine x_callI (mc1 := 3) (ms1 := 30) (As := []) (ct_iSB hset_s gq10) vX6_11 rfl rfl ⟨ble rfl, ble rfl⟩ (ble rfl) dX6_init_9 rfl ⟨by omega, by omega⟩ (fun w h1 c1 => ?_)
  obtain ⟨rfl, b, zb, gb, k10, kb, F1⟩ := c1
  have nn10 := some_nn k10
  have nnb := some_nn kb
  have n_q10_b : q10 ≠ b := none_ne (some_nn hset_s) zb
  have ha1 := F1 a _ (hget_n n_a_q10 ha) n_a_q10
  have n_a_b : a ≠ b := none_ne g0.2 zb
  have g1 := g0.sub ⟨F1, some_nn k10⟩ zq10 n_a_q10
  have yb := g0.non zb
  refine x_putF fX6_12 rfl rfl rfl rfl rfl rfl dX6_init_12 (by with_reducible repeat first | assumption | exact hset_s | refine hget_n (by first | assumption | exact Ne.symm (by assumption)) ?_) (by exact ble rfl) (by first | assumption | exact aA (by assumption) (by omega)) ?_
  first | refine x_aload_n 0 dX6_init_15 rfl rfl ?_ | refine x_aload_nN 0 dX6_init_15 rfl rfl ?_
  refine x_bipush (v := 10) dX6_init_16 rfl ?_
  refine x_newq 7 10 rfl rfl (List.mem_append_right _ (List.mem_of_getElem? (i := 294) (by decide +kernel))) (List.mem_append_right _ (List.mem_of_getElem? (i := 295) (by decide +kernel))) (by decide) (by decide) dX6_init_18 (fun q11 zq11 gq11 => ?_)
  have n_a_q11 : a ≠ q11 := none_ne (by with_reducible repeat first | assumption | exact hset_sn | refine hset_nn ?_) zq11
  have n_q10_q11 : q10 ≠ q11 := none_ne (by with_reducible repeat first | assumption | exact hset_sn | refine hset_nn ?_) zq11
  have n_b_q11 : b ≠ q11 := none_ne (by with_reducible repeat first | assumption | exact hset_sn | refine hset_nn ?_) zq11
  have y11 := (g1.put).non zq11
  refine x_putF fX6_20 rfl rfl rfl rfl rfl rfl dX6_init_21 (by with_reducible repeat first | assumption | exact hset_s | refine hget_n (by first | assumption | exact Ne.symm (by assumption)) ?_) (by exact ble rfl) (by first | assumption | exact aA (by assumption) (by omega)) ?_
  first | refine x_aload_n 0 dX6_init_24 rfl rfl ?_ | refine x_aload_nN 0 dX6_init_24 rfl rfl ?_
  refine x_bipush (v := 10) dX6_init_25 rfl ?_
  refine x_newa (ty := .int) 0 10 rfl rfl (List.mem_append_right _ (List.mem_of_getElem? (i := 68) (by decide +kernel))) rfl rfl rfl (by intro C0 hh; cases hh) (by decide) (by decide) dX6_init_27 (fun q12 zq12 gq12 => ?_)
  have n_a_q12 : a ≠ q12 := none_ne (by with_reducible repeat first | assumption | exact hset_sn | refine hset_nn ?_) zq12
  have n_q10_q12 : q10 ≠ q12 := none_ne (by with_reducible repeat first | assumption | exact hset_sn | refine hset_nn ?_) zq12
  have n_b_q12 : b ≠ q12 := none_ne (by with_reducible repeat first | assumption | exact hset_sn | refine hset_nn ?_) zq12
  have n_q11_q12 : q11 ≠ q12 := none_ne (by with_reducible repeat first | assumption | exact hset_sn | refine hset_nn ?_) zq12
  have y12 := (((g1.put).new zq11).put).non zq12
  refine x_putF fX6_24 rfl rfl rfl rfl rfl rfl dX6_init_29 (by with_reducible repeat first | assumption | exact hset_s | refine hget_n (by first | assumption | exact Ne.symm (by assumption)) ?_) (by exact ble rfl) (by first | assumption | exact aA (by assumption) (by omega)) ?_
  first | refine x_aload_n 0 dX6_init_32 rfl rfl ?_ | refine x_aload_nN 0 dX6_init_32 rfl rfl ?_
  refine x_bipush (v := 10) dX6_init_33 rfl ?_
  refine x_newa (ty := .int) 0 10 rfl rfl (List.mem_append_right _ (List.mem_of_getElem? (i := 68) (by decide +kernel))) rfl rfl rfl (by intro C0 hh; cases hh) (by decide) (by decide) dX6_init_35 (fun q13 zq13 gq13 => ?_)
  have n_a_q13 : a ≠ q13 := none_ne (by with_reducible repeat first | assumption | exact hset_sn | refine hset_nn ?_) zq13
  have n_q10_q13 : q10 ≠ q13 := none_ne (by with_reducible repeat first | assumption | exact hset_sn | refine hset_nn ?_) zq13
  have n_b_q13 : b ≠ q13 := none_ne (by with_reducible repeat first | assumption | exact hset_sn | refine hset_nn ?_) zq13
  have n_q11_q13 : q11 ≠ q13 := none_ne (by with_reducible repeat first | assumption | exact hset_sn | refine hset_nn ?_) zq13
  have n_q12_q13 : q12 ≠ q13 := none_ne (by with_reducible repeat first | assumption | exact hset_sn | refine hset_nn ?_) zq13
  have y13 := (((((g1.put).new zq11).put).new zq12).put).non zq13
  refine x_putF fX6_28 rfl rfl rfl rfl rfl rfl dX6_init_37 (by with_reducible repeat first | assumption | exact hset_s | refine hget_n (by first | assumption | exact Ne.symm (by assumption)) ?_) (by exact ble rfl) (by first | assumption | exact aA (by assumption) (by omega)) ?_
  first | refine x_aload_n 0 dX6_init_40 rfl rfl ?_ | refine x_aload_nN 0 dX6_init_40 rfl rfl ?_
  refine x_iconst (v := 0) dX6_init_41 rfl ?_
  refine x_putS fX6_31 rfl rfl rfl rfl dX6_init_42 (by exact ble rfl) (by first | assumption | exact aA (by assumption) (by omega)) ?_
  first | refine x_aload_n 0 dX6_init_45 rfl rfl ?_ | refine x_aload_nN 0 dX6_init_45 rfl rfl ?_
  refine x_iconst (v := 0) dX6_init_46 rfl ?_
  refine x_putS fX6_35 rfl rfl rfl rfl dX6_init_47 (by exact ble rfl) (by first | assumption | exact aA (by assumption) (by omega)) ?_
  refine x_vret rfl dX6_init_50 ?_
  exact ⟨rfl, scrU q10 q11 q12 q13 b, and_assoc.mp ⟨scr_fin ⟨zq10, gq10, (by with_reducible repeat first | assumption | exact hset_sn | refine hset_nn ?_)⟩ ⟨yb, gb, (by with_reducible repeat first | assumption | exact hset_sn | refine hset_nn ?_)⟩ ⟨y11, gq11, (by with_reducible repeat first | assumption | exact hset_sn | refine hset_nn ?_)⟩ ⟨y12, gq12, (by with_reducible repeat first | assumption | exact hset_sn | refine hset_nn ?_)⟩ ⟨y13, gq13, (by with_reducible repeat first | assumption | exact hset_sn | refine hset_nn ?_)⟩ n_q10_b n_q10_q11 n_q10_q12 n_q10_q13 n_b_q11 n_b_q12 n_b_q13 n_q11_q12 n_q11_q13 n_q12_q13, by exact hset_s, (show (_ : Hp) q10 = some (.inr (0, [.ref b, .int 0, .int 0, .int 0])) by with_reducible repeat first | assumption | exact hset_s | refine hget_n (by first | assumption | exact Ne.symm (by assumption)) ?_), (show (_ : Hp) b = some (eB G 16 (fun _ => 0)) by with_reducible repeat first | assumption | exact hset_s | refine hget_n (by first | assumption | exact Ne.symm (by assumption)) ?_), (show (_ : Hp) q11 = some (eR G 7 10 (fun _ => none)) by with_reducible repeat first | assumption | exact hset_s | refine hget_n (by first | assumption | exact Ne.symm (by assumption)) ?_), (show (_ : Hp) q12 = some (eI G 10 (fun _ => 0)) by with_reducible repeat first | assumption | exact hset_s | refine hget_n (by first | assumption | exact Ne.symm (by assumption)) ?_), (show (_ : Hp) q13 = some (eI G 10 (fun _ => 0)) by with_reducible repeat first | assumption | exact hset_s | refine hget_n (by first | assumption | exact Ne.symm (by assumption)) ?_), ((((((g1.put).new zq11).put).new zq12).put).new zq13).put⟩⟩
