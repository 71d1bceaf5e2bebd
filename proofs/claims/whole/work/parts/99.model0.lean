def MdC (G : Gl) (h : Hp) (u : Nat → Nat) : Prop := h (u 21) = some (eI G 228 (clN (fun _ => 0))) ∧ h (u 22) = some (eI G 228 (fun _ => 0)) ∧ h (u 23) = some (eI G 228 (fun _ => 0)) ∧ h (u 24) = some (eI G 1824 (fun _ => 0)) ∧ h (u 25) = some (eI G 3 (fun _ => 0)) ∧ h (u 26) = some (eI G 3 (fun _ => 0)) ∧ h (u 27) = some (eI G 60 (fun _ => 0)) ∧ h (u 28) = some (eI G 60 (fun _ => 0)) ∧ h (u 29) = some (eZ G 256 (fun _ => 0)) ∧ h (u 30) = some (eI G 16 (fun _ => 0)) ∧ h (u 31) = some (eI G 32 (fun _ => 0))
theorem stageA {a q : Nat} {h hk hz : Hp} {e e' : va_E} (Gk : Gr a h hk) (zq : hk q = none) (ez : hz = hset (hset hk q e) a e') : Gr a h hz ∧ Fr (fun x => x = a) hk hz ∧ hz q = some e ∧ (∀ x, hk x ≠ none → hz x ≠ none) ∧ hz a = some e' := by
  subst ez
  have naq : a ≠ q := none_ne Gk.2 zq
  refine ⟨(Gk.new zq).put, fun y x hy ny => ?_, by rw [hset_n naq.symm, hset_s], fun x hx => hset_nn (hset_nn hx), hset_s⟩
  rw [hset_n ny, hset_n (none_ne (some_nn hy) zq)]
  exact hy
def mdU (q21 q22 q23 q24 q25 q26 q27 q28 q29 q30 q31 : Nat) : Nat → Nat := fun j => if j = 21 then q21 else if j = 22 then q22 else if j = 23 then q23 else if j = 24 then q24 else if j = 25 then q25 else if j = 26 then q26 else if j = 27 then q27 else if j = 28 then q28 else if j = 29 then q29 else if j = 30 then q30 else q31
theorem md_fin {G : Gl} {h y21 y22 y23 y24 y25 y26 y27 y28 y29 y30 y31 : Hp} {q21 q22 q23 q24 q25 q26 q27 q28 q29 q30 q31 : Nat} (m0 : ∀ x, h x ≠ none → y21 x ≠ none) (m1 : ∀ x, y21 x ≠ none → y22 x ≠ none) (m2 : ∀ x, y22 x ≠ none → y23 x ≠ none) (m3 : ∀ x, y23 x ≠ none → y24 x ≠ none) (m4 : ∀ x, y24 x ≠ none → y25 x ≠ none) (m5 : ∀ x, y25 x ≠ none → y26 x ≠ none) (m6 : ∀ x, y26 x ≠ none → y27 x ≠ none) (m7 : ∀ x, y27 x ≠ none → y28 x ≠ none) (m8 : ∀ x, y28 x ≠ none → y29 x ≠ none) (m9 : ∀ x, y29 x ≠ none → y30 x ≠ none) (m10 : ∀ x, y30 x ≠ none → y31 x ≠ none) (z0 : At1 G h y21 q21) (z1 : At1 G y21 y22 q22) (z2 : At1 G y22 y23 q23) (z3 : At1 G y23 y24 q24) (z4 : At1 G y24 y25 q25) (z5 : At1 G y25 y26 q26) (z6 : At1 G y26 y27 q27) (z7 : At1 G y27 y28 q28) (z8 : At1 G y28 y29 q29) (z9 : At1 G y29 y30 q30) (z10 : At1 G y30 y31 q31) : Frs G h UM (mdU q21 q22 q23 q24 q25 q26 q27 q28 q29 q30 q31) ∧ ∀ i, UM i → y31 (mdU q21 q22 q23 q24 q25 q26 q27 q28 q29 q30 q31 i) ≠ none := by
  obtain ⟨T, hT⟩ : ∃ T : Nat → Hp, T = fun k => match k with
    | 0 => h | 1 => y21 | 2 => y22 | 3 => y23 | 4 => y24 | 5 => y25 | 6 => y26 | 7 => y27 | 8 => y28 | 9 => y29 | 10 => y30 | _ => y31 := ⟨_, rfl⟩
  have t0 : T 0 = h := by rw [hT]; rfl
  have t1 : T 1 = y21 := by rw [hT]; rfl
  have t2 : T 2 = y22 := by rw [hT]; rfl
  have t3 : T 3 = y23 := by rw [hT]; rfl
  have t4 : T 4 = y24 := by rw [hT]; rfl
  have t5 : T 5 = y25 := by rw [hT]; rfl
  have t6 : T 6 = y26 := by rw [hT]; rfl
  have t7 : T 7 = y27 := by rw [hT]; rfl
  have t8 : T 8 = y28 := by rw [hT]; rfl
  have t9 : T 9 = y29 := by rw [hT]; rfl
  have t10 : T 10 = y30 := by rw [hT]; rfl
  have tG : ∀ n, T (n + 11) = y31 := fun n => by rw [hT]; rfl
  have mono : ∀ k x, T k x ≠ none → T (k + 1) x ≠ none := by
    intro k x hx
    rcases (show k = 0 ∨ k = 1 ∨ k = 2 ∨ k = 3 ∨ k = 4 ∨ k = 5 ∨ k = 6 ∨ k = 7 ∨ k = 8 ∨ k = 9 ∨ k = 10 ∨ 11 ≤ k by omega) with rfl | rfl | rfl | rfl | rfl | rfl | rfl | rfl | rfl | rfl | rfl | hk
    · rw [t0] at hx; rw [t1]; exact m0 x hx
    · rw [t1] at hx; rw [t2]; exact m1 x hx
    · rw [t2] at hx; rw [t3]; exact m2 x hx
    · rw [t3] at hx; rw [t4]; exact m3 x hx
    · rw [t4] at hx; rw [t5]; exact m4 x hx
    · rw [t5] at hx; rw [t6]; exact m5 x hx
    · rw [t6] at hx; rw [t7]; exact m6 x hx
    · rw [t7] at hx; rw [t8]; exact m7 x hx
    · rw [t8] at hx; rw [t9]; exact m8 x hx
    · rw [t9] at hx; rw [t10]; exact m9 x hx
    · rw [t10] at hx; rw [show 10 + 1 = 0 + 11 from rfl, tG]; exact m10 x hx
    · rw [show k + 1 = (k + 1 - 11) + 11 by omega, tG]
      rw [show k = (k - 11) + 11 by omega, tG] at hx
      exact hx
  have up : ∀ d k x, T k x ≠ none → T (k + d) x ≠ none := by
    intro d
    induction d with
    | zero => exact fun k x hx => hx
    | succ d ih => exact fun k x hx => mono (k + d) x (ih k x hx)
  have dn0 : ∀ k x, T k x = none → h x = none := fun k x hx => by
    cases hh : h x with
    | none => rfl
    | some y =>
      have := up k 0 x (by rw [t0, hh]; simp)
      rw [Nat.zero_add] at this
      exact absurd hx this
  have cs : ∀ i, UM i → i = 21 ∨ i = 22 ∨ i = 23 ∨ i = 24 ∨ i = 25 ∨ i = 26 ∨ i = 27 ∨ i = 28 ∨ i = 29 ∨ i = 30 ∨ i = 31 := fun i hi => by unfold UM at hi; omega
  have key : ∀ i, UM i → T (i - 21) (mdU q21 q22 q23 q24 q25 q26 q27 q28 q29 q30 q31 i) = none ∧ G.2.2.1 (mdU q21 q22 q23 q24 q25 q26 q27 q28 q29 q30 q31 i) ∧ T (i - 21 + 1) (mdU q21 q22 q23 q24 q25 q26 q27 q28 q29 q30 q31 i) ≠ none := by
    intro i hi
    rcases cs i hi with rfl | rfl | rfl | rfl | rfl | rfl | rfl | rfl | rfl | rfl | rfl
    · show T 0 q21 = none ∧ G.2.2.1 q21 ∧ T 1 q21 ≠ none
      rw [t0, t1]; exact z0
    · show T 1 q22 = none ∧ G.2.2.1 q22 ∧ T 2 q22 ≠ none
      rw [t1, t2]; exact z1
    · show T 2 q23 = none ∧ G.2.2.1 q23 ∧ T 3 q23 ≠ none
      rw [t2, t3]; exact z2
    · show T 3 q24 = none ∧ G.2.2.1 q24 ∧ T 4 q24 ≠ none
      rw [t3, t4]; exact z3
    · show T 4 q25 = none ∧ G.2.2.1 q25 ∧ T 5 q25 ≠ none
      rw [t4, t5]; exact z4
    · show T 5 q26 = none ∧ G.2.2.1 q26 ∧ T 6 q26 ≠ none
      rw [t5, t6]; exact z5
    · show T 6 q27 = none ∧ G.2.2.1 q27 ∧ T 7 q27 ≠ none
      rw [t6, t7]; exact z6
    · show T 7 q28 = none ∧ G.2.2.1 q28 ∧ T 8 q28 ≠ none
      rw [t7, t8]; exact z7
    · show T 8 q29 = none ∧ G.2.2.1 q29 ∧ T 9 q29 ≠ none
      rw [t8, t9]; exact z8
    · show T 9 q30 = none ∧ G.2.2.1 q30 ∧ T 10 q30 ≠ none
      rw [t9, t10]; exact z9
    · show T 10 q31 = none ∧ G.2.2.1 q31 ∧ T 11 q31 ≠ none
      rw [t10, show 11 = 0 + 11 from rfl, tG]; exact z10
  refine ⟨⟨st_inj (st := fun i => i - 21) mono (fun i hi => (key i hi).1) (fun i hi => (key i hi).2.2) (fun i j hi hj es _ => ?_), fun i hi => ⟨dn0 _ _ (key i hi).1, (key i hi).2.1⟩⟩, fun i hi => ?_⟩
  · have e : i - 21 = j - 21 := es
    unfold UM at hi hj
    omega
  · have := up (11 - (i - 21 + 1)) (i - 21 + 1) _ (key i hi).2.2
    have hs : i - 21 ≤ 10 := by unfold UM at hi; omega
    rw [show i - 21 + 1 + (11 - (i - 21 + 1)) = 0 + 11 by omega, tG] at this
    exact this
set_option maxRecDepth 100000 in
set_option maxHeartbeats 1000000 in
theorem ct_iModel {l : Launch} {G : Gl} {h : Hp} {a : Nat} (ha : h a = some (.inr (11, [.null, .null, .null, .null, .int 0, .int 0, .null, .null, .null, .int 0, .int 0, .null, .int 0, .int 0, .int 0, .int 0, .int 0, .null, .int 0, .int 0, .int 0, .int 0, .null, .null]))) (hA : G.2.2.1 a) : Ct l G mX12_init 1 (11) (2938) [.ref a] h (fun w h' => w = none ∧ ∃ u, Frs G h UM u ∧ (∀ i, UM i → h' (u i) ≠ none) ∧ h' a = some (.inr (11, [.ref (u 21), .ref (u 22), .ref (u 23), .ref (u 24), .int 0, .int 0, .ref (u 25), .ref (u 26), .ref (u 27), .int 0, .int (-1), .ref (u 28), .int 0, .int 0, .int 0, .int 0, .int 0, .ref (u 29), .int 0, .int 0, .int 0, .int 0, .ref (u 30), .ref (u 31)])) ∧ MdC G h' u ∧ Gr a h h') := by
  have nna := some_nn ha
  have G0 := Gr.rf nna
  refine Ct.of (L := [(0, _)]) (by decide) (ble rfl) rfl ?_
  first | refine x_aload_n 0 dX12_init_0 rfl rfl ?_ | refine x_aload_nN 0 dX12_init_0 rfl rfl ?_
  refine x_objInit rfl wX12_3 wObj2 wObj3 dX12_init_1 (ble rfl) (ble rfl) ?_
  first | refine x_aload_n 0 dX12_init_4 rfl rfl ?_ | refine x_aload_nN 0 dX12_init_4 rfl rfl ?_
  refine x_sipush (v := 228) dX12_init_5 rfl ?_
  refine x_newa (ty := .int) 0 228 rfl rfl (List.mem_append_right _ (List.mem_of_getElem? (i := 77) (by decide +kernel))) rfl rfl rfl (by intro C0 hh; cases hh) (by decide) (by decide) dX12_init_8 (fun q21 zq21 gq21 => ?_)
  have na21 : a ≠ q21 := none_ne G0.2 zq21
  refine x_putF fX12_9 rfl rfl rfl rfl rfl rfl dX12_init_10 (by with_reducible repeat first | assumption | exact hset_s | refine hget_n (by first | assumption | exact Ne.symm (by assumption)) ?_) (by exact ble rfl) (by first | assumption | exact aA (by assumption) (by omega)) ?_
  refine x_gen (fun y21 ey21 => ?_)
  obtain ⟨G21, k21, v21, m21, c21⟩ := stageA G0 zq21 ey21
  first | refine x_aload_n 0 dX12_init_13 rfl rfl ?_ | refine x_aload_nN 0 dX12_init_13 rfl rfl ?_
  refine x_sipush (v := 228) dX12_init_14 rfl ?_
  refine x_newa (ty := .int) 0 228 rfl rfl (List.mem_append_right _ (List.mem_of_getElem? (i := 77) (by decide +kernel))) rfl rfl rfl (by intro C0 hh; cases hh) (by decide) (by decide) dX12_init_17 (fun q22 zq22 gq22 => ?_)
  have na22 : a ≠ q22 := none_ne G21.2 zq22
  refine x_putF fX12_13 rfl rfl rfl rfl rfl rfl dX12_init_19 (by with_reducible repeat first | assumption | exact hset_s | refine hget_n (by first | assumption | exact Ne.symm (by assumption)) ?_) (by exact ble rfl) (by first | assumption | exact aA (by assumption) (by omega)) ?_
  refine x_gen (fun y22 ey22 => ?_)
  obtain ⟨G22, k22, v22, m22, c22⟩ := stageA G21 zq22 ey22
  first | refine x_aload_n 0 dX12_init_22 rfl rfl ?_ | refine x_aload_nN 0 dX12_init_22 rfl rfl ?_
  refine x_sipush (v := 228) dX12_init_23 rfl ?_
  refine x_newa (ty := .int) 0 228 rfl rfl (List.mem_append_right _ (List.mem_of_getElem? (i := 77) (by decide +kernel))) rfl rfl rfl (by intro C0 hh; cases hh) (by decide) (by decide) dX12_init_26 (fun q23 zq23 gq23 => ?_)
  have na23 : a ≠ q23 := none_ne G22.2 zq23
  refine x_putF fX12_16 rfl rfl rfl rfl rfl rfl dX12_init_28 (by with_reducible repeat first | assumption | exact hset_s | refine hget_n (by first | assumption | exact Ne.symm (by assumption)) ?_) (by exact ble rfl) (by first | assumption | exact aA (by assumption) (by omega)) ?_
  refine x_gen (fun y23 ey23 => ?_)
  obtain ⟨G23, k23, v23, m23, c23⟩ := stageA G22 zq23 ey23
  first | refine x_aload_n 0 dX12_init_31 rfl rfl ?_ | refine x_aload_nN 0 dX12_init_31 rfl rfl ?_
  refine x_sipush (v := 1824) dX12_init_32 rfl ?_
  refine x_newa (ty := .int) 0 1824 rfl rfl (List.mem_append_right _ (List.mem_of_getElem? (i := 77) (by decide +kernel))) rfl rfl rfl (by intro C0 hh; cases hh) (by decide) (by decide) dX12_init_35 (fun q24 zq24 gq24 => ?_)
  have na24 : a ≠ q24 := none_ne G23.2 zq24
  refine x_putF fX12_19 rfl rfl rfl rfl rfl rfl dX12_init_37 (by with_reducible repeat first | assumption | exact hset_s | refine hget_n (by first | assumption | exact Ne.symm (by assumption)) ?_) (by exact ble rfl) (by first | assumption | exact aA (by assumption) (by omega)) ?_
  refine x_gen (fun y24 ey24 => ?_)
  obtain ⟨G24, k24, v24, m24, c24⟩ := stageA G23 zq24 ey24
  first | refine x_aload_n 0 dX12_init_40 rfl rfl ?_ | refine x_aload_nN 0 dX12_init_40 rfl rfl ?_
  refine x_iconst (v := 3) dX12_init_41 rfl ?_
  refine x_newa (ty := .int) 0 3 rfl rfl (List.mem_append_right _ (List.mem_of_getElem? (i := 77) (by decide +kernel))) rfl rfl rfl (by intro C0 hh; cases hh) (by decide) (by decide) dX12_init_42 (fun q25 zq25 gq25 => ?_)
  have na25 : a ≠ q25 := none_ne G24.2 zq25
  refine x_putF fX12_22 rfl rfl rfl rfl rfl rfl dX12_init_44 (by with_reducible repeat first | assumption | exact hset_s | refine hget_n (by first | assumption | exact Ne.symm (by assumption)) ?_) (by exact ble rfl) (by first | assumption | exact aA (by assumption) (by omega)) ?_
  refine x_gen (fun y25 ey25 => ?_)
  obtain ⟨G25, k25, v25, m25, c25⟩ := stageA G24 zq25 ey25
  first | refine x_aload_n 0 dX12_init_47 rfl rfl ?_ | refine x_aload_nN 0 dX12_init_47 rfl rfl ?_
  refine x_iconst (v := 3) dX12_init_48 rfl ?_
  refine x_newa (ty := .int) 0 3 rfl rfl (List.mem_append_right _ (List.mem_of_getElem? (i := 77) (by decide +kernel))) rfl rfl rfl (by intro C0 hh; cases hh) (by decide) (by decide) dX12_init_49 (fun q26 zq26 gq26 => ?_)
  have na26 : a ≠ q26 := none_ne G25.2 zq26
  refine x_putF fX12_25 rfl rfl rfl rfl rfl rfl dX12_init_51 (by with_reducible repeat first | assumption | exact hset_s | refine hget_n (by first | assumption | exact Ne.symm (by assumption)) ?_) (by exact ble rfl) (by first | assumption | exact aA (by assumption) (by omega)) ?_
  refine x_gen (fun y26 ey26 => ?_)
  obtain ⟨G26, k26, v26, m26, c26⟩ := stageA G25 zq26 ey26
  first | refine x_aload_n 0 dX12_init_54 rfl rfl ?_ | refine x_aload_nN 0 dX12_init_54 rfl rfl ?_
  refine x_bipush (v := 60) dX12_init_55 rfl ?_
  refine x_newa (ty := .int) 0 60 rfl rfl (List.mem_append_right _ (List.mem_of_getElem? (i := 77) (by decide +kernel))) rfl rfl rfl (by intro C0 hh; cases hh) (by decide) (by decide) dX12_init_57 (fun q27 zq27 gq27 => ?_)
  have na27 : a ≠ q27 := none_ne G26.2 zq27
  refine x_putF fX12_28 rfl rfl rfl rfl rfl rfl dX12_init_59 (by with_reducible repeat first | assumption | exact hset_s | refine hget_n (by first | assumption | exact Ne.symm (by assumption)) ?_) (by exact ble rfl) (by first | assumption | exact aA (by assumption) (by omega)) ?_
  first | refine x_aload_n 0 dX12_init_62 rfl rfl ?_ | refine x_aload_nN 0 dX12_init_62 rfl rfl ?_
  refine x_iconst (v := -1) dX12_init_63 rfl ?_
  refine x_putS fX12_31 rfl rfl rfl rfl dX12_init_64 (by exact ble rfl) (by first | assumption | exact aA (by assumption) (by omega)) ?_
  refine x_gen (fun y27 ey27 => ?_)
  obtain ⟨G27, k27, v27, m27, c27⟩ := stageA G26 zq27 ey27
  first | refine x_aload_n 0 dX12_init_67 rfl rfl ?_ | refine x_aload_nN 0 dX12_init_67 rfl rfl ?_
  refine x_bipush (v := 60) dX12_init_68 rfl ?_
  refine x_newa (ty := .int) 0 60 rfl rfl (List.mem_append_right _ (List.mem_of_getElem? (i := 77) (by decide +kernel))) rfl rfl rfl (by intro C0 hh; cases hh) (by decide) (by decide) dX12_init_70 (fun q28 zq28 gq28 => ?_)
  have na28 : a ≠ q28 := none_ne G27.2 zq28
  refine x_putF fX12_35 rfl rfl rfl rfl rfl rfl dX12_init_72 (by with_reducible repeat first | assumption | exact hset_s | refine hget_n (by first | assumption | exact Ne.symm (by assumption)) ?_) (by exact ble rfl) (by first | assumption | exact aA (by assumption) (by omega)) ?_
  refine x_gen (fun y28 ey28 => ?_)
  obtain ⟨G28, k28, v28, m28, c28⟩ := stageA G27 zq28 ey28
  first | refine x_aload_n 0 dX12_init_75 rfl rfl ?_ | refine x_aload_nN 0 dX12_init_75 rfl rfl ?_
  refine x_sipush (v := 256) dX12_init_76 rfl ?_
  refine x_newa (ty := .boolean) 1 256 rfl rfl (List.mem_append_right _ (List.mem_of_getElem? (i := 1328) (by decide +kernel))) rfl rfl rfl (by intro C0 hh; cases hh) (by decide) (by decide) dX12_init_79 (fun q29 zq29 gq29 => ?_)
  have na29 : a ≠ q29 := none_ne G28.2 zq29
  refine x_putF fX12_38 rfl rfl rfl rfl rfl rfl dX12_init_81 (by with_reducible repeat first | assumption | exact hset_s | refine hget_n (by first | assumption | exact Ne.symm (by assumption)) ?_) (by exact ble rfl) (by first | assumption | exact aA (by assumption) (by omega)) ?_
  refine x_gen (fun y29 ey29 => ?_)
  obtain ⟨G29, k29, v29, m29, c29⟩ := stageA G28 zq29 ey29
  first | refine x_aload_n 0 dX12_init_84 rfl rfl ?_ | refine x_aload_nN 0 dX12_init_84 rfl rfl ?_
  refine x_bipush (v := 16) dX12_init_85 rfl ?_
  refine x_newa (ty := .int) 0 16 rfl rfl (List.mem_append_right _ (List.mem_of_getElem? (i := 77) (by decide +kernel))) rfl rfl rfl (by intro C0 hh; cases hh) (by decide) (by decide) dX12_init_87 (fun q30 zq30 gq30 => ?_)
  have na30 : a ≠ q30 := none_ne G29.2 zq30
  refine x_putF fX12_42 rfl rfl rfl rfl rfl rfl dX12_init_89 (by with_reducible repeat first | assumption | exact hset_s | refine hget_n (by first | assumption | exact Ne.symm (by assumption)) ?_) (by exact ble rfl) (by first | assumption | exact aA (by assumption) (by omega)) ?_
  refine x_gen (fun y30 ey30 => ?_)
  obtain ⟨G30, k30, v30, m30, c30⟩ := stageA G29 zq30 ey30
  first | refine x_aload_n 0 dX12_init_92 rfl rfl ?_ | refine x_aload_nN 0 dX12_init_92 rfl rfl ?_
  refine x_bipush (v := 32) dX12_init_93 rfl ?_
  refine x_newa (ty := .int) 0 32 rfl rfl (List.mem_append_right _ (List.mem_of_getElem? (i := 77) (by decide +kernel))) rfl rfl rfl (by intro C0 hh; cases hh) (by decide) (by decide) dX12_init_95 (fun q31 zq31 gq31 => ?_)
  have na31 : a ≠ q31 := none_ne G30.2 zq31
  refine x_putF fX12_45 rfl rfl rfl rfl rfl rfl dX12_init_97 (by with_reducible repeat first | assumption | exact hset_s | refine hget_n (by first | assumption | exact Ne.symm (by assumption)) ?_) (by exact ble rfl) (by first | assumption | exact aA (by assumption) (by omega)) ?_
  refine x_gen (fun y31 ey31 => ?_)
  obtain ⟨G31, k31, v31, m31, c31⟩ := stageA G30 zq31 ey31
  have R30 := k31
  have R29 := k30.t R30
  have R28 := k29.t R29
  have R27 := k28.t R28
  have R26 := k27.t R27
  have R25 := k26.t R26
  have R24 := k25.t R25
  have R23 := k24.t R24
  have R22 := k23.t R23
  have R21 := k22.t R22
  have w21 := R21 _ _ v21 (Ne.symm na21)
  have w22 := R22 _ _ v22 (Ne.symm na22)
  have w23 := R23 _ _ v23 (Ne.symm na23)
  have w24 := R24 _ _ v24 (Ne.symm na24)
  have w25 := R25 _ _ v25 (Ne.symm na25)
  have w26 := R26 _ _ v26 (Ne.symm na26)
  have w27 := R27 _ _ v27 (Ne.symm na27)
  have w28 := R28 _ _ v28 (Ne.symm na28)
  have w29 := R29 _ _ v29 (Ne.symm na29)
  have w30 := R30 _ _ v30 (Ne.symm na30)
  have w31 := v31
  first | refine x_aload_n 0 dX12_init_100 rfl rfl ?_ | refine x_aload_nN 0 dX12_init_100 rfl rfl ?_
  refine x_get fX12_9 rfl dX12_init_101 (by with_reducible repeat first | assumption | exact hset_s | refine hget_n (by first | assumption | exact Ne.symm (by assumption)) ?_) (by rfl) ?_
  refine x_iconst (v := 0) dX12_init_104 rfl ?_
  refine x_bipush (v := 30) dX12_init_105 rfl ?_
  refine x_iast dX12_init_107 (by with_reducible repeat first | assumption | exact hset_s | refine hget_n (by first | assumption | exact Ne.symm (by assumption)) ?_) (by unfold vp_in; decide) (by first | assumption | exact aA (by assumption) (by omega)) ?_
  first | refine x_aload_n 0 dX12_init_108 rfl rfl ?_ | refine x_aload_nN 0 dX12_init_108 rfl rfl ?_
  refine x_get fX12_9 rfl dX12_init_109 (by with_reducible repeat first | assumption | exact hset_s | refine hget_n (by first | assumption | exact Ne.symm (by assumption)) ?_) (by rfl) ?_
  refine x_iconst (v := 1) dX12_init_112 rfl ?_
  refine x_bipush (v := 20) dX12_init_113 rfl ?_
  refine x_iast dX12_init_115 (by with_reducible repeat first | assumption | exact hset_s | refine hget_n (by first | assumption | exact Ne.symm (by assumption)) ?_) (by unfold vp_in; decide) (by first | assumption | exact aA (by assumption) (by omega)) ?_
  first | refine x_aload_n 0 dX12_init_116 rfl rfl ?_ | refine x_aload_nN 0 dX12_init_116 rfl rfl ?_
  refine x_get fX12_9 rfl dX12_init_117 (by with_reducible repeat first | assumption | exact hset_s | refine hget_n (by first | assumption | exact Ne.symm (by assumption)) ?_) (by rfl) ?_
  refine x_bipush (v := 11) dX12_init_120 rfl ?_
  refine x_bipush (v := 20) dX12_init_122 rfl ?_
  refine x_iast dX12_init_124 (by with_reducible repeat first | assumption | exact hset_s | refine hget_n (by first | assumption | exact Ne.symm (by assumption)) ?_) (by unfold vp_in; decide) (by first | assumption | exact aA (by assumption) (by omega)) ?_
  refine x_gen (fun yy eyy => ?_)
  refine x_vret rfl dX12_init_125 ?_
  have MF := md_fin (h := h) (y31 := yy) m21 m22 m23 m24 m25 m26 m27 m28 m29 m30 (fun x hx => by rw [eyy]; exact hset_nn (hset_nn (hset_nn (m31 x hx)))) ⟨zq21, gq21, some_nn v21⟩ ⟨zq22, gq22, some_nn v22⟩ ⟨zq23, gq23, some_nn v23⟩ ⟨zq24, gq24, some_nn v24⟩ ⟨zq25, gq25, some_nn v25⟩ ⟨zq26, gq26, some_nn v26⟩ ⟨zq27, gq27, some_nn v27⟩ ⟨zq28, gq28, some_nn v28⟩ ⟨zq29, gq29, some_nn v29⟩ ⟨zq30, gq30, some_nn v30⟩ ⟨zq31, gq31, by rw [eyy]; exact hset_nn (hset_nn (hset_nn (some_nn v31)))⟩
  obtain ⟨u, hu⟩ : ∃ u, u = mdU q21 q22 q23 q24 q25 q26 q27 q28 q29 q30 q31 := ⟨_, rfl⟩
  rw [← hu] at MF
  obtain ⟨fr, dm⟩ := MF
  have e21 : u 21 = q21 := by rw [hu]; rfl
  have e22 : u 22 = q22 := by rw [hu]; rfl
  have e23 : u 23 = q23 := by rw [hu]; rfl
  have e24 : u 24 = q24 := by rw [hu]; rfl
  have e25 : u 25 = q25 := by rw [hu]; rfl
  have e26 : u 26 = q26 := by rw [hu]; rfl
  have e27 : u 27 = q27 := by rw [hu]; rfl
  have e28 : u 28 = q28 := by rw [hu]; rfl
  have e29 : u 29 = q29 := by rw [hu]; rfl
  have e30 : u 30 = q30 := by rw [hu]; rfl
  have e31 : u 31 = q31 := by rw [hu]; rfl
  have inj : ∀ i j, UM i → UM j → i ≠ j → u i ≠ u j := fun i j hi hj n e => n (fr.1 i j hi hj e)
  have iM : ∀ i, 21 ≤ i → i < 32 → UM i := fun i h1 h2 => ⟨h1, h2⟩
  have p22 : q22 ≠ q21 := by have := inj 22 21 (iM _ (by omega) (by omega)) (iM _ (by omega) (by omega)) (by omega); rw [e22, e21] at this; exact this
  have p23 : q23 ≠ q21 := by have := inj 23 21 (iM _ (by omega) (by omega)) (iM _ (by omega) (by omega)) (by omega); rw [e23, e21] at this; exact this
  have p24 : q24 ≠ q21 := by have := inj 24 21 (iM _ (by omega) (by omega)) (iM _ (by omega) (by omega)) (by omega); rw [e24, e21] at this; exact this
  have p25 : q25 ≠ q21 := by have := inj 25 21 (iM _ (by omega) (by omega)) (iM _ (by omega) (by omega)) (by omega); rw [e25, e21] at this; exact this
  have p26 : q26 ≠ q21 := by have := inj 26 21 (iM _ (by omega) (by omega)) (iM _ (by omega) (by omega)) (by omega); rw [e26, e21] at this; exact this
  have p27 : q27 ≠ q21 := by have := inj 27 21 (iM _ (by omega) (by omega)) (iM _ (by omega) (by omega)) (by omega); rw [e27, e21] at this; exact this
  have p28 : q28 ≠ q21 := by have := inj 28 21 (iM _ (by omega) (by omega)) (iM _ (by omega) (by omega)) (by omega); rw [e28, e21] at this; exact this
  have p29 : q29 ≠ q21 := by have := inj 29 21 (iM _ (by omega) (by omega)) (iM _ (by omega) (by omega)) (by omega); rw [e29, e21] at this; exact this
  have p30 : q30 ≠ q21 := by have := inj 30 21 (iM _ (by omega) (by omega)) (iM _ (by omega) (by omega)) (by omega); rw [e30, e21] at this; exact this
  have p31 : q31 ≠ q21 := by have := inj 31 21 (iM _ (by omega) (by omega)) (iM _ (by omega) (by omega)) (by omega); rw [e31, e21] at this; exact this
  have gy : Gr a h yy := by rw [eyy]; exact ((G31.pw zq21 na21).pw zq21 na21).pw zq21 na21
  refine ⟨rfl, u, fr, dm, ?_, ⟨?_, ?_, ?_, ?_, ?_, ?_, ?_, ?_, ?_, ?_, ?_⟩, gy⟩
  · rw [e21, e22, e23, e24, e25, e26, e27, e28, e29, e30, e31, eyy, hset_n na21, hset_n na21, hset_n na21]; exact c31
  · rw [e21, eyy, hset_s]
    refine congrArg (fun z => some (eI G 228 z)) ?_
    funext q
    unfold clN zfN
    rw [show (fun q => if q < 228 then (0 : Int32) else (fun _ => 0) q) = (fun _ => (0 : Int32)) by funext q; exact ite_self _]
    rfl
  · rw [e22, eyy, hset_n p22, hset_n p22, hset_n p22]; exact w22
  · rw [e23, eyy, hset_n p23, hset_n p23, hset_n p23]; exact w23
  · rw [e24, eyy, hset_n p24, hset_n p24, hset_n p24]; exact w24
  · rw [e25, eyy, hset_n p25, hset_n p25, hset_n p25]; exact w25
  · rw [e26, eyy, hset_n p26, hset_n p26, hset_n p26]; exact w26
  · rw [e27, eyy, hset_n p27, hset_n p27, hset_n p27]; exact w27
  · rw [e28, eyy, hset_n p28, hset_n p28, hset_n p28]; exact w28
  · rw [e29, eyy, hset_n p29, hset_n p29, hset_n p29]; exact w29
  · rw [e30, eyy, hset_n p30, hset_n p30, hset_n p30]; exact w30
  · rw [e31, eyy, hset_n p31, hset_n p31, hset_n p31]; exact w31
