/-- what stands in the heap of a new street, by its names -/
def StC (G : Gl) (h : Hp) (u : Nat → Nat) : Prop := h (u 1) = some (.inr (9, [.ref (u 1000), .ref (u 2)])) ∧ ShB G (u 1000) h (fun i => u (1000 + i)) 12 16 8 ∧ h (u 2) = some (.inr (5, [.ref (u 3), .ref (u 4), .int 0])) ∧ h (u 3) = some (eI G 3 (fun _ => 0)) ∧ h (u 4) = some (eI G 3 (fun _ => 0)) ∧ ShB G (u 1100) h (fun i => u (1100 + i)) 12 16 8 ∧ h (u 5) = some (.inr (2, [.ref (u 6), .int 0, .int 0])) ∧ (∃ f, h (u 6) = some (eR G 6 9 f) ∧ ∀ x, x < 9 → f x = some (u (100 * (x + 1)))) ∧ (∀ x, x < 9 → ShB G (u (100 * (x + 1))) h (fun i => u (100 * (x + 1) + i)) 12 16 8) ∧ h (u 7) = some (.inr (1, [.ref (u 8), .int 0])) ∧ h (u 8) = some (eI G 16 (fun _ => 0)) ∧ h (u 9) = some (.inr (6, [.ref (u 10), .ref (u 11), .ref (u 12), .ref (u 13), .int 0, .int 0])) ∧ h (u 10) = some (.inr (0, [.ref (u 15), .int 0, .int 0, .int 0])) ∧ h (u 15) = some (eB G 16 (fun _ => 0)) ∧ h (u 11) = some (eR G 7 10 (fun _ => none)) ∧ h (u 12) = some (eI G 10 (fun _ => 0)) ∧ h (u 13) = some (eI G 10 (fun _ => 0)) ∧ h (u 14) = some (.inr (0, [.ref (u 16), .int 0, .int 0, .int 0])) ∧ h (u 16) = some (eB G 16 (fun _ => 0))
section CALC98
variable {l : Launch} {G : Gl} {M : MM} {rm : Room} {K : List Frame → Array Value → State → State → Prop} {mc ms pc : Nat} {L : List (Nat × Value)} {st : List Value} {h : Hp}
theorem x_gen (k : ∀ h2, h2 = h → XX l G M rm K mc ms pc L st h2) : XX l G M rm K mc ms pc L st h := k h rfl
end CALC98
theorem stage {a q : Nat} {h hk h1 hz : Hp} {e e' : va_E} (Gk : Gr a h hk) (zq : hk q = none) (G1 : Gr q (hset hk q e) h1) (ez : hz = hset h1 a e') : Gr a h hz ∧ Fr (fun x => x = a) hk hz ∧ Fr (fun x => x = a) h1 hz ∧ (∀ x, hk x ≠ none → hset hk q e x ≠ none) ∧ (∀ x, hset hk q e x ≠ none → hz x ≠ none) ∧ ∀ x, h1 x ≠ none → hz x ≠ none := by
  subst ez
  have naq : a ≠ q := none_ne Gk.2 zq
  refine ⟨((Gk.new zq).sub G1 (Gk.non zq) naq).put, fun y x hy ny => ?_, Fr.rf.st rfl, fun x hx => hset_nn hx, fun x hx => hset_nn (G1.dom hx), fun x hx => hset_nn hx⟩
  have nyq : y ≠ q := none_ne (some_nn hy) zq
  rw [hset_n ny]
  exact G1.1 y x (by rw [hset_n nyq]; exact hy) nyq
theorem Fr.t {P : Nat → Prop} {h h' h2 : Hp} (F : Fr P h h') (F2 : Fr P h' h2) : Fr P h h2 := F.tr F2 (fun _ z => z) (fun _ z => z)
set_option maxRecDepth 100000 in
set_option maxHeartbeats 1000000 in
theorem ct_iStreet {l : Launch} {G : Gl} {h : Hp} {a : Nat} (ha : h a = some (.inr (10, [.null, .null, .null, .null, .null, .null, .null, .null, .int 0, .int 0]))) (hA : G.2.2.1 a) : Ct l G mX11_init 5 (467) (3373) [.ref a] h (fun w h' => w = none ∧ ∃ u, Frs G h UC u ∧ (∀ i, UC i → h' (u i) ≠ none) ∧ h' a = some (.inr (10, [.ref (u 1), .ref (u 1000), .ref (u 2), .ref (u 1100), .ref (u 5), .ref (u 7), .ref (u 9), .ref (u 14), .int 0, .int (-4)])) ∧ StC G h' u ∧ Gr a h h') := by
  have nna := some_nn ha
  have Gh0 := Gr.rf nna
  refine Ct.of (L := [(0, _)]) (by decide) (ble rfl) rfl ?_
  first | refine x_aload_n 0 dX11_init_0 rfl rfl ?_ | refine x_aload_nN 0 dX11_init_0 rfl rfl ?_
  refine x_objInit rfl wX11_1 wObj2 wObj3 dX11_init_1 (ble rfl) (ble rfl) ?_
  first | refine x_aload_n 0 dX11_init_4 rfl rfl ?_ | refine x_aload_nN 0 dX11_init_4 rfl rfl ?_
  refine x_new (ci := 9) (fs := [.null, .null]) tyX9 inX9 tyX9_ok rfl rfl (List.mem_append_right _ (List.mem_of_getElem? (i := 26) (by decide +kernel))) (List.mem_append_right _ (List.mem_of_getElem? (i := 27) (by decide +kernel))) (List.mem_append_right _ (List.mem_of_getElem? (i := 2) (by decide +kernel))) (by intro j hj; rcases (show j = 0 ∨ j = 1 by omega) with rfl | rfl <;> rfl) dX11_init_5 (fun q1 zq1 gq1 => ?_)
  have naq1 : a ≠ q1 := none_ne Gh0.2 zq1
  refine x_dup dX11_init_8 rfl ?_
  refine x_callIN (mc1 := 422) (ms1 := 3066) (As := []) (ct_iSmith hset_s gq1) vX11_9 rfl rfl ⟨ble rfl, ble rfl⟩ (ble rfl) dX11_init_9 rfl ⟨by omega, by omega⟩ (fun w h1 c1 => ?_)
  obtain ⟨rfl, u2, f2, d2, k1, kb2, k2, k3, k4, G1⟩ := c1
  have ha1 := G1.1 a _ (hget_n naq1 ha) naq1
  refine x_putF fX11_10 rfl rfl rfl rfl rfl rfl dX11_init_12 (by with_reducible repeat first | assumption | exact hset_s | refine hget_n (by first | assumption | exact Ne.symm (by assumption)) ?_) (by exact ble rfl) (by first | assumption | exact aA (by assumption) (by omega)) ?_
  first | refine x_aload_n 0 dX11_init_15 rfl rfl ?_ | refine x_aload_nN 0 dX11_init_15 rfl rfl ?_
  first | refine x_aload_n 0 dX11_init_16 rfl rfl ?_ | refine x_aload_nN 0 dX11_init_16 rfl rfl ?_
  refine x_get fX11_10 rfl dX11_init_17 (by with_reducible repeat first | assumption | exact hset_s | refine hget_n (by first | assumption | exact Ne.symm (by assumption)) ?_) (by rfl) ?_
  refine x_get fX11_16 rfl dX11_init_20 (by with_reducible repeat first | assumption | exact hset_s | refine hget_n (by first | assumption | exact Ne.symm (by assumption)) ?_) (by rfl) ?_
  refine x_putF fX11_20 rfl rfl rfl rfl rfl rfl dX11_init_23 (by with_reducible repeat first | assumption | exact hset_s | refine hget_n (by first | assumption | exact Ne.symm (by assumption)) ?_) (by exact ble rfl) (by first | assumption | exact aA (by assumption) (by omega)) ?_
  first | refine x_aload_n 0 dX11_init_26 rfl rfl ?_ | refine x_aload_nN 0 dX11_init_26 rfl rfl ?_
  first | refine x_aload_n 0 dX11_init_27 rfl rfl ?_ | refine x_aload_nN 0 dX11_init_27 rfl rfl ?_
  refine x_get fX11_10 rfl dX11_init_28 (by with_reducible repeat first | assumption | exact hset_s | refine hget_n (by first | assumption | exact Ne.symm (by assumption)) ?_) (by rfl) ?_
  refine x_get fX11_21 rfl dX11_init_31 (by with_reducible repeat first | assumption | exact hset_s | refine hget_n (by first | assumption | exact Ne.symm (by assumption)) ?_) (by rfl) ?_
  refine x_putF fX11_25 rfl rfl rfl rfl rfl rfl dX11_init_34 (by with_reducible repeat first | assumption | exact hset_s | refine hget_n (by first | assumption | exact Ne.symm (by assumption)) ?_) (by exact ble rfl) (by first | assumption | exact aA (by assumption) (by omega)) ?_
  refine x_eqH (hset_2.trans hset_2) ?_
  refine x_gen (fun hB ehB => ?_)
  obtain ⟨GhB, khB, fhB, mhBa, mhBb, mhBc⟩ := stage Gh0 zq1 G1 ehB
  have hBa := (congrFun ehB a).trans hset_s
  first | refine x_aload_n 0 dX11_init_37 rfl rfl ?_ | refine x_aload_nN 0 dX11_init_37 rfl rfl ?_
  refine x_new (ci := 8) (fs := [.null, .null, .null, .null, .int 0, .int 0, .int 0, .int 0, .int 0, .int 0, .int 0, .int 0]) tyX8 inX8 tyX8_ok rfl rfl (List.mem_append_right _ (List.mem_of_getElem? (i := 223) (by decide +kernel))) (List.mem_append_right _ (List.mem_of_getElem? (i := 33) (by decide +kernel))) (List.mem_append_right _ (List.mem_of_getElem? (i := 3) (by decide +kernel))) (by intro j hj; rcases (show j = 0 ∨ j = 1 ∨ j = 2 ∨ j = 3 ∨ j = 4 ∨ j = 5 ∨ j = 6 ∨ j = 7 ∨ j = 8 ∨ j = 9 ∨ j = 10 ∨ j = 11 by omega) with rfl | rfl | rfl | rfl | rfl | rfl | rfl | rfl | rfl | rfl | rfl | rfl <;> rfl) dX11_init_38 (fun qs zqs gqs => ?_)
  have naqs : a ≠ qs := none_ne GhB.2 zqs
  refine x_dup dX11_init_41 rfl ?_
  refine x_callI (mc1 := 381) (ms1 := 2770) (As := []) (ct_iShop hset_s gqs) vX11_28 rfl rfl ⟨ble rfl, ble rfl⟩ (ble rfl) dX11_init_42 rfl ⟨by omega, by omega⟩ (fun w h2 c2 => ?_)
  obtain ⟨rfl, nms, S⟩ := c2
  obtain ⟨fv, dv, sbv⟩ := S.all zqs gqs
  have ha2 := S.gr.1 a _ (hget_n naqs hBa) naqs
  refine x_putF fX11_29 rfl rfl rfl rfl rfl rfl dX11_init_45 (by with_reducible repeat first | assumption | exact hset_s | refine hget_n (by first | assumption | exact Ne.symm (by assumption)) ?_) (by exact ble rfl) (by first | assumption | exact aA (by assumption) (by omega)) ?_
  refine x_gen (fun hC ehC => ?_)
  obtain ⟨GhC, khC, fhC, mhCa, mhCb, mhCc⟩ := stage GhB zqs S.gr ehC
  have hCa := (congrFun ehC a).trans hset_s
  first | refine x_aload_n 0 dX11_init_48 rfl rfl ?_ | refine x_aload_nN 0 dX11_init_48 rfl rfl ?_
  refine x_new (ci := 2) (fs := [.null, .int 0, .int 0]) tyX1 inX1 tyX1_ok rfl rfl (List.mem_append_right _ (List.mem_of_getElem? (i := 225) (by decide +kernel))) (List.mem_append_right _ (List.mem_of_getElem? (i := 226) (by decide +kernel))) (List.mem_append_right _ (List.mem_of_getElem? (i := 10) (by decide +kernel))) (by intro j hj; rcases (show j = 0 ∨ j = 1 ∨ j = 2 by omega) with rfl | rfl | rfl <;> rfl) dX11_init_49 (fun q5 zq5 gq5 => ?_)
  have naq5 : a ≠ q5 := none_ne GhC.2 zq5
  refine x_dup dX11_init_52 rfl ?_
  refine x_callI (mc1 := 10) (ms1 := 94) (As := []) (ct_iHistory hset_s gq5) vX11_34 rfl rfl ⟨ble rfl, ble rfl⟩ (ble rfl) dX11_init_53 rfl ⟨by omega, by omega⟩ (fun w h3 c3 => ?_)
  obtain ⟨rfl, u6, f6, d6, k5, k6, kS, G3⟩ := c3
  have ha3 := G3.1 a _ (hget_n naq5 hCa) naq5
  refine x_putF fX11_35 rfl rfl rfl rfl rfl rfl dX11_init_56 (by with_reducible repeat first | assumption | exact hset_s | refine hget_n (by first | assumption | exact Ne.symm (by assumption)) ?_) (by exact ble rfl) (by first | assumption | exact aA (by assumption) (by omega)) ?_
  refine x_gen (fun hD ehD => ?_)
  obtain ⟨GhD, khD, fhD, mhDa, mhDb, mhDc⟩ := stage GhC zq5 G3 ehD
  have hDa := (congrFun ehD a).trans hset_s
  first | refine x_aload_n 0 dX11_init_59 rfl rfl ?_ | refine x_aload_nN 0 dX11_init_59 rfl rfl ?_
  refine x_new (ci := 1) (fs := [.null, .int 0]) tyX0 inX0 tyX0_ok rfl rfl (List.mem_append_right _ (List.mem_of_getElem? (i := 244) (by decide +kernel))) (List.mem_append_right _ (List.mem_of_getElem? (i := 245) (by decide +kernel))) (List.mem_append_right _ (List.mem_of_getElem? (i := 11) (by decide +kernel))) (by intro j hj; rcases (show j = 0 ∨ j = 1 by omega) with rfl | rfl <;> rfl) dX11_init_60 (fun q7 zq7 gq7 => ?_)
  have naq7 : a ≠ q7 := none_ne GhD.2 zq7
  refine x_dup dX11_init_63 rfl ?_
  refine x_callIN (mc1 := 8) (ms1 := 76) (As := []) (ct_iChimes hset_s gq7) vX11_41 rfl rfl ⟨ble rfl, ble rfl⟩ (ble rfl) dX11_init_64 rfl ⟨by omega, by omega⟩ (fun w h4 c4 => ?_)
  obtain ⟨rfl, q8, z8, g8, k7, k8, F4⟩ := c4
  have G4 : Gr q7 _ h4 := ⟨F4, some_nn k7⟩
  have ha4 := G4.1 a _ (hget_n naq7 hDa) naq7
  refine x_putF fX11_42 rfl rfl rfl rfl rfl rfl dX11_init_67 (by with_reducible repeat first | assumption | exact hset_s | refine hget_n (by first | assumption | exact Ne.symm (by assumption)) ?_) (by exact ble rfl) (by first | assumption | exact aA (by assumption) (by omega)) ?_
  refine x_gen (fun hE ehE => ?_)
  obtain ⟨GhE, khE, fhE, mhEa, mhEb, mhEc⟩ := stage GhD zq7 G4 ehE
  have hEa := (congrFun ehE a).trans hset_s
  first | refine x_aload_n 0 dX11_init_70 rfl rfl ?_ | refine x_aload_nN 0 dX11_init_70 rfl rfl ?_
  refine x_new (ci := 6) (fs := [.null, .null, .null, .null, .int 0, .int 0]) tyX6 inX6 tyX6_ok rfl rfl (List.mem_append_right _ (List.mem_of_getElem? (i := 257) (by decide +kernel))) (List.mem_append_right _ (List.mem_of_getElem? (i := 258) (by decide +kernel))) (List.mem_append_right _ (List.mem_of_getElem? (i := 12) (by decide +kernel))) (by intro j hj; rcases (show j = 0 ∨ j = 1 ∨ j = 2 ∨ j = 3 ∨ j = 4 ∨ j = 5 by omega) with rfl | rfl | rfl | rfl | rfl | rfl <;> rfl) dX11_init_71 (fun q9 zq9 gq9 => ?_)
  have naq9 : a ≠ q9 := none_ne GhE.2 zq9
  refine x_dup dX11_init_74 rfl ?_
  refine x_callIN (mc1 := 2) (ms1 := 20) (As := []) (ct_iScript hset_s gq9) vX11_48 rfl rfl ⟨ble rfl, ble rfl⟩ (ble rfl) dX11_init_75 rfl ⟨by omega, by omega⟩ (fun w h5 c5 => ?_)
  obtain ⟨rfl, u9, f9, d9, k9, k10, k15, k11, k12, k13, G5⟩ := c5
  have ha5 := G5.1 a _ (hget_n naq9 hEa) naq9
  refine x_putF fX11_49 rfl rfl rfl rfl rfl rfl dX11_init_78 (by with_reducible repeat first | assumption | exact hset_s | refine hget_n (by first | assumption | exact Ne.symm (by assumption)) ?_) (by exact ble rfl) (by first | assumption | exact aA (by assumption) (by omega)) ?_
  refine x_gen (fun hF ehF => ?_)
  obtain ⟨GhF, khF, fhF, mhFa, mhFb, mhFc⟩ := stage GhE zq9 G5 ehF
  have hFa := (congrFun ehF a).trans hset_s
  first | refine x_aload_n 0 dX11_init_81 rfl rfl ?_ | refine x_aload_nN 0 dX11_init_81 rfl rfl ?_
  refine x_new (ci := 0) (fs := [.null, .int 0, .int 0, .int 0]) tyJ4 inJ4 tyJ4_ok rfl rfl (List.mem_append_right _ (List.mem_of_getElem? (i := 315) (by decide +kernel))) (List.mem_append_right _ (List.mem_of_getElem? (i := 264) (by decide +kernel))) (List.mem_append_right _ (List.mem_of_getElem? (i := 14) (by decide +kernel))) (by intro j hj; rcases (show j = 0 ∨ j = 1 ∨ j = 2 ∨ j = 3 by omega) with rfl | rfl | rfl | rfl <;> rfl) dX11_init_82 (fun q14 zq14 gq14 => ?_)
  have naq14 : a ≠ q14 := none_ne GhF.2 zq14
  refine x_dup dX11_init_85 rfl ?_
  refine x_callI (mc1 := 0) (ms1 := 0) (As := []) (ct_iSB hset_s gq14) vX11_55 rfl rfl ⟨ble rfl, ble rfl⟩ (ble rfl) dX11_init_86 rfl ⟨by omega, by omega⟩ (fun w h6 c6 => ?_)
  obtain ⟨rfl, b14, zb, gb, k14, k16, F6⟩ := c6
  have G6 : Gr q14 _ h6 := ⟨F6, some_nn k14⟩
  have ha6 := G6.1 a _ (hget_n naq14 hFa) naq14
  refine x_putF fX11_56 rfl rfl rfl rfl rfl rfl dX11_init_89 (by with_reducible repeat first | assumption | exact hset_s | refine hget_n (by first | assumption | exact Ne.symm (by assumption)) ?_) (by exact ble rfl) (by first | assumption | exact aA (by assumption) (by omega)) ?_
  first | refine x_aload_n 0 dX11_init_92 rfl rfl ?_ | refine x_aload_nN 0 dX11_init_92 rfl rfl ?_
  refine x_iconst (v := 0) dX11_init_93 rfl ?_
  refine x_putS fX11_60 rfl rfl rfl rfl dX11_init_94 (by exact ble rfl) (by first | assumption | exact aA (by assumption) (by omega)) ?_
  first | refine x_aload_n 0 dX11_init_97 rfl rfl ?_ | refine x_aload_nN 0 dX11_init_97 rfl rfl ?_
  refine x_bipush (v := -4) dX11_init_98 rfl ?_
  refine x_putS fX11_64 rfl rfl rfl rfl dX11_init_100 (by exact ble rfl) (by first | assumption | exact aA (by assumption) (by omega)) ?_
  refine x_gen (fun hG ehG => ?_)
  obtain ⟨GhG, khG, fhG, mhGa, mhGb, mhGc⟩ := stage GhF zq14 G6 ehG
  have hGa := (congrFun ehG a).trans hset_s
  refine x_vret rfl dX11_init_103 ?_
  have SF := str_fin (h := h) (hG := hG) mhBa mhBb (fun x hx => mhCb x (mhCa x hx)) mhDa mhDb mhEa mhEb mhFa mhFb mhGa mhGb ⟨zq1, gq1, hset_sn⟩ f2 (fun i hi => mhBc _ (d2 i hi)) fv (fun i hi => mhCc _ (dv i hi)) ⟨zq5, gq5, hset_sn⟩ f6 (fun i hi => mhDc _ (d6 i hi)) ⟨zq7, gq7, hset_sn⟩ ⟨z8, g8, mhEc _ (some_nn k8)⟩ ⟨zq9, gq9, hset_sn⟩ f9 (fun i hi => mhFc _ (d9 i hi)) ⟨zq14, gq14, hset_sn⟩ ⟨zb, gb, mhGc _ (some_nn k16)⟩
  obtain ⟨u, hu⟩ : ∃ u, u = strU q1 q5 q7 q8 q9 q14 b14 u2 u6 u9 (nm0 nms qs) := ⟨_, rfl⟩
  rw [← hu] at SF
  obtain ⟨fr, dm⟩ := SF
  have nU : ∀ i, UC i → u i ≠ a := fun i hi => (none_ne nna (fr.2 i hi).1).symm
  have iU : ∀ i, 1 ≤ i → i < 17 → UC i := fun i h1 h2 => Or.inl ⟨h1, h2⟩
  have R5 := khG
  have R4 := khF.t R5
  have R3 := khE.t R4
  have R2 := khD.t R3
  have R1 := khC.t R2
  have Q1 := fhB.t R1
  have Q2 := fhC.t R2
  have Q3 := fhD.t R3
  have Q4 := fhE.t R4
  have Q5 := fhF.t R5
  have e1 : u 1 = q1 := by rw [hu]; rfl
  have e2 : u 2 = u2 2 := by rw [hu]; rfl
  have e3 : u 3 = u2 3 := by rw [hu]; rfl
  have e4 : u 4 = u2 4 := by rw [hu]; rfl
  have e5 : u 5 = q5 := by rw [hu]; rfl
  have e6 : u 6 = u6 6 := by rw [hu]; rfl
  have e7 : u 7 = q7 := by rw [hu]; rfl
  have e8 : u 8 = q8 := by rw [hu]; rfl
  have e9 : u 9 = q9 := by rw [hu]; rfl
  have e10 : u 10 = u9 10 := by rw [hu]; rfl
  have e11 : u 11 = u9 11 := by rw [hu]; rfl
  have e12 : u 12 = u9 12 := by rw [hu]; rfl
  have e13 : u 13 = u9 13 := by rw [hu]; rfl
  have e14 : u 14 = q14 := by rw [hu]; rfl
  have e15 : u 15 = u9 15 := by rw [hu]; rfl
  have e16 : u 16 = b14 := by rw [hu]; rfl
  have e1000 : u 1000 = u2 1000 := by rw [hu]; rfl
  have e1100 : u 1100 = qs := by rw [hu]; rfl
  have eb : ∀ x, okI x → u (1000 + x) = u2 (1000 + x) := fun x hx => by rw [hu]; exact (str_c hx).1
  have es : ∀ x, u (1100 + x) = nm0 nms qs x := fun x => by rw [hu]; exact str_s.1
  have e6b : ∀ s x, s < 9 → okI x → u (100 * (s + 1) + x) = u6 (100 * (s + 1) + x) := fun s x hs hx => by rw [hu]; exact (str_6 hs hx).1
  have iB : ∀ s x, s < 11 → okI x → UC (100 * (s + 1) + x) := fun s x hs hx => Or.inr ⟨s, x, hs, hx, rfl⟩
  have ok0 : okI 0 := Or.inl (by omega)
  refine ⟨rfl, u, fr, dm, ?_, ⟨?_, ?_, ?_, ?_, ?_, ?_, ?_, ?_, ?_, ?_, ?_, ?_, ?_, ?_, ?_, ?_, ?_, ?_, ?_⟩, GhG⟩
  · rw [e1, e1000, e2, e1100, e5, e7, e9, e14]; exact hGa
  · rw [e1, e1000, e2]; exact Q1 _ _ k1 (by rw [← e1]; exact nU 1 (iU 1 (by omega) (by omega)))
  · rw [e1000]; exact (kb2.fr Q1 (by rw [← eb 0 ok0]; exact nU _ (iB 9 0 (by omega) ok0)) (fun x hx => by rw [← eb x (Us_okI hx).1]; exact nU _ (iB 9 x (by omega) (Us_okI hx).1))).cg (fun x hx => eb x (Us_okI hx).1)
  · rw [e2, e3, e4]; exact Q1 _ _ k2 (by rw [← e2]; exact nU 2 (iU 2 (by omega) (by omega)))
  · rw [e3]; exact Q1 _ _ k3 (by rw [← e3]; exact nU 3 (iU 3 (by omega) (by omega)))
  · rw [e4]; exact Q1 _ _ k4 (by rw [← e4]; exact nU 4 (iU 4 (by omega) (by omega)))
  · rw [e1100]; exact (sbv.fr Q2 (by rw [← e1100]; exact nU _ (iB 10 0 (by omega) ok0)) (fun x hx => by rw [← es x]; exact nU _ (iB 10 x (by omega) (Us_okI hx).1))).cg (fun x hx => es x)
  · rw [e5, e6]; exact Q3 _ _ k5 (by rw [← e5]; exact nU 5 (iU 5 (by omega) (by omega)))
  · obtain ⟨f, k6a, k6b⟩ := k6
    exact ⟨f, by rw [e6]; exact Q3 _ _ k6a (by rw [← e6]; exact nU 6 (iU 6 (by omega) (by omega))), fun x hx => by rw [k6b x hx]; exact congrArg some (e6b x 0 hx ok0).symm⟩
  · intro x hx
    have ex : u (100 * (x + 1)) = u6 (100 * (x + 1)) := e6b x 0 hx ok0
    rw [ex]
    exact ((kS x hx).fr Q3 (by rw [← ex]; exact nU _ (iB x 0 (by omega) ok0)) (fun y hy => by rw [← e6b x y hx (Us_okI hy).1]; exact nU _ (iB x y (by omega) (Us_okI hy).1))).cg (fun y hy => e6b x y hx (Us_okI hy).1)
  · rw [e7, e8]; exact Q4 _ _ k7 (by rw [← e7]; exact nU 7 (iU 7 (by omega) (by omega)))
  · rw [e8]; exact Q4 _ _ k8 (by rw [← e8]; exact nU 8 (iU 8 (by omega) (by omega)))
  · rw [e9, e10, e11, e12, e13]; exact Q5 _ _ k9 (by rw [← e9]; exact nU 9 (iU 9 (by omega) (by omega)))
  · rw [e10, e15]; exact Q5 _ _ k10 (by rw [← e10]; exact nU 10 (iU 10 (by omega) (by omega)))
  · rw [e15]; exact Q5 _ _ k15 (by rw [← e15]; exact nU 15 (iU 15 (by omega) (by omega)))
  · rw [e11]; exact Q5 _ _ k11 (by rw [← e11]; exact nU 11 (iU 11 (by omega) (by omega)))
  · rw [e12]; exact Q5 _ _ k12 (by rw [← e12]; exact nU 12 (iU 12 (by omega) (by omega)))
  · rw [e13]; exact Q5 _ _ k13 (by rw [← e13]; exact nU 13 (iU 13 (by omega) (by omega)))
  · rw [e14, e16]; exact fhG _ _ k14 (by rw [← e14]; exact nU 14 (iU 14 (by omega) (by omega)))
  · rw [e16]; exact fhG _ _ k16 (by rw [← e16]; exact nU 16 (iU 16 (by omega) (by omega)))
