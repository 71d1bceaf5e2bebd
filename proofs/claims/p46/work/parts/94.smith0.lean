def smithU (q2 q3 q4 : Nat) (v : Nat → Nat) : Nat → Nat := fun j => if j = 2 then q2 else if j = 3 then q3 else if j = 4 then q4 else v (j - 1000)
theorem smithU_b {q2 q3 q4 : Nat} {v : Nat → Nat} {i : Nat} : smithU q2 q3 q4 v (1000 + i) = v i := by
  unfold smithU
  rw [if_neg (by omega), if_neg (by omega), if_neg (by omega), show 1000 + i - 1000 = i by omega]
theorem smith_fin {G : Gl} {h h1 h2 : Hp} {a q1 q2 q3 q4 : Nat} {nm : Nat → Nat} (ha : h a = some (.inr (9, [.null, .null]))) (zq1 : h q1 = none) (gq1 : G.2.2.1 q1) (S : ShI G (hset h q1 (.inr (8, [.null, .null, .null, .null, .int 0, .int 0, .int 0, .int 0, .int 0, .int 0, .int 0, .int 0]))) q1 h1 nm 12 16 8) (zq2 : hset h1 a (.inr (9, [.ref q1, .null])) q2 = none) (gq2 : G.2.2.1 q2)
    (z3 : (hset (hset h1 a (.inr (9, [.ref q1, .null]))) q2 (.inr (5, [.null, .null, .int 0]))) q3 = none) (g3 : G.2.2.1 q3) (z4 : (hset (hset h1 a (.inr (9, [.ref q1, .null]))) q2 (.inr (5, [.null, .null, .int 0]))) q4 = none) (g4 : G.2.2.1 q4) (n34 : q3 ≠ q4) (k2 : h2 q2 = some (.inr (5, [.ref q3, .ref q4, .int 0]))) (k3 : h2 q3 = some (eI G 3 (fun _ => 0))) (k4 : h2 q4 = some (eI G 3 (fun _ => 0))) (F2 : Fr (fun x => x = q2) (hset (hset h1 a (.inr (9, [.ref q1, .null]))) q2 (.inr (5, [.null, .null, .int 0]))) h2) :
    Frs G h U2 (smithU q2 q3 q4 (nm0 nm q1)) ∧ (∀ i, U2 i → hset h2 a (.inr (9, [.ref q1, .ref q2])) (smithU q2 q3 q4 (nm0 nm q1) i) ≠ none) ∧ hset h2 a (.inr (9, [.ref q1, .ref q2])) a = some (.inr (9, [.ref (smithU q2 q3 q4 (nm0 nm q1) 1000), .ref (smithU q2 q3 q4 (nm0 nm q1) 2)])) ∧ ShB G (smithU q2 q3 q4 (nm0 nm q1) 1000) (hset h2 a (.inr (9, [.ref q1, .ref q2]))) (fun i => smithU q2 q3 q4 (nm0 nm q1) (1000 + i)) 12 16 8 ∧ hset h2 a (.inr (9, [.ref q1, .ref q2])) q2 = some (.inr (5, [.ref q3, .ref q4, .int 0])) ∧ hset h2 a (.inr (9, [.ref q1, .ref q2])) q3 = some (eI G 3 (fun _ => 0)) ∧ hset h2 a (.inr (9, [.ref q1, .ref q2])) q4 = some (eI G 3 (fun _ => 0)) ∧ Gr a h (hset h2 a (.inr (9, [.ref q1, .ref q2]))) := by
  have ha0 : h a ≠ none := some_nn ha
  have na1 : a ≠ q1 := none_ne ha0 zq1
  obtain ⟨⟨f1, f2⟩, d1, sb⟩ := S.all zq1 gq1
  have gA := Gr.sub ((Gr.rf ha0).new zq1) S.gr zq1 na1
  have gB := gA.put (e := .inr (9, [.ref q1, .null]))
  have na2 : a ≠ q2 := none_ne gB.2 zq2
  have gC := gB.new (e := .inr (5, [.null, .null, .int 0])) zq2
  have gR : Gr q2 (hset (hset h1 a (.inr (9, [.ref q1, .null]))) q2 (.inr (5, [.null, .null, .int 0]))) h2 := ⟨F2, some_nn k2⟩
  have z2h : h q2 = none := gB.non zq2
  have gD := gC.sub gR z2h na2
  have gE := gD.put (e := .inr (9, [.ref q1, .ref q2]))
  have z21 : h1 q2 = none := by rw [hset_n na2.symm] at zq2; exact zq2
  have na3 : a ≠ q3 := none_ne gC.2 z3
  have na4 : a ≠ q4 := none_ne gC.2 z4
  have n23 : q2 ≠ q3 := none_ne (some_nn hset_s) z3
  have n24 : q2 ≠ q4 := none_ne (some_nn hset_s) z4
  have z31 : h1 q3 = none := by rw [hset_n n23.symm, hset_n na3.symm] at z3; exact z3
  have z41 : h1 q4 = none := by rw [hset_n n24.symm, hset_n na4.symm] at z4; exact z4
  have nas : ∀ x, okI x → nm0 nm q1 x ≠ a := fun x hx => (none_ne ha0 (f2 x hx).1).symm
  have FF : Fr (fun x => x = a) h1 (hset h2 a (.inr (9, [.ref q1, .ref q2]))) := fun y x hy ny => by
    have ny2 : y ≠ q2 := none_ne (some_nn hy) z21
    rw [hset_n ny]
    exact F2 y x (by rw [hset_n ny2, hset_n ny]; exact hy) ny2
  have sb2 := sb.fr FF (fun e => na1 e.symm) (fun x hx => nas x (Us_okI hx).1)
  have e0 : smithU q2 q3 q4 (nm0 nm q1) 1000 = q1 := by
    show nm0 nm q1 0 = q1
    exact nm0_0 nm q1
  have db : ∀ x, okI x → hset h2 a (.inr (9, [.ref q1, .ref q2])) (nm0 nm q1 x) ≠ none := fun x hx => by
    cases hh : h1 (nm0 nm q1 x) with
    | none => exact absurd hh (d1 x hx)
    | some y => rw [FF _ y hh (nas x hx)]; simp
  refine ⟨⟨?_, ?_⟩, ?_, ?_, ?_, ?_, ?_, ?_, gE⟩
  · intro i j hi hj e
    have bl : ∀ i, 1000 ≤ i → okI (i - 1000) → smithU q2 q3 q4 (nm0 nm q1) i = nm0 nm q1 (i - 1000) := fun i h1 _ => by
      have := smithU_b (q2 := q2) (q3 := q3) (q4 := q4) (v := nm0 nm q1) (i := i - 1000)
      rw [show 1000 + (i - 1000) = i by omega] at this
      exact this
    have nb : ∀ x y, okI x → h1 y = none → nm0 nm q1 x ≠ y := fun x y hx hy => none_ne (d1 x hx) hy
    rcases hi with hi | ⟨hi, hi2⟩
    · rcases hj with hj | ⟨hj, hj2⟩
      · rcases (show i = 2 ∨ i = 3 ∨ i = 4 by omega) with rfl | rfl | rfl <;> rcases (show j = 2 ∨ j = 3 ∨ j = 4 by omega) with rfl | rfl | rfl <;> first | rfl | exact absurd e n23 | exact absurd e n24 | exact absurd e n34 | exact absurd e.symm n23 | exact absurd e.symm n24 | exact absurd e.symm n34
      · rw [bl j hj hj2] at e
        rcases (show i = 2 ∨ i = 3 ∨ i = 4 by omega) with rfl | rfl | rfl
        · exact absurd e.symm (nb _ _ hj2 z21)
        · exact absurd e.symm (nb _ _ hj2 z31)
        · exact absurd e.symm (nb _ _ hj2 z41)
    · rw [bl i hi hi2] at e
      rcases hj with hj | ⟨hj, hj2⟩
      · rcases (show j = 2 ∨ j = 3 ∨ j = 4 by omega) with rfl | rfl | rfl
        · exact absurd e (nb _ _ hi2 z21)
        · exact absurd e (nb _ _ hi2 z31)
        · exact absurd e (nb _ _ hi2 z41)
      · rw [bl j hj hj2] at e
        have := f1 _ _ hi2 hj2 e
        omega
  · intro i hi
    rcases hi with hi | ⟨hi, hi2⟩
    · rcases (show i = 2 ∨ i = 3 ∨ i = 4 by omega) with rfl | rfl | rfl
      · exact ⟨z2h, gq2⟩
      · exact ⟨gC.non z3, g3⟩
      · exact ⟨gC.non z4, g4⟩
    · have := smithU_b (q2 := q2) (q3 := q3) (q4 := q4) (v := nm0 nm q1) (i := i - 1000)
      rw [show 1000 + (i - 1000) = i by omega] at this
      rw [this]
      exact f2 _ hi2
  · intro i hi
    rcases hi with hi | ⟨hi, hi2⟩
    · rcases (show i = 2 ∨ i = 3 ∨ i = 4 by omega) with rfl | rfl | rfl
      · show hset h2 a _ q2 ≠ none
        rw [hset_n na2.symm, k2]; simp
      · show hset h2 a _ q3 ≠ none
        rw [hset_n na3.symm, k3]; simp
      · show hset h2 a _ q4 ≠ none
        rw [hset_n na4.symm, k4]; simp
    · have := smithU_b (q2 := q2) (q3 := q3) (q4 := q4) (v := nm0 nm q1) (i := i - 1000)
      rw [show 1000 + (i - 1000) = i by omega] at this
      rw [this]
      exact db _ hi2
  · rw [e0]; exact hset_s
  · rw [e0]
    exact sb2.cg (fun x hx => smithU_b)
  · rw [hset_n na2.symm]; exact k2
  · rw [hset_n na3.symm]; exact k3
  · rw [hset_n na4.symm]; exact k4
set_option maxRecDepth 100000 in
set_option maxHeartbeats 1000000 in
theorem ct_iSmith {l : Launch} {G : Gl} {h : Hp} {a : Nat} (ha : h a = some (.inr (9, [.null, .null]))) (hA : G.2.2.1 a) : Ct l G mX9_init 4 (44) (305) [.ref a] h (fun w h' => w = none ∧ ∃ u, Frs G h U2 u ∧ (∀ i, U2 i → h' (u i) ≠ none) ∧ h' a = some (.inr (9, [.ref (u 1000), .ref (u 2)])) ∧ ShB G (u 1000) h' (fun i => u (1000 + i)) 12 16 8 ∧ h' (u 2) = some (.inr (5, [.ref (u 3), .ref (u 4), .int 0])) ∧ h' (u 3) = some (eI G 3 (fun _ => 0)) ∧ h' (u 4) = some (eI G 3 (fun _ => 0)) ∧ Gr a h h') := by
  refine Ct.of (L := [(0, _)]) (by decide) (ble rfl) rfl ?_
  first | refine x_aload_n 0 dX9_init_0 rfl rfl ?_ | refine x_aload_nN 0 dX9_init_0 rfl rfl ?_
  refine x_objInit rfl wX9_3 wObj2 wObj3 dX9_init_1 (ble rfl) (ble rfl) ?_
  first | refine x_aload_n 0 dX9_init_4 rfl rfl ?_ | refine x_aload_nN 0 dX9_init_4 rfl rfl ?_
  refine x_new (ci := 8) (fs := [.null, .null, .null, .null, .int 0, .int 0, .int 0, .int 0, .int 0, .int 0, .int 0, .int 0]) tyX8 inX8 tyX8_ok rfl rfl (List.mem_append_right _ (List.mem_of_getElem? (i := 32) (by decide +kernel))) (List.mem_append_right _ (List.mem_of_getElem? (i := 33) (by decide +kernel))) (List.mem_append_right _ (List.mem_of_getElem? (i := 3) (by decide +kernel))) (by intro j hj; rcases (show j = 0 ∨ j = 1 ∨ j = 2 ∨ j = 3 ∨ j = 4 ∨ j = 5 ∨ j = 6 ∨ j = 7 ∨ j = 8 ∨ j = 9 ∨ j = 10 ∨ j = 11 by omega) with rfl | rfl | rfl | rfl | rfl | rfl | rfl | rfl | rfl | rfl | rfl | rfl <;> rfl) dX9_init_5 (fun q1 zq1 gq1 => ?_)
  have na1 : a ≠ q1 := fun e => by rw [← e, ha] at zq1; cases zq1
  refine x_dup dX9_init_8 rfl ?_
  refine x_callI (mc1 := 3) (ms1 := 9) (As := []) (ct_iShop hset_s gq1) vX9_11 rfl rfl ⟨ble rfl, ble rfl⟩ (ble rfl) dX9_init_9 rfl ⟨by omega, by omega⟩ (fun w h1 c1 => ?_)
  obtain ⟨rfl, nm, S⟩ := c1
  have ha1 := S.2.2.2.1 a _ (hget_n na1 ha) na1
  refine x_putF fX9_12 rfl rfl rfl rfl rfl rfl dX9_init_12 (by with_reducible repeat first | assumption | exact hset_s | refine hget_n (by first | assumption | exact Ne.symm (by assumption)) ?_) (by exact ble rfl) (by first | assumption | exact aA (by assumption) (by omega)) ?_
  first | refine x_aload_n 0 dX9_init_15 rfl rfl ?_ | refine x_aload_nN 0 dX9_init_15 rfl rfl ?_
  refine x_new (ci := 5) (fs := [.null, .null, .int 0]) tyX5 inX5 tyX5_ok rfl rfl (List.mem_append_right _ (List.mem_of_getElem? (i := 198) (by decide +kernel))) (List.mem_append_right _ (List.mem_of_getElem? (i := 199) (by decide +kernel))) (List.mem_append_right _ (List.mem_of_getElem? (i := 9) (by decide +kernel))) (by intro j hj; rcases (show j = 0 ∨ j = 1 ∨ j = 2 by omega) with rfl | rfl | rfl <;> rfl) dX9_init_16 (fun q2 zq2 gq2 => ?_)
  have na2 : a ≠ q2 := fun e => by rw [← e, hset_s] at zq2; cases zq2
  refine x_dup dX9_init_19 rfl ?_
  refine x_callIN (mc1 := 0) (ms1 := 0) (As := []) (ct_iReasons hset_s gq2) vX9_20 rfl rfl ⟨ble rfl, ble rfl⟩ (ble rfl) dX9_init_20 rfl ⟨by omega, by omega⟩ (fun w h2 c2 => ?_)
  obtain ⟨rfl, q3, q4, z3, g3, z4, g4, n34, k2, k3, k4, F2⟩ := c2
  have ha2 := F2 a _ (hget_n na2 hset_s) na2
  refine x_putF fX9_21 rfl rfl rfl rfl rfl rfl dX9_init_23 (by with_reducible repeat first | assumption | exact hset_s | refine hget_n (by first | assumption | exact Ne.symm (by assumption)) ?_) (by exact ble rfl) (by first | assumption | exact aA (by assumption) (by omega)) ?_
  refine x_vret rfl dX9_init_26 ?_
  exact ⟨rfl, smithU q2 q3 q4 (nm0 nm q1), smith_fin ha zq1 gq1 S zq2 gq2 z3 g3 z4 g4 n34 k2 k3 k4 F2⟩
