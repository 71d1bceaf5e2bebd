/-! ===== what holds of the machine at the law's entry ===== -/
theorem arr_p {s : State} {args : Array Value} {ty : FieldType} (h : (Cond.arrayClass ty).before args s = true) (hn : ∀ C, ty ≠ .object C) : ∃ cA, ArrOfT s cA ty ∧ va_RA s cA ty := by
  obtain ⟨c, k, comp, h1, h2, h3⟩ := Cond.arrayClass_spec h
  refine ⟨c, fun n z => ⟨fun k h => (by cases h), k, h2, comp, h3⟩, ?_⟩
  cases ty with
  | object C => exact absurd rfl (hn C)
  | _ => exact h1
theorem arr_o {s : State} {args : Array Value} {C : String} (h : (Cond.arrayOver (.object C)).before args s = true) : ∃ cA, ArrOfT s cA (.object C) ∧ va_RA s cA (.object C) := by
  obtain ⟨comp, c, k, h1, -, h2, h3, h4⟩ := Cond.arrayOver_spec h
  exact ⟨c, fun n z => ⟨fun k h => (by cases h), k, h2, comp, h3⟩, k, comp, h2, h3, h1, h4⟩
set_option maxRecDepth 100000 in
theorem sta0 {s : State} {args : Array Value} {b n : Nat} {xs : Nat → Int32} (hts : ∀ w ∈ lw_tbl, w.before args s = true) (hn : narrow_1.before args s = true) (hX : va_X b n xs s s.heap) (hb : b < s.heap.size) (hn31 : n < 2 ^ 31) : ∃ G : Gl, (G.2.2.1 = fun q => s.heap.size ≤ q) ∧ Sta G s ∧ (∀ i j : Nat, i < 3 → j < 3 → G.2.2.2 i = G.2.2.2 j → i = j) ∧ (∀ i j : Nat, i < 6 → j < 6 → G.2.2.2 (3 + i) = G.2.2.2 (3 + j) → i = j) ∧ G.2.2.2 60 = b := by
  have hA : ∀ a : Nat, a < s.heap.size → ¬ (fun q => s.heap.size ≤ q) a := fun a h z => absurd h (Nat.not_lt.mpr z)
  have Q : ∀ {k : Nat} {c : Cond}, nr k = c → c.before args s = true := fun e => e ▸ nav_b 24 _ _ hn
  obtain ⟨adK, EK, vK⟩ := va_Enof2 (args := args) (s := s) (E := RX2) (d := "LCopperStreet$Kind;") (nm := nmKd) (F := FKd) (A := fun q => s.heap.size ≤ q) (fun i hi => hts _ (wK_l i hi)) (hts _ w_i.1) (fun i hi => Q (nK_ex i hi)) (fun q hq i hi => by
    simp only [FKd, List.mem_cons, List.not_mem_nil, or_false] at hq
    rcases hq with rfl | rfl | rfl | rfl | rfl | rfl | rfl
    · exact Q (nK_f0 i hi)
    · exact Q (nK_f1 i hi)
    · exact Q (nK_f2 i hi)
    · exact Q (nK_f3 i hi)
    · exact Q (nK_f4 i hi)
    · exact Q (nK_f5 i hi)
    · exact Q (nK_f6 i hi)) (fun i j hi hj ne => (nK_ne i hi j hj ne).imp Q Q) hA
  obtain ⟨tK, eK, TK⟩ := va_Tof (args := args) (s := s) (tm := tKA) (ty := .object RX2) (N := 3) (f := fun j => .ref (adK j)) (A := fun q => s.heap.size ≤ q) (by omega) (Q tKA_a) (va_eqt (Q tKA_l)) (fun j hj => va_eqv (Q (tKA_e j hj)) (vK j hj)) hA
  have zK := va_Zref (args := args) (s := s) (C := RX2) (n := "ALL") (d := "[LCopperStreet$Kind;") (A := fun q => s.heap.size ≤ q) (hts _ w_l.1) (hts _ w_i.1) eK hA
  have zC := va_Zof (args := args) (s := s) (C := "java/lang/String") (n := "COMPACT_STRINGS") (d := "Z") (v := .int 1) (A := fun q => s.heap.size ≤ q) (hts _ w_l.2) (hts _ w_i.2) (va_eqt (Q n_cs)) hA
  obtain ⟨g, g0, g3, g10, g60⟩ : ∃ g : Nat → Nat, (∀ i, i < 3 → g i = adK i) ∧ (∀ i, i < 6 → g (3 + i) = i) ∧ g 10 = tK ∧ g 60 = b := by
    refine ⟨fun i => if i < 3 then adK i else if i < 9 then i - 3 else if i = 10 then tK else b, fun i hi => if_pos hi, fun i hi => ?_, rfl, rfl⟩
    dsimp only
    rw [if_neg (by omega), if_pos (by omega), Nat.add_sub_cancel_left]
  have hcl : ∀ c : Nat, ∃ p : ClassId × (Nat → Nat), ∀ q : vw_C, vwCl[c]? = some q → u_Kn s q.1 q.2.1 q.2.2 p.1 p.2 := by
    intro c
    rcases (show c = 0 ∨ c = 1 ∨ c = 2 ∨ c = 3 ∨ c = 4 ∨ c = 5 ∨ c = 6 ∨ c = 7 ∨ c = 8 ∨ c = 9 ∨ c = 10 ∨ 11 ≤ c by omega) with rfl | rfl | rfl | rfl | rfl | rfl | rfl | rfl | rfl | rfl | rfl | hc
    · obtain ⟨cC, iS, kn⟩ := u_known (n := 4) hts inJ4 (hts _ w_n.1)
      exact ⟨(cC, iS), fun q hq => by cases hq; exact kn⟩
    · obtain ⟨cC, iS, kn⟩ := u_known (n := 2) hts inX0 (hts _ w_n.2.1)
      exact ⟨(cC, iS), fun q hq => by cases hq; exact kn⟩
    · obtain ⟨cC, iS, kn⟩ := u_known (n := 3) hts inX1 (hts _ w_n.2.2.1)
      exact ⟨(cC, iS), fun q hq => by cases hq; exact kn⟩
    · obtain ⟨cC, iS, kn⟩ := u_known (n := 5) hts inX3 (hts _ w_n.2.2.2.1)
      exact ⟨(cC, iS), fun q hq => by cases hq; exact kn⟩
    · obtain ⟨cC, iS, kn⟩ := u_known (n := 9) hts inX4 (hts _ w_n.2.2.2.2.1)
      exact ⟨(cC, iS), fun q hq => by cases hq; exact kn⟩
    · obtain ⟨cC, iS, kn⟩ := u_known (n := 3) hts inX5 (hts _ w_n.2.2.2.2.2.1)
      exact ⟨(cC, iS), fun q hq => by cases hq; exact kn⟩
    · obtain ⟨cC, iS, kn⟩ := u_known (n := 6) hts inX6 (hts _ w_n.2.2.2.2.2.2.1)
      exact ⟨(cC, iS), fun q hq => by cases hq; exact kn⟩
    · obtain ⟨cC, iS, kn⟩ := u_known (n := 4) hts inX7 (hts _ w_n.2.2.2.2.2.2.2.1)
      exact ⟨(cC, iS), fun q hq => by cases hq; exact kn⟩
    · obtain ⟨cC, iS, kn⟩ := u_known (n := 12) hts inX8 (hts _ w_n.2.2.2.2.2.2.2.2.1)
      exact ⟨(cC, iS), fun q hq => by cases hq; exact kn⟩
    · obtain ⟨cC, iS, kn⟩ := u_known (n := 2) hts inX9 (hts _ w_n.2.2.2.2.2.2.2.2.2.1)
      exact ⟨(cC, iS), fun q hq => by cases hq; exact kn⟩
    · obtain ⟨cC, iS, kn⟩ := u_known (n := 10) hts inX11 (hts _ w_n.2.2.2.2.2.2.2.2.2.2)
      exact ⟨(cC, iS), fun q hq => by cases hq; exact kn⟩
    · obtain ⟨cC, iS, kn⟩ := u_known (n := 4) hts inJ4 (hts _ w_n.1)
      refine ⟨(cC, iS), fun q hq => ?_⟩
      rw [List.getElem?_eq_none (show vwCl.length ≤ c from hc)] at hq
      cases hq
  obtain ⟨D, hD⟩ := Classical.axiomOfChoice hcl
  obtain ⟨a0, r0, q0⟩ := arr_p (s := s) (args := args) (hts _ w_a.1) (fun C e => by cases e)
  obtain ⟨a1, r1, q1⟩ := arr_p (s := s) (args := args) (hts _ w_a.1) (fun C e => by cases e)
  obtain ⟨a2, r2, q2⟩ := arr_p (s := s) (args := args) (hts _ w_a.2.1) (fun C e => by cases e)
  obtain ⟨a3, r3, q3⟩ := arr_o (s := s) (args := args) (hts _ w_a.2.2.1)
  obtain ⟨a4, r4, q4⟩ := arr_o (s := s) (args := args) (hts _ w_a.2.2.2.1)
  obtain ⟨a5, r5, q5⟩ := arr_o (s := s) (args := args) (hts _ w_a.2.2.2.2.1)
  obtain ⟨a6, r6, q6⟩ := arr_o (s := s) (args := args) (hts _ w_a.2.2.2.2.2.1)
  obtain ⟨a7, r7, q7⟩ := arr_o (s := s) (args := args) (hts _ w_a.2.2.2.2.2.2)
  refine ⟨((fun c => (D c).1, fun c => (D c).2), fun k => if k = 0 then a0 else if k = 1 then a1 else if k = 2 then a2 else if k = 3 then a3 else if k = 4 then a4 else if k = 5 then a5 else if k = 6 then a6 else a7, fun q => s.heap.size ≤ q, g), rfl, ⟨⟨fun c q hq => hD c q hq, fun k q hk => ?_⟩, fun a i x n hm => ?_, fun C hC => va_AO.of (hts _ hC), ?_⟩, fun i j hi hj e => ?_, fun i j hi hj e => ?_, g60⟩
  · rcases (show k = 0 ∨ k = 1 ∨ k = 2 ∨ k = 3 ∨ k = 4 ∨ k = 5 ∨ k = 6 ∨ k = 7 ∨ 8 ≤ k by omega) with rfl | rfl | rfl | rfl | rfl | rfl | rfl | rfl | hc
    · cases hk; exact ⟨r0, q0⟩
    · cases hk; exact ⟨r1, q1⟩
    · cases hk; exact ⟨r2, q2⟩
    · cases hk; exact ⟨r3, q3⟩
    · cases hk; exact ⟨r4, q4⟩
    · cases hk; exact ⟨r5, q5⟩
    · cases hk; exact ⟨r6, q6⟩
    · cases hk; exact ⟨r7, q7⟩
    · rw [List.getElem?_eq_none (show 8 ≤ k from hc)] at hk
      cases hk
  · exact va_tabs (A := args) (u := s) rfl rfl (hts _ hm)
  · refine ⟨va_En_cg EK g0, ?_, ?_, zC, n, xs, hn31, ?_, ?_⟩
    · show va_Z RX2 "ALL" "[LCopperStreet$Kind;" (.ref (g 10)) _ s s.heap
      rw [g10]; exact zK
    · show va_T (.object RX2) (g 10) 3 (fun j => .ref (g j)) _ s s.heap
      rw [g10]; exact va_T_cg TK (fun i hi => congrArg Value.ref (g0 i hi))
    · show va_X (g 60) n xs s s.heap
      rw [g60]; exact hX
    · show ¬ s.heap.size ≤ g 60
      rw [g60]; exact Nat.not_le.mpr hb
  · have e' : g i = g j := e
    rw [g0 i hi, g0 j hj] at e'
    exact EK.2 i j hi hj e'
  · have e' : g (3 + i) = g (3 + j) := e
    rw [g3 i hi, g3 j hj] at e'
    exact e'
