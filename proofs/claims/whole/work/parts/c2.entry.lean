/-! ===== what holds of the machine at the law's entry ===== -/
theorem sel_p {C : String} {y y0 : MethodName} {s : State} {args : Array Value} {n : Nat} (hy : y.cls ≠ "java/lang/invoke/MethodHandle" ∧ y.cls ≠ "java/lang/invoke/VarHandle") (hins : (Cond.instantiable C n).before args s = true) (hpriv : (Cond.privateMethod y).before args s = true) (hinst : (Cond.instanceMethod y).before args s = true) (h0 : (Cond.selects C y0 y0).before args s = true) (hc : y0.cls = y.cls) : (Cond.selects C y y).before args s = true := by
  obtain ⟨c, k, hc1, hk, -, -, -, -⟩ := Cond.instantiable_spec hins
  obtain ⟨mk, methM, hnamed, hmethM, -, -⟩ := Cond.instanceMethod_spec hinst
  have hfound : s.methodFound? y.cls y.name y.desc = some mk := State.methodFound?_of_named hnamed hy
  have hsel : selectMethod {} s.vm c mk = .method mk := selectMethod_private hmethM (Cond.privateMethod_at hpriv mk methM hnamed hmethM)
  have hi : (s.vm.classes[mk.cls]?).any (!·.isInterface) = true := by
    simp only [Cond.before, Cond.holds, Cond.value, hc1] at h0
    cases hf : s.methodFound? y0.cls y0.name y0.desc with
    | none => simp [hf] at h0
    | some r =>
      cases hm : s.methodNamed? y0 with
      | none => simp [hf, hm] at h0
      | some m0 =>
        have f0 := findClass_of_methodNamed hm
        rw [hc, findClass_of_methodNamed hnamed] at f0
        have e : mk.cls = m0.cls := Option.some.inj f0
        simp only [hf, hm] at h0
        rw [e]
        split at h0
        · simp only [beq_iff_eq, Option.some.injEq, Bool.and_eq_true] at h0
          exact h0.2
        · simp at h0
  simp only [Cond.before, Cond.holds, Cond.value, hc1, hfound, hnamed, hsel, hi]
  simp
theorem arr_p {s : State} {args : Array Value} {ty : FieldType} (h : (Cond.arrayClass ty).before args s = true) (hn : ∀ C, ty ≠ .object C) : ∃ cA, ArrOfT s cA ty ∧ va_RA s cA ty := by
  obtain ⟨c, k, comp, h1, h2, h3⟩ := Cond.arrayClass_spec h
  refine ⟨c, fun n z => ⟨fun k h => (by cases h), k, h2, comp, h3⟩, ?_⟩
  cases ty with
  | object C => exact absurd rfl (hn C)
  | _ => exact h1
theorem arr_o {s : State} {args : Array Value} {C : String} (h : (Cond.arrayOver (.object C)).before args s = true) : ∃ cA, ArrOfT s cA (.object C) ∧ va_RA s cA (.object C) := by
  obtain ⟨comp, c, k, h1, -, h2, h3, h4⟩ := Cond.arrayOver_spec h
  exact ⟨c, fun n z => ⟨fun k h => (by cases h), k, h2, comp, h3⟩, k, comp, h2, h3, h1, h4⟩
set_option maxRecDepth 100000 in
theorem sta0 {s : State} {args : Array Value} (hts : ∀ w ∈ lw_tbl, w.before args s = true) (hn : narrow_1.before args s = true) : ∃ G : Gl, (G.2.2.1 = fun q => s.heap.size ≤ q) ∧ Sta G s ∧ (∀ i j : Nat, i < 3 → j < 3 → G.2.2.2 i = G.2.2.2 j → i = j) ∧ ∀ i j : Nat, i < 6 → j < 6 → G.2.2.2 (3 + i) = G.2.2.2 (3 + j) → i = j := by
  have hA : ∀ a : Nat, a < s.heap.size → ¬ (fun q => s.heap.size ≤ q) a := fun a h z => absurd h (Nat.not_lt.mpr z)
  have Q : ∀ {k : Nat} {c : Cond}, nr k = c → c.before args s = true := fun e => e ▸ nav_b 24 _ _ hn
  obtain ⟨adK, EK, vK⟩ := va_Enof2 (args := args) (s := s) (E := RX2) (d := "LCopperStreet$Kind;") (nm := nmKd) (F := FKd) (A := fun q => s.heap.size ≤ q) (fun i hi => hts _ (wK_l i hi)) (hts _ w_i.1) (fun i hi => Q (nK_ex i hi)) (fun q hq i hi => by
    simp only [FKd, List.mem_cons, List.not_mem_nil, or_false] at hq
    rcases hq with rfl | rfl | rfl | rfl | rfl | rfl | rfl
    · exact Q (nK_f0 i hi)
    · exact Q (nK_f1 i hi)
    · exact Q (nK_f2 i hi)
    · exact Q (nK_f3 i hi)
    · exact Q (nK_f4 i hi)
    · exact Q (nK_f5 i hi)
    · exact Q (nK_f6 i hi)) (fun i j hi hj ne => (nK_ne i hi j hj ne).imp Q Q) hA
  obtain ⟨adV, EV, vV⟩ := va_Enof2 (args := args) (s := s) (E := RX10) (d := "LCopperStreet$Verb;") (nm := nmVb) (F := FVb) (A := fun q => s.heap.size ≤ q) (fun i hi => hts _ (wV_l i hi)) (hts _ w_i.2.1) (fun i hi => Q (nV_ex i hi)) (fun q hq i hi => by
    simp only [FVb, List.mem_cons, List.not_mem_nil, or_false] at hq
    subst hq
    exact Q (nV_f i hi)) (fun i j hi hj ne => (nV_ne i hi j hj ne).imp Q Q) hA
  obtain ⟨adS, adB, SS, vS⟩ := vk_Sof (args := args) (s := s) (N := 12) (tm := tmS) (len := stN) (byt := stB) (A := fun q => s.heap.size ≤ q) (by decide +kernel) (fun i hi => Q (nS_ex i hi)) (fun i hi => Q (nS_co i hi)) (fun i hi => Q (nS_ar i hi)) (fun i hi => Q (nS_le i hi)) (fun i hi j hj => Q (nS_el i hi j hj)) (fun i j hi hj ne => (nS_ne i hi j hj ne).imp Q Q) hA
  have FK := va_Efof (args := args) (s := s) (N := 3) (E := RX2) (d0 := "LCopperStreet$Kind;") (o := RX2) (n := "word") (d := "Ljava/lang/String;") (nm := nmKd) (v := fun i => .ref (adS i)) (tm := tmS) (ad := adK) (A := fun q => s.heap.size ≤ q) vK (fun i hi => Q (nK_w i hi)) (fun i hi => vS i (by omega)) hA
  have FV := va_Efof (args := args) (s := s) (N := 6) (E := RX10) (d0 := "LCopperStreet$Verb;") (o := RX10) (n := "word") (d := "Ljava/lang/String;") (nm := nmVb) (v := fun i => .ref (adS (3 + i))) (tm := fun i => tmS (3 + i)) (ad := adV) (A := fun q => s.heap.size ≤ q) vV (fun i hi => Q (nV_w i hi)) (fun i hi => vS (3 + i) (by omega)) hA
  obtain ⟨tK, eK, TK⟩ := va_Tof (args := args) (s := s) (tm := tKA) (ty := .object RX2) (N := 3) (f := fun j => .ref (adK j)) (A := fun q => s.heap.size ≤ q) (by omega) (Q tKA_a) (va_eqt (Q tKA_l)) (fun j hj => va_eqv (Q (tKA_e j hj)) (vK j hj)) hA
  obtain ⟨tV, eV, TV⟩ := va_Tof (args := args) (s := s) (tm := tVA) (ty := .object RX10) (N := 6) (f := fun j => .ref (adV j)) (A := fun q => s.heap.size ≤ q) (by omega) (Q tVA_a) (va_eqt (Q tVA_l)) (fun j hj => va_eqv (Q (tVA_e j hj)) (vV j hj)) hA
  obtain ⟨t1, e1, T1⟩ := va_Tof (args := args) (s := s) (tm := tDO) (ty := .byte) (N := 100) (f := fun j => .int (dgO.getD j 0)) (A := fun q => s.heap.size ≤ q) (by omega) (Q tDO_a) (va_eqt (Q tDO_l)) (fun j hj => va_eqt (Q (tDO_e j hj))) hA
  obtain ⟨t2, e2, T2⟩ := va_Tof (args := args) (s := s) (tm := tDT) (ty := .byte) (N := 100) (f := fun j => .int (dgT.getD j 0)) (A := fun q => s.heap.size ≤ q) (by omega) (Q tDT_a) (va_eqt (Q tDT_l)) (fun j hj => va_eqt (Q (tDT_e j hj))) hA
  have zK := va_Zref (args := args) (s := s) (C := RX2) (n := "ALL") (d := "[LCopperStreet$Kind;") (A := fun q => s.heap.size ≤ q) (hts _ w_l.1) (hts _ w_i.1) eK hA
  have zV := va_Zref (args := args) (s := s) (C := RX10) (n := "ALL") (d := "[LCopperStreet$Verb;") (A := fun q => s.heap.size ≤ q) (hts _ w_l.2.1) (hts _ w_i.2.1) eV hA
  have z1 := va_Zref (args := args) (s := s) (C := "java/lang/Integer") (n := "DigitOnes") (d := "[B") (A := fun q => s.heap.size ≤ q) (hts _ w_l.2.2.1) (hts _ w_i.2.2.1) e1 hA
  have z2 := va_Zref (args := args) (s := s) (C := "java/lang/Integer") (n := "DigitTens") (d := "[B") (A := fun q => s.heap.size ≤ q) (hts _ w_l.2.2.2.1) (hts _ w_i.2.2.1) e2 hA
  have zC := va_Zof (args := args) (s := s) (C := "java/lang/String") (n := "COMPACT_STRINGS") (d := "Z") (v := .int 1) (A := fun q => s.heap.size ≤ q) (hts _ w_l.2.2.2.2.1) (hts _ w_i.2.2.2.1) (va_eqt (Q n_cs)) hA
  have zF : ∃ x y : Nat, va_Z "jdk/internal/util/Preconditions" "SIOOBE_FORMATTER" "Ljava/util/function/BiFunction;" (if y = 0 then .null else .ref x) (fun q => s.heap.size ≤ q) s s.heap := by
    rcases va_Zqof (args := args) (s := s) (C := "jdk/internal/util/Preconditions") (n := "SIOOBE_FORMATTER") (d := "Ljava/util/function/BiFunction;") (A := fun q => s.heap.size ≤ q) (hts _ w_l.2.2.2.2.2) (hts _ w_i.2.2.2.2) (Q n_fm) hA with z | ⟨x, z⟩
    · exact ⟨0, 0, z⟩
    · exact ⟨x, 1, z⟩
  obtain ⟨tF, yF, zF⟩ := zF
  obtain ⟨g, g0, g3, g10, g11, g12, g13, g14, g15, g20, g40⟩ : ∃ g : Nat → Nat, (∀ i, i < 3 → g i = adK i) ∧ (∀ i, i < 6 → g (3 + i) = adV i) ∧ g 10 = tK ∧ g 11 = tV ∧ g 12 = t1 ∧ g 13 = t2 ∧ g 14 = tF ∧ g 15 = yF ∧ (∀ i, i < 12 → g (20 + i) = adS i) ∧ ∀ i, i < 12 → g (40 + i) = adB i := by
    refine ⟨fun i => if i < 3 then adK i else if i < 9 then adV (i - 3) else if i = 10 then tK else if i = 11 then tV else if i = 12 then t1 else if i = 13 then t2 else if i = 14 then tF else if i = 15 then yF else if i < 40 then adS (i - 20) else adB (i - 40), fun i hi => if_pos hi, fun i hi => ?_, rfl, rfl, rfl, rfl, rfl, rfl, fun i hi => ?_, fun i hi => ?_⟩
    · dsimp only
      rw [if_neg (by omega), if_pos (by omega), Nat.add_sub_cancel_left]
    · dsimp only
      rw [if_neg (by omega), if_neg (by omega), if_neg (by omega), if_neg (by omega), if_neg (by omega), if_neg (by omega), if_neg (by omega), if_neg (by omega), if_pos (by omega), Nat.add_sub_cancel_left]
    · dsimp only
      rw [if_neg (by omega), if_neg (by omega), if_neg (by omega), if_neg (by omega), if_neg (by omega), if_neg (by omega), if_neg (by omega), if_neg (by omega), if_neg (by omega), Nat.add_sub_cancel_left]
  have hcl : ∀ c : Nat, ∃ p : ClassId × (Nat → Nat), ∀ q : vw_C, vwCl[c]? = some q → u_Kn s q.1 q.2.1 q.2.2 p.1 p.2 := by
    intro c
    rcases (show c = 0 ∨ c = 1 ∨ c = 2 ∨ c = 3 ∨ c = 4 ∨ c = 5 ∨ c = 6 ∨ c = 7 ∨ c = 8 ∨ c = 9 ∨ c = 10 ∨ c = 11 ∨ 12 ≤ c by omega) with rfl | rfl | rfl | rfl | rfl | rfl | rfl | rfl | rfl | rfl | rfl | rfl | hc
    · obtain ⟨cC, iS, kn⟩ := u_known (n := 4) hts inJ4 (hts _ w_n.1)
      exact ⟨(cC, iS), fun q hq => by cases hq; exact kn⟩
    · obtain ⟨cC, iS, kn⟩ := u_known (n := 2) hts inX0 (hts _ w_n.2.1)
      exact ⟨(cC, iS), fun q hq => by cases hq; exact kn⟩
    · obtain ⟨cC, iS, kn⟩ := u_known (n := 3) hts inX1 (hts _ w_n.2.2.1)
      exact ⟨(cC, iS), fun q hq => by cases hq; exact kn⟩
    · obtain ⟨cC, iS, kn⟩ := u_known (n := 5) hts inX3 (hts _ w_n.2.2.2.1)
      exact ⟨(cC, iS), fun q hq => by cases hq; exact kn⟩
    · obtain ⟨cC, iS, kn⟩ := u_known (n := 9) hts inX4 (hts _ w_n.2.2.2.2.1)
      exact ⟨(cC, iS), fun q hq => by cases hq; exact kn⟩
    · obtain ⟨cC, iS, kn⟩ := u_known (n := 3) hts inX5 (hts _ w_n.2.2.2.2.2.1)
      exact ⟨(cC, iS), fun q hq => by cases hq; exact kn⟩
    · obtain ⟨cC, iS, kn⟩ := u_known (n := 6) hts inX6 (hts _ w_n.2.2.2.2.2.2.1)
      exact ⟨(cC, iS), fun q hq => by cases hq; exact kn⟩
    · obtain ⟨cC, iS, kn⟩ := u_known (n := 4) hts inX7 (hts _ w_n.2.2.2.2.2.2.2.1)
      exact ⟨(cC, iS), fun q hq => by cases hq; exact kn⟩
    · obtain ⟨cC, iS, kn⟩ := u_known (n := 12) hts inX8 (hts _ w_n.2.2.2.2.2.2.2.2.1)
      exact ⟨(cC, iS), fun q hq => by cases hq; exact kn⟩
    · obtain ⟨cC, iS, kn⟩ := u_known (n := 2) hts inX9 (hts _ w_n.2.2.2.2.2.2.2.2.2.1)
      exact ⟨(cC, iS), fun q hq => by cases hq; exact kn⟩
    · obtain ⟨cC, iS, kn⟩ := u_known (n := 10) hts inX11 (hts _ w_n.2.2.2.2.2.2.2.2.2.2.1)
      exact ⟨(cC, iS), fun q hq => by cases hq; exact kn⟩
    · obtain ⟨cC, iS, kn⟩ := u_known (n := 24) hts inX12 (hts _ w_n.2.2.2.2.2.2.2.2.2.2.2)
      exact ⟨(cC, iS), fun q hq => by cases hq; exact kn⟩
    · obtain ⟨cC, iS, kn⟩ := u_known (n := 4) hts inJ4 (hts _ w_n.1)
      refine ⟨(cC, iS), fun q hq => ?_⟩
      rw [List.getElem?_eq_none (show vwCl.length ≤ c from hc)] at hq
      cases hq
  obtain ⟨D, hD⟩ := Classical.axiomOfChoice hcl
  obtain ⟨a0, r0, q0⟩ := arr_p (s := s) (args := args) (hts _ w_a.1) (fun C e => by cases e)
  obtain ⟨a1, r1, q1⟩ := arr_p (s := s) (args := args) (hts _ w_a.2.1) (fun C e => by cases e)
  obtain ⟨a2, r2, q2⟩ := arr_p (s := s) (args := args) (hts _ w_a.2.2.1) (fun C e => by cases e)
  obtain ⟨a3, r3, q3⟩ := arr_o (s := s) (args := args) (hts _ w_a.2.2.2.1)
  obtain ⟨a4, r4, q4⟩ := arr_o (s := s) (args := args) (hts _ w_a.2.2.2.2.1)
  obtain ⟨a5, r5, q5⟩ := arr_o (s := s) (args := args) (hts _ w_a.2.2.2.2.2.1)
  obtain ⟨a6, r6, q6⟩ := arr_o (s := s) (args := args) (hts _ w_a.2.2.2.2.2.2.1)
  obtain ⟨a7, r7, q7⟩ := arr_o (s := s) (args := args) (hts _ w_a.2.2.2.2.2.2.2)
  refine ⟨((fun c => (D c).1, fun c => (D c).2), fun k => if k = 0 then a0 else if k = 1 then a1 else if k = 2 then a2 else if k = 3 then a3 else if k = 4 then a4 else if k = 5 then a5 else if k = 6 then a6 else a7, fun q => s.heap.size ≤ q, g), rfl, ⟨⟨fun c q hq => hD c q hq, fun k q hk => ?_⟩, fun a i x n hm => ?_, fun C hC => va_AO.of (hts _ hC), ?_, ?_, ?_, fun y hy => ?_, ?_⟩, fun i j hi hj e => ?_, fun i j hi hj e => ?_⟩
  · rcases (show k = 0 ∨ k = 1 ∨ k = 2 ∨ k = 3 ∨ k = 4 ∨ k = 5 ∨ k = 6 ∨ k = 7 ∨ 8 ≤ k by omega) with rfl | rfl | rfl | rfl | rfl | rfl | rfl | rfl | hc
    · cases hk; exact ⟨r0, q0⟩
    · cases hk; exact ⟨r1, q1⟩
    · cases hk; exact ⟨r2, q2⟩
    · cases hk; exact ⟨r3, q3⟩
    · cases hk; exact ⟨r4, q4⟩
    · cases hk; exact ⟨r5, q5⟩
    · cases hk; exact ⟨r6, q6⟩
    · cases hk; exact ⟨r7, q7⟩
    · rw [List.getElem?_eq_none (show 8 ≤ k from hc)] at hk
      cases hk
  · exact va_tabs (A := args) (u := s) rfl rfl (hts _ hm)
  · show vk_R RX4 117 " used" (g (20 + 9)) s
    rw [g20 9 (by omega)]
    exact vk_R.of (hts _ w_s.1) (vS 9 (by omega))
  · show vk_R RX4 122 " sold" (g (20 + 10)) s
    rw [g20 10 (by omega)]
    exact vk_R.of (hts _ w_s.2.1) (vS 10 (by omega))
  · show vk_R RX12 222 "kettlepancauldron used soldraisehittincooksellbars" (g (20 + 11)) s
    rw [g20 11 (by omega)]
    exact vk_R.of (hts _ w_s.2.2) (vS 11 (by omega))
  · obtain ⟨p1, p2, p3⟩ := w_p y hy
    have ec : y.cls = "java/lang/AbstractStringBuilder" := by
      have key : ∀ y ∈ pmL, y.cls = "java/lang/AbstractStringBuilder" := by decide +kernel
      exact key y hy
    exact va_tabs (A := args) (u := s) rfl rfl (sel_p (y0 := ⟨"java/lang/AbstractStringBuilder", "isLatin1", "()Z"⟩) p1 (hts _ w_sb) (hts _ p2) (hts _ p3) (hts _ (List.mem_append_right _ (List.mem_of_getElem? (i := 430) (by decide +kernel)))) ec.symm)
  · refine ⟨va_En_cg EK g0, va_Ef_cg FK g0 (fun i hi => congrArg Value.ref (g20 i (by omega))), va_En_cg EV g3, va_Ef_cg FV g3 (fun i hi => congrArg Value.ref ?_), ?_, ?_, ?_, ?_, vk_S_cg SS g20 g40, zC, ?_, ?_, ?_, ?_, ?_⟩
    · show g (23 + i) = adS (3 + i)
      rw [show 23 + i = 20 + (3 + i) by omega]
      exact g20 (3 + i) (by omega)
    · show va_Z RX2 "ALL" "[LCopperStreet$Kind;" (.ref (g 10)) _ s s.heap
      rw [g10]; exact zK
    · show va_T (.object RX2) (g 10) 3 (fun j => .ref (g j)) _ s s.heap
      rw [g10]; exact va_T_cg TK (fun i hi => congrArg Value.ref (g0 i hi))
    · show va_Z RX10 "ALL" "[LCopperStreet$Verb;" (.ref (g 11)) _ s s.heap
      rw [g11]; exact zV
    · show va_T (.object RX10) (g 11) 6 (fun j => .ref (g (3 + j))) _ s s.heap
      rw [g11]; exact va_T_cg TV (fun i hi => congrArg Value.ref (g3 i hi))
    · show va_Z "java/lang/Integer" "DigitOnes" "[B" (.ref (g 12)) _ s s.heap
      rw [g12]; exact z1
    · show va_T .byte (g 12) 100 (fun j => .int (dgO.getD j 0)) _ s s.heap
      rw [g12]; exact T1
    · show va_Z "java/lang/Integer" "DigitTens" "[B" (.ref (g 13)) _ s s.heap
      rw [g13]; exact z2
    · show va_T .byte (g 13) 100 (fun j => .int (dgT.getD j 0)) _ s s.heap
      rw [g13]; exact T2
    · show va_Z "jdk/internal/util/Preconditions" "SIOOBE_FORMATTER" "Ljava/util/function/BiFunction;" (if g 15 = 0 then .null else .ref (g 14)) _ s s.heap
      rw [g14, g15]; exact zF
  · have e' : g i = g j := e
    rw [g0 i hi, g0 j hj] at e'
    exact EK.2 i j hi hj e'
  · have e' : g (3 + i) = g (3 + j) := e
    rw [g3 i hi, g3 j hj] at e'
    exact EV.2 i j hi hj e'
