theorem SBP.rf {G : Gl} {h : Hp} {a b : Nat} {tx : List Int32} (T : SBT G h a tx b) : SBP G h a b tx h := ⟨b, T, Or.inl rfl, Fr.rf⟩
theorem SBT.at0 {G : Gl} {h : Hp} {a b : Nat} {tx : List Int32} (T : SBT G h a tx b) : ∃ ml, h a = some (.inr (0, [.ref b, .int 0, .int ml, .int (nI tx.length)])) := by obtain ⟨m, ml, f, k1, -⟩ := T; exact ⟨ml, k1⟩
theorem SBP.cell {G : Gl} {h h1 : Hp} {a b : Nat} {tx : List Int32} (S : SBP G h a b tx h1) : ∃ fs, h1 a = some (.inr (0, fs)) := by obtain ⟨b1, T, -⟩ := S; obtain ⟨ml, k⟩ := T.at0; exact ⟨_, k⟩
theorem SBP.get {G : Gl} {h h1 : Hp} {a b q : Nat} {x : va_E} {tx : List Int32} (S : SBP G h a b tx h1) (k : h q = some x) (n1 : q ≠ a) (n2 : q ≠ b) : h1 q = some x := by
  obtain ⟨b1, T, hb, F⟩ := S
  exact F q x k (fun z => z.elim n1 n2)
theorem SBP.tr {G : Gl} {h h1 h2 : Hp} {a b b1 : Nat} {tx tx2 : List Int32} (T1 : SBT G h1 a tx b1) (hb1 : b1 = b ∨ h b1 = none) (F1 : Fr (fun x => x = a ∨ x = b) h h1) (S2 : SBP G h1 a b1 tx2 h2) : SBP G h a b tx2 h2 := by
  obtain ⟨b2, T2, hb2, F2⟩ := S2
  obtain ⟨ml, ka⟩ := T1.at0
  refine ⟨b2, T2, ?_, fun q e k n => F2 q e (F1 q e k n) (fun z => ?_)⟩
  · rcases hb2 with e | e
    · rw [e]; exact hb1
    · by_cases q : b2 = b
      · exact Or.inl q
      · refine Or.inr ?_
        cases hc : h b2 with
        | none => rfl
        | some y =>
          exfalso
          have := F1 b2 y hc (fun z => by rcases z with z | z; rw [z, ka] at e; cases e; exact q z)
          rw [e] at this
          cases this
  · rcases z with z | z
    · exact n (Or.inl z)
    · rcases hb1 with y | y
      · exact n (Or.inr (z.trans y))
      · rw [z, y] at k; cases k
theorem SBP.all {G : Gl} {h h1 : Hp} {a b : Nat} {tx0 tx : List Int32} (T0 : SBT G h a tx0 b) (hAll : ∀ i, nmU i → h (Ad G i) ≠ none) (S : SBP G h a b tx h1) : ∀ i, nmU i → h1 (Ad G i) ≠ none := by
  intro i hi e
  obtain ⟨fs, kc⟩ := S.cell
  obtain ⟨b1, T, hb, F⟩ := S
  obtain ⟨m, ml, f, -, -, -, -, -, -, -, -, hAd⟩ := T0
  cases hc : h (Ad G i) with
  | none => exact hAll i hi hc
  | some y =>
    have := F _ y hc (fun z => by rcases z with z | z; rw [z, kc] at e; cases e; exact hAd i hi z)
    rw [e] at this
    cases this
section AP
variable {l : Launch} {G : Gl} {h h1 : Hp} {a b : Nat} {tx0 tx : List Int32}
theorem ap_c (hA : G.2.2.1 a) (hAll : ∀ i, nmU i → h (Ad G i) ≠ none) (T0 : SBT G h a tx0 b) (S : SBP G h a b tx h1) {c : Int32} (hc : 0 ≤ c ∧ c < 128) (hl : tx.length + 1 ≤ 64) : CtP l G mJ4_append_cf468 5 1 130 [.ref a, .int c] h1 (some (.ref a)) (SBP G h a b (tx ++ [c])) := by
  have hA2 := S.all T0 hAll
  obtain ⟨b1, T1, hb1, F1⟩ := S
  obtain ⟨m1, Tm⟩ := T1.m
  exact (ct_sb_c Tm hA hA2 hc hl).mo rfl (fun h2 S2 => SBP.tr T1 hb1 F1 S2)
theorem ap_s (hA : G.2.2.1 a) (hAll : ∀ i, nmU i → h (Ad G i) ≠ none) (T0 : SBT G h a tx0 b) (S : SBP G h a b tx h1) {k : Nat} (hk : k < 12) (hl : tx.length + tsLen k ≤ 64) : CtP l G mJ4_append_15ec4 6 1 130 [.ref a, .ref (G.2.2.2 (20 + k))] h1 (some (.ref a)) (SBP G h a b (tx ++ tsL k)) := by
  have hA2 := S.all T0 hAll
  obtain ⟨b1, T1, hb1, F1⟩ := S
  obtain ⟨m1, Tm⟩ := T1.m
  exact (ct_sb_s Tm hA hA2 hk hl).mo rfl (fun h2 S2 => SBP.tr T1 hb1 F1 S2)
theorem ap_i (hA : G.2.2.1 a) (hAll : ∀ i, nmU i → h (Ad G i) ≠ none) (T0 : SBT G h a tx0 b) (S : SBP G h a b tx h1) {w : Nat} (hw : w < 100) (hl : tx.length + 2 ≤ 64) : CtP l G mJ4_append_bf812 5 1 130 [.ref a, .int (nI w)] h1 (some (.ref a)) (SBP G h a b (tx ++ dgs w)) := by
  have hA2 := S.all T0 hAll
  obtain ⟨b1, T1, hb1, F1⟩ := S
  obtain ⟨m1, Tm⟩ := T1.m
  exact (ct_sb_i Tm hA hA2 hw hl).mo rfl (fun h2 S2 => SBP.tr T1 hb1 F1 S2)
end AP
/-- a pot's line, as far as it is written -/
def lnA (k n th : Nat) : List Int32 := ((([] ++ tsL k) ++ dgs n) ++ [58]) ++ dgs th
def lnB (k n th : Nat) (b : Int32) : List Int32 := lnA k n th ++ (if smoothK k b = 0 then [] else [42])
def lnC (k n th : Nat) (b : Int32) (t : Nat) : List Int32 := lnB k n th b ++ (if t = 0 then [] else [43] ++ dgs t)
def lnD (k n th : Nat) (b : Int32) (t : Nat) (g : Int32) : List Int32 := lnC k n th b t ++ (if crackedK k g b = 0 then [] else [33])
def lnE (k n th : Nat) (b : Int32) (t : Nat) (g m : Int32) : List Int32 := lnD k n th b t g ++ (if newK m = 0 then tsL 9 else [])
def lnF (k n th : Nat) (b : Int32) (t : Nat) (g m o : Int32) : List Int32 := lnE k n th b t g m ++ (if soldK o = 0 then [] else tsL 10)
theorem dgs_le (w : Nat) : (dgs w).length ≤ 2 := by rw [dgs_len]; split <;> omega
theorem tsL_le : ∀ k, k < 3 → (tsL k).length ≤ 8 ∧ tsLen k ≤ 8 := by decide +kernel
theorem lnA_le {k n th : Nat} (hk : k < 3) : (lnA k n th).length ≤ 13 := by
  have h1 := (tsL_le k hk).1
  have h2 := dgs_le n
  have h3 := dgs_le th
  unfold lnA
  simp only [List.length_append, List.length_nil, List.length_singleton]
  omega
theorem lnB_le {k n th : Nat} (hk : k < 3) {b : Int32} : (lnB k n th b).length ≤ 14 := by
  have := lnA_le (n := n) (th := th) hk
  unfold lnB
  rw [List.length_append]
  split <;> simp <;> omega
theorem lnC_le {k n th : Nat} (hk : k < 3) {b : Int32} {t : Nat} : (lnC k n th b t).length ≤ 17 := by
  have := lnB_le (n := n) (th := th) (b := b) hk
  have := dgs_le t
  unfold lnC
  rw [List.length_append]
  split <;> simp <;> omega
theorem lnD_le {k n th : Nat} (hk : k < 3) {b : Int32} {t : Nat} {g : Int32} : (lnD k n th b t g).length ≤ 18 := by
  have := lnC_le (n := n) (th := th) (b := b) (t := t) hk
  unfold lnD
  rw [List.length_append]
  split <;> simp <;> omega
theorem tsL9 : (tsL 9).length = 5 ∧ (tsL 10).length = 5 ∧ tsLen 9 = 5 ∧ tsLen 10 = 5 := by decide +kernel
theorem lnE_le {k n th : Nat} (hk : k < 3) {b : Int32} {t : Nat} {g m : Int32} : (lnE k n th b t g m).length ≤ 23 := by
  have := lnD_le (n := n) (th := th) (b := b) (t := t) (g := g) hk
  have := tsL9.1
  unfold lnE
  rw [List.length_append]
  split <;> simp <;> omega
theorem ck_a : ((0 : Int32) ≤ 58 ∧ (58 : Int32) < 128) ∧ ((0 : Int32) ≤ 42 ∧ (42 : Int32) < 128) ∧ ((0 : Int32) ≤ 43 ∧ (43 : Int32) < 128) ∧ ((0 : Int32) ≤ 33 ∧ (33 : Int32) < 128) := by decide
set_option maxRecDepth 100000 in
set_option maxHeartbeats 4000000 in
theorem ct_X4_writeTo {l : Launch} {G : Gl} {h : Hp} {n k tn th p a b : Nat} {sh g b9 r m o : Int32} (hp : h p = some (ePot G (nI n) k sh g b9 (nI tn) r m o)) (hk : k < 3) (hn : n < 16) (htn : tn ≤ 9) (hth : thickK k g b9 = nI th) (hth9 : th ≤ 9) (hpa : p ≠ a) (hpb : p ≠ b) (hA : G.2.2.1 a) (hAll : ∀ i, nmU i → h (Ad G i) ≠ none) (T0 : SBT G h a [] b) : CtP l G mX4_writeTo 8 (10) (1300) [.ref p, .ref a] h (none) (fun h' => SBP G h a b (lnF k n th b9 tn g m o) h') := by
  have S0 := SBP.rf T0
  refine Ct.of (L := [(0, _), (1, _)]) (by decide) (ble rfl) rfl ?_
  first | refine x_aload_n 1 dX4_writeTo_0 rfl rfl ?_ | refine x_aload_nN 1 dX4_writeTo_0 rfl rfl ?_
  first | refine x_aload_n 0 dX4_writeTo_1 rfl rfl ?_ | refine x_aload_nN 0 dX4_writeTo_1 rfl rfl ?_
  refine x_get fX4_15 rfl dX4_writeTo_2 (by with_reducible repeat first | assumption | exact hset_s | refine hget_n (by first | assumption | exact Ne.symm (by assumption) | exact nA (by assumption) (by omega) (by omega) (by omega)) ?_) (by rfl) ?_
  refine x_getO (zK_word (by assumption)) rfl oX4_98 dX4_writeTo_5 ?_
  refine x_pV1 (mc1 := 9) (ms1 := 1170) (As := [.ref _]) (ap_s hA hAll T0 S0 (k := k) (by omega) (by have := (tsL_le k hk).2; rw [List.length_nil]; omega)) vX4_102 rfl (x_recv S0.cell.choose_spec rfl) rfl ⟨ble rfl, ble rfl⟩ (ble rfl) dX4_writeTo_8 rfl ⟨by omega, by omega⟩ (fun h8 q8 => ?_)
  have hp_q8 := SBP.get q8 hp hpa hpb
  first | refine x_aload_n 0 dX4_writeTo_11 rfl rfl ?_ | refine x_aload_nN 0 dX4_writeTo_11 rfl rfl ?_
  refine x_get fX4_42 rfl dX4_writeTo_12 (by with_reducible repeat first | assumption | exact hset_s | refine hget_n (by first | assumption | exact Ne.symm (by assumption) | exact nA (by assumption) (by omega) (by omega) (by omega)) ?_) (by rfl) ?_
  refine x_pV1 (mc1 := 8) (ms1 := 1040) (As := [.int _]) (ap_i hA hAll T0 q8 (by omega) (by have := (tsL_le k hk).1; simp only [List.length_append, List.length_nil]; omega)) vX4_108 rfl (x_recv q8.cell.choose_spec rfl) rfl ⟨ble rfl, ble rfl⟩ (ble rfl) dX4_writeTo_15 rfl ⟨by omega, by omega⟩ (fun h15 q15 => ?_)
  have hp_q15 := SBP.get q15 hp hpa hpb
  refine x_bipush (v := 58) dX4_writeTo_18 rfl ?_
  refine x_pV1 (mc1 := 7) (ms1 := 910) (As := [.int _]) (ap_c hA hAll T0 q15 ck_a.1 (by have := (tsL_le k hk).1; have := dgs_le n; simp only [List.length_append, List.length_nil]; omega)) vX4_111 rfl (x_recv q15.cell.choose_spec rfl) rfl ⟨ble rfl, ble rfl⟩ (ble rfl) dX4_writeTo_20 rfl ⟨by omega, by omega⟩ (fun h20 q20 => ?_)
  have hp_q20 := SBP.get q20 hp hpa hpb
  first | refine x_aload_n 0 dX4_writeTo_23 rfl rfl ?_ | refine x_aload_nN 0 dX4_writeTo_23 rfl rfl ?_
  refine x_cV1 (As := []) (ct_X4_thickness (by with_reducible repeat first | assumption | exact hset_s | refine hget_n (by first | assumption | exact Ne.symm (by assumption) | exact nA (by assumption) (by omega) (by omega) (by omega)) ?_) (by assumption)) vX4_74 rfl (x_recv (by with_reducible repeat first | assumption | exact hset_s | refine hget_n (by first | assumption | exact Ne.symm (by assumption) | exact nA (by assumption) (by omega) (by omega) (by omega)) ?_) rfl) rfl ⟨ble rfl, ble rfl⟩ (ble rfl) dX4_writeTo_24 rfl ?_
  rw [hth]
  refine x_pV1 (mc1 := 6) (ms1 := 780) (As := [.int _]) (ap_i hA hAll T0 q20 (by omega) (by have := (tsL_le k hk).1; have := dgs_le n; simp only [List.length_append, List.length_nil, List.length_singleton]; omega)) vX4_108 rfl (x_recv q20.cell.choose_spec rfl) rfl ⟨ble rfl, ble rfl⟩ (ble rfl) dX4_writeTo_27 rfl ⟨by omega, by omega⟩ (fun h27 q27 => ?_)
  have hp_q27 := SBP.get q27 hp hpa hpb
  refine x_pop dX4_writeTo_30 rfl ?_
  have S30 : SBP G h a b (lnA k n th) h27 := q27
  have J45 : ∀ h1 : Hp, SBP G h a b (lnB k n th b9) h1 → XX l G mX4_writeTo (Rm 8 (10) (1300)) (KQ G (Rm 8 (10) (1300)) (fun w h' => w = none ∧ SBP G h a b (lnF k n th b9 tn g m o) h')) (5) (650) 45 [(0, .ref p), (1, .ref a)] [] h1 := by
    intro h1 S45
    have hp1 := SBP.get S45 hp hpa hpb
    first | refine x_aload_n 0 dX4_writeTo_45 rfl rfl ?_ | refine x_aload_nN 0 dX4_writeTo_45 rfl rfl ?_
    have J66 : ∀ h1 : Hp, SBP G h a b (lnC k n th b9 tn) h1 → XX l G mX4_writeTo (Rm 8 (10) (1300)) (KQ G (Rm 8 (10) (1300)) (fun w h' => w = none ∧ SBP G h a b (lnF k n th b9 tn g m o) h')) (3) (390) 66 [(0, .ref p), (1, .ref a)] [] h1 := by
      intro h1 S66
      have hp1 := SBP.get S66 hp hpa hpb
      first | refine x_aload_n 0 dX4_writeTo_66 rfl rfl ?_ | refine x_aload_nN 0 dX4_writeTo_66 rfl rfl ?_
      have J80 : ∀ h1 : Hp, SBP G h a b (lnD k n th b9 tn g) h1 → XX l G mX4_writeTo (Rm 8 (10) (1300)) (KQ G (Rm 8 (10) (1300)) (fun w h' => w = none ∧ SBP G h a b (lnF k n th b9 tn g m o) h')) (2) (260) 80 [(0, .ref p), (1, .ref a)] [] h1 := by
        intro h1 S80
        have hp1 := SBP.get S80 hp hpa hpb
        first | refine x_aload_n 0 dX4_writeTo_80 rfl rfl ?_ | refine x_aload_nN 0 dX4_writeTo_80 rfl rfl ?_
        have J94 : ∀ h1 : Hp, SBP G h a b (lnE k n th b9 tn g m) h1 → XX l G mX4_writeTo (Rm 8 (10) (1300)) (KQ G (Rm 8 (10) (1300)) (fun w h' => w = none ∧ SBP G h a b (lnF k n th b9 tn g m o) h')) (1) (130) 94 [(0, .ref p), (1, .ref a)] [] h1 := by
          intro h1 S94
          have hp1 := SBP.get S94 hp hpa hpb
          first | refine x_aload_n 0 dX4_writeTo_94 rfl rfl ?_ | refine x_aload_nN 0 dX4_writeTo_94 rfl rfl ?_
          have J108 : ∀ h1 : Hp, SBP G h a b (lnF k n th b9 tn g m o) h1 → XX l G mX4_writeTo (Rm 8 (10) (1300)) (KQ G (Rm 8 (10) (1300)) (fun w h' => w = none ∧ SBP G h a b (lnF k n th b9 tn g m o) h')) (0) (0) 108 [(0, .ref p), (1, .ref a)] [] h1 := by
            intro h1 S108
            have hp1 := SBP.get S108 hp hpa hpb
            refine x_vret rfl dX4_writeTo_108 ?_
            exact ⟨rfl, S108⟩
          refine x_cV1 (As := []) (ct_X4_isSold (by with_reducible repeat first | assumption | exact hset_s | refine hget_n (by first | assumption | exact Ne.symm (by assumption) | exact nA (by assumption) (by omega) (by omega) (by omega)) ?_)) vX4_119 rfl (x_recv (by with_reducible repeat first | assumption | exact hset_s | refine hget_n (by first | assumption | exact Ne.symm (by assumption) | exact nA (by assumption) (by omega) (by omega) (by omega)) ?_) rfl) rfl ⟨ble rfl, ble rfl⟩ (ble rfl) dX4_writeTo_95 rfl ?_
          refine x_if_eq 108 dX4_writeTo_98 (by decide) (fun c98 => ?_) (fun c98 => ?_)
          · refine x_locs (L' := [(0, _), (1, _)]) [0, 1] rfl ?_
            refine x_bud (mc' := 0) (ms' := 0) (by omega) (by omega) ?_
            refine J108 _ ?_
            unfold lnF
            first | (rw [if_neg (by assumption)]; exact q104) | (rw [if_pos (by assumption), List.append_nil]; exact S94)
          · first | refine x_aload_n 1 dX4_writeTo_101 rfl rfl ?_ | refine x_aload_nN 1 dX4_writeTo_101 rfl rfl ?_
            refine x_ldcS rfl (fun s hS => hS.2.2.2.2.1) dX4_writeTo_102 ?_
            refine x_pV1 (mc1 := 0) (ms1 := 0) (As := [.ref _]) (ap_s hA hAll T0 S94 (k := 10) (by omega) (by have := lnE_le (n := n) (th := th) (b := b9) (t := tn) (g := g) (m := m) hk; have := tsL9.2.2.2; omega)) vX4_102 rfl (x_recv S94.cell.choose_spec rfl) rfl ⟨ble rfl, ble rfl⟩ (ble rfl) dX4_writeTo_104 rfl ⟨by omega, by omega⟩ (fun h104 q104 => ?_)
            have hp_q104 := SBP.get q104 hp hpa hpb
            refine x_pop dX4_writeTo_107 rfl ?_
            refine x_locs (L' := [(0, _), (1, _)]) [0, 1] rfl ?_
            refine x_bud (mc' := 0) (ms' := 0) (by omega) (by omega) ?_
            refine J108 _ ?_
            unfold lnF
            first | (rw [if_neg (by assumption)]; exact q104) | (rw [if_pos (by assumption), List.append_nil]; exact S94)
        refine x_cV1 (As := []) (ct_X4_isNew (by with_reducible repeat first | assumption | exact hset_s | refine hget_n (by first | assumption | exact Ne.symm (by assumption) | exact nA (by assumption) (by omega) (by omega) (by omega)) ?_)) vX4_114 rfl (x_recv (by with_reducible repeat first | assumption | exact hset_s | refine hget_n (by first | assumption | exact Ne.symm (by assumption) | exact nA (by assumption) (by omega) (by omega) (by omega)) ?_) rfl) rfl ⟨ble rfl, ble rfl⟩ (ble rfl) dX4_writeTo_81 rfl ?_
        refine x_if_ne 94 dX4_writeTo_84 (by decide) (fun c84 => ?_) (fun c84 => ?_)
        · refine x_locs (L' := [(0, _), (1, _)]) [0, 1] rfl ?_
          refine x_bud (mc' := 1) (ms' := 130) (by omega) (by omega) ?_
          refine J94 _ ?_
          unfold lnE
          first | (rw [if_pos (by assumption)]; exact q90) | (rw [if_neg (by assumption), List.append_nil]; exact S80)
        · first | refine x_aload_n 1 dX4_writeTo_87 rfl rfl ?_ | refine x_aload_nN 1 dX4_writeTo_87 rfl rfl ?_
          refine x_ldcS rfl (fun s hS => hS.2.2.2.1) dX4_writeTo_88 ?_
          refine x_pV1 (mc1 := 1) (ms1 := 130) (As := [.ref _]) (ap_s hA hAll T0 S80 (k := 9) (by omega) (by have := lnD_le (n := n) (th := th) (b := b9) (t := tn) (g := g) hk; have := tsL9.2.2.1; omega)) vX4_102 rfl (x_recv S80.cell.choose_spec rfl) rfl ⟨ble rfl, ble rfl⟩ (ble rfl) dX4_writeTo_90 rfl ⟨by omega, by omega⟩ (fun h90 q90 => ?_)
          have hp_q90 := SBP.get q90 hp hpa hpb
          refine x_pop dX4_writeTo_93 rfl ?_
          refine x_locs (L' := [(0, _), (1, _)]) [0, 1] rfl ?_
          refine x_bud (mc' := 1) (ms' := 130) (by omega) (by omega) ?_
          refine J94 _ ?_
          unfold lnE
          first | (rw [if_pos (by assumption)]; exact q90) | (rw [if_neg (by assumption), List.append_nil]; exact S80)
      refine x_cV1 (As := []) (ct_X4_isCracked (by with_reducible repeat first | assumption | exact hset_s | refine hget_n (by first | assumption | exact Ne.symm (by assumption) | exact nA (by assumption) (by omega) (by omega) (by omega)) ?_) (by assumption)) vX4_87 rfl (x_recv (by with_reducible repeat first | assumption | exact hset_s | refine hget_n (by first | assumption | exact Ne.symm (by assumption) | exact nA (by assumption) (by omega) (by omega) (by omega)) ?_) rfl) rfl ⟨ble rfl, ble rfl⟩ (ble rfl) dX4_writeTo_67 rfl ?_
      refine x_if_eq 80 dX4_writeTo_70 (by decide) (fun c70 => ?_) (fun c70 => ?_)
      · refine x_locs (L' := [(0, _), (1, _)]) [0, 1] rfl ?_
        refine x_bud (mc' := 2) (ms' := 260) (by omega) (by omega) ?_
        refine J80 _ ?_
        unfold lnD
        first | (rw [if_neg (by assumption)]; exact q76) | (rw [if_pos (by assumption), List.append_nil]; exact S66)
      · first | refine x_aload_n 1 dX4_writeTo_73 rfl rfl ?_ | refine x_aload_nN 1 dX4_writeTo_73 rfl rfl ?_
        refine x_bipush (v := 33) dX4_writeTo_74 rfl ?_
        refine x_pV1 (mc1 := 2) (ms1 := 260) (As := [.int _]) (ap_c hA hAll T0 S66 ck_a.2.2.2 (by have := lnC_le (n := n) (th := th) (b := b9) (t := tn) hk; omega)) vX4_111 rfl (x_recv S66.cell.choose_spec rfl) rfl ⟨ble rfl, ble rfl⟩ (ble rfl) dX4_writeTo_76 rfl ⟨by omega, by omega⟩ (fun h76 q76 => ?_)
        have hp_q76 := SBP.get q76 hp hpa hpb
        refine x_pop dX4_writeTo_79 rfl ?_
        refine x_locs (L' := [(0, _), (1, _)]) [0, 1] rfl ?_
        refine x_bud (mc' := 2) (ms' := 260) (by omega) (by omega) ?_
        refine J80 _ ?_
        unfold lnD
        first | (rw [if_neg (by assumption)]; exact q76) | (rw [if_pos (by assumption), List.append_nil]; exact S66)
    refine x_get fX4_30 rfl dX4_writeTo_46 (by with_reducible repeat first | assumption | exact hset_s | refine hget_n (by first | assumption | exact Ne.symm (by assumption) | exact nA (by assumption) (by omega) (by omega) (by omega)) ?_) (by rfl) ?_
    refine x_if_le 66 dX4_writeTo_49 (by decide) (fun c49 => ?_) (fun c49 => ?_)
    · refine x_locs (L' := [(0, _), (1, _)]) [0, 1] rfl ?_
      refine x_bud (mc' := 3) (ms' := 390) (by omega) (by omega) ?_
      refine J66 _ ?_
      unfold lnC
      first | (rw [if_neg (fun z => c49 (by rw [z]; exact Int32.le_refl _)), ← List.append_assoc]; exact q62) | (rw [if_pos (Classical.not_not.mp fun z => nI_nle (n := tn) (by omega) (by omega) c49), List.append_nil]; exact S45)
    · first | refine x_aload_n 1 dX4_writeTo_52 rfl rfl ?_ | refine x_aload_nN 1 dX4_writeTo_52 rfl rfl ?_
      refine x_bipush (v := 43) dX4_writeTo_53 rfl ?_
      refine x_pV1 (mc1 := 4) (ms1 := 520) (As := [.int _]) (ap_c hA hAll T0 S45 ck_a.2.2.1 (by have := lnB_le (n := n) (th := th) (b := b9) hk; omega)) vX4_111 rfl (x_recv S45.cell.choose_spec rfl) rfl ⟨ble rfl, ble rfl⟩ (ble rfl) dX4_writeTo_55 rfl ⟨by omega, by omega⟩ (fun h55 q55 => ?_)
      have hp_q55 := SBP.get q55 hp hpa hpb
      first | refine x_aload_n 0 dX4_writeTo_58 rfl rfl ?_ | refine x_aload_nN 0 dX4_writeTo_58 rfl rfl ?_
      refine x_get fX4_30 rfl dX4_writeTo_59 (by with_reducible repeat first | assumption | exact hset_s | refine hget_n (by first | assumption | exact Ne.symm (by assumption) | exact nA (by assumption) (by omega) (by omega) (by omega)) ?_) (by rfl) ?_
      refine x_pV1 (mc1 := 3) (ms1 := 390) (As := [.int _]) (ap_i hA hAll T0 q55 (w := tn) (by omega) (by have := lnB_le (n := n) (th := th) (b := b9) hk; simp only [List.length_append, List.length_singleton]; omega)) vX4_108 rfl (x_recv q55.cell.choose_spec rfl) rfl ⟨ble rfl, ble rfl⟩ (ble rfl) dX4_writeTo_62 rfl ⟨by omega, by omega⟩ (fun h62 q62 => ?_)
      have hp_q62 := SBP.get q62 hp hpa hpb
      refine x_pop dX4_writeTo_65 rfl ?_
      refine x_locs (L' := [(0, _), (1, _)]) [0, 1] rfl ?_
      refine x_bud (mc' := 3) (ms' := 390) (by omega) (by omega) ?_
      refine J66 _ ?_
      unfold lnC
      first | (rw [if_neg (fun z => c49 (by rw [z]; exact Int32.le_refl _)), ← List.append_assoc]; exact q62) | (rw [if_pos (Classical.not_not.mp fun z => nI_nle (n := tn) (by omega) (by omega) c49), List.append_nil]; exact S45)
  first | refine x_aload_n 0 dX4_writeTo_31 rfl rfl ?_ | refine x_aload_nN 0 dX4_writeTo_31 rfl rfl ?_
  refine x_cV1 (As := []) (ct_X4_isSmooth (by with_reducible repeat first | assumption | exact hset_s | refine hget_n (by first | assumption | exact Ne.symm (by assumption) | exact nA (by assumption) (by omega) (by omega) (by omega)) ?_) (by assumption)) vX4_77 rfl (x_recv (by with_reducible repeat first | assumption | exact hset_s | refine hget_n (by first | assumption | exact Ne.symm (by assumption) | exact nA (by assumption) (by omega) (by omega) (by omega)) ?_) rfl) rfl ⟨ble rfl, ble rfl⟩ (ble rfl) dX4_writeTo_32 rfl ?_
  refine x_if_eq 45 dX4_writeTo_35 (by decide) (fun c35 => ?_) (fun c35 => ?_)
  · refine x_locs (L' := [(0, _), (1, _)]) [0, 1] rfl ?_
    refine x_bud (mc' := 5) (ms' := 650) (by omega) (by omega) ?_
    refine J45 _ ?_
    unfold lnB
    first | (rw [if_neg (by assumption)]; exact q41) | (rw [if_pos (by assumption), List.append_nil]; exact S30)
  · first | refine x_aload_n 1 dX4_writeTo_38 rfl rfl ?_ | refine x_aload_nN 1 dX4_writeTo_38 rfl rfl ?_
    refine x_bipush (v := 42) dX4_writeTo_39 rfl ?_
    refine x_pV1 (mc1 := 5) (ms1 := 650) (As := [.int _]) (ap_c hA hAll T0 S30 ck_a.2.1 (by have := lnA_le (n := n) (th := th)  hk; omega)) vX4_111 rfl (x_recv S30.cell.choose_spec rfl) rfl ⟨ble rfl, ble rfl⟩ (ble rfl) dX4_writeTo_41 rfl ⟨by omega, by omega⟩ (fun h41 q41 => ?_)
    have hp_q41 := SBP.get q41 hp hpa hpb
    refine x_pop dX4_writeTo_44 rfl ?_
    refine x_locs (L' := [(0, _), (1, _)]) [0, 1] rfl ?_
    refine x_bud (mc' := 5) (ms' := 650) (by omega) (by omega) ?_
    refine J45 _ ?_
    unfold lnB
    first | (rw [if_neg (by assumption)]; exact q41) | (rw [if_pos (by assumption), List.append_nil]; exact S30)
