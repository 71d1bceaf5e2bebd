theorem swt (x : Int32) (n : Nat) : (x.toInt < 0 ∨ (n : Int) < x.toInt) ∨ ∃ j : Nat, j ≤ n ∧ x = nI j := by
  rcases Classical.em (x.toInt < 0 ∨ (n : Int) < x.toInt) with h | h
  · exact Or.inl h
  · refine Or.inr ?_
    have h0 : ¬ x < 0 := fun z => h (Or.inl (by simpa using Int32.lt_iff_toInt_lt.mp z))
    obtain ⟨j, hj, e⟩ := nI_of h0
    refine ⟨j, ?_, e⟩
    have ht := nI_toInt hj
    rw [← e] at ht
    omega
theorem dn {P : Nat → Prop} {n : Nat} (hx : P n) (hs : ∀ i, i < n → P (i + 1) → P i) : P 0 := by
  have key : ∀ k, k ≤ n → P (n - k) := by
    intro k
    induction k with
    | zero => intro _; exact hx
    | succ k ih =>
      intro hk
      have h1 := ih (by omega)
      refine hs (n - (k + 1)) (by omega) ?_
      rw [show n - (k + 1) + 1 = n - k by omega]
      exact h1
  have := key n (Nat.le_refl n)
  rw [Nat.sub_self] at this
  exact this
def Ad (G : Gl) (i : Nat) : Nat := G.2.2.2 (100 + i)
def Ok (G : Gl) : Prop := (∀ i j : Nat, i < 3000 → j < 3000 → Ad G i = Ad G j → i = j) ∧ (∀ i : Nat, i < 3000 → G.2.2.1 (Ad G i)) ∧ (∀ i j : Nat, i < 3 → j < 3 → G.2.2.2 i = G.2.2.2 j → i = j) ∧ ∀ i j : Nat, i < 6 → j < 6 → G.2.2.2 (3 + i) = G.2.2.2 (3 + j) → i = j
theorem nA {G : Gl} (ok : Ok G) {i j : Nat} (hi : i < 3000) (hj : j < 3000) (n : i ≠ j) : Ad G i ≠ Ad G j := fun e => n (ok.1 i j hi hj e)
theorem aA {G : Gl} (ok : Ok G) {i : Nat} (hi : i < 3000) : G.2.2.1 (Ad G i) := ok.2.1 i hi
def tlP (k : Nat) (sh g b t m o x : Int32) : Int32 := if x = 0 then kNum k else if x = 1 then g else if x = 2 then thickK k g b else if x = 3 then b else if x = 4 then t else if x = 5 then m else if x = 6 then smoothK k b else if x = 7 then crackedK k g b else if x = 8 then o else if x = 9 then sh else -2
def tlO (k : Nat) (t p po pd x : Int32) : Int32 := if x = 0 then kNum k else if x = 1 then t else if x = 2 then p else if x = 3 then po else if x = 4 then pd else -2
def tlS (g fa ar ps x : Int32) : Int32 := if x = 0 then g else if x = 1 then ar else if x = 2 then ps else if x = 3 then fa else -2
def lackK (k k2 : Nat) (g b t m t2 : Int32) : Int32 := if ¬ k = k2 then 12 else if ¬ crackedK k g b = 0 then 5 else if smoothK k b = 0 then 6 else if t < tinK m t2 then 13 else 0
def goodK (k k2 : Nat) (g b t m o t2 : Int32) : Int32 := if ¬ soldK o = 0 then 0 else if ¬ lackK k k2 g b t m t2 = 0 then 0 else 1
set_option maxRecDepth 100000 in
set_option maxHeartbeats 4000000 in
theorem ct_X4_tell {l : Launch} {G : Gl} {h : Hp} {n sh g b t r m o : Int32} {k p : Nat} (hp : h p = some (ePot G n k sh g b t r m o)) (hk : k < 3) (x : Int32) : CtR l G mX4_tell 3 [.ref p, .int x] h (some (.int (tlP k sh g b t m o x))) (h) := by
  refine Ct.of (L := [(0, _), (1, _)]) (by decide) (ble rfl) rfl ?_
  refine x_iload_n 1 dX4_tell_0 rfl rfl ?_
  rcases swt x 9 with hx | ⟨j, hj, rfl⟩
  · refine x_tableOut 125 dX4_tell_1 hx (by decide) ?_
    refine x_bipush (v := -2) dX4_tell_125 rfl ?_
    refine x_iret rfl dX4_tell_127 ?_
    refine ⟨congrArg (fun z => some (Value.int z)) ?_, rfl⟩
    first | rfl | (unfold tlP; (try unfold smoothK at *); (try unfold crackedK at *); (repeat' split) <;> first | rfl | contradiction | (subst_vars; revert hx; decide) | (simp_all; done))
  · rcases (show j = 0 ∨ j = 1 ∨ j = 2 ∨ j = 3 ∨ j = 4 ∨ j = 5 ∨ j = 6 ∨ j = 7 ∨ j = 8 ∨ j = 9 by omega) with rfl | rfl | rfl | rfl | rfl | rfl | rfl | rfl | rfl | rfl
    · refine x_tableIn 56 dX4_tell_1 (by decide) (by decide) (by rfl) (by decide) ?_
      first | refine x_aload_n 0 dX4_tell_56 rfl rfl ?_ | refine x_aload_nN 0 dX4_tell_56 rfl rfl ?_
      refine x_get fX4_15 rfl dX4_tell_57 (by with_reducible repeat first | assumption | exact hset_s | refine hget_n (by first | assumption | exact Ne.symm (by assumption) | exact nA (by assumption) (by omega) (by omega) (by omega)) ?_) (by rfl) ?_
      refine x_getO (zK_number (by assumption)) rfl oX4_94 dX4_tell_60 ?_
      refine x_iret rfl dX4_tell_63 ?_
      refine ⟨congrArg (fun z => some (Value.int z)) ?_, rfl⟩
      first | rfl | (unfold tlP; (try unfold smoothK at *); (try unfold crackedK at *); (repeat' split) <;> first | rfl | contradiction | (subst_vars; revert hx; decide) | (simp_all; done))
    · refine x_tableIn 64 dX4_tell_1 (by decide) (by decide) (by rfl) (by decide) ?_
      first | refine x_aload_n 0 dX4_tell_64 rfl rfl ?_ | refine x_aload_nN 0 dX4_tell_64 rfl rfl ?_
      refine x_get fX4_24 rfl dX4_tell_65 (by with_reducible repeat first | assumption | exact hset_s | refine hget_n (by first | assumption | exact Ne.symm (by assumption) | exact nA (by assumption) (by omega) (by omega) (by omega)) ?_) (by rfl) ?_
      refine x_iret rfl dX4_tell_68 ?_
      refine ⟨congrArg (fun z => some (Value.int z)) ?_, rfl⟩
      first | rfl | (unfold tlP; (try unfold smoothK at *); (try unfold crackedK at *); (repeat' split) <;> first | rfl | contradiction | (subst_vars; revert hx; decide) | (simp_all; done))
    · refine x_tableIn 69 dX4_tell_1 (by decide) (by decide) (by rfl) (by decide) ?_
      first | refine x_aload_n 0 dX4_tell_69 rfl rfl ?_ | refine x_aload_nN 0 dX4_tell_69 rfl rfl ?_
      refine x_cV1 (As := []) (ct_X4_thickness (by with_reducible repeat first | assumption | exact hset_s | refine hget_n (by first | assumption | exact Ne.symm (by assumption) | exact nA (by assumption) (by omega) (by omega) (by omega)) ?_) (by assumption)) vX4_74 rfl (x_recv (by with_reducible repeat first | assumption | exact hset_s | refine hget_n (by first | assumption | exact Ne.symm (by assumption) | exact nA (by assumption) (by omega) (by omega) (by omega)) ?_) rfl) rfl ⟨ble rfl, ble rfl⟩ (ble rfl) dX4_tell_70 rfl ?_
      refine x_iret rfl dX4_tell_73 ?_
      refine ⟨congrArg (fun z => some (Value.int z)) ?_, rfl⟩
      first | rfl | (unfold tlP; (try unfold smoothK at *); (try unfold crackedK at *); (repeat' split) <;> first | rfl | contradiction | (subst_vars; revert hx; decide) | (simp_all; done))
    · refine x_tableIn 74 dX4_tell_1 (by decide) (by decide) (by rfl) (by decide) ?_
      first | refine x_aload_n 0 dX4_tell_74 rfl rfl ?_ | refine x_aload_nN 0 dX4_tell_74 rfl rfl ?_
      refine x_get fX4_27 rfl dX4_tell_75 (by with_reducible repeat first | assumption | exact hset_s | refine hget_n (by first | assumption | exact Ne.symm (by assumption) | exact nA (by assumption) (by omega) (by omega) (by omega)) ?_) (by rfl) ?_
      refine x_iret rfl dX4_tell_78 ?_
      refine ⟨congrArg (fun z => some (Value.int z)) ?_, rfl⟩
      first | rfl | (unfold tlP; (try unfold smoothK at *); (try unfold crackedK at *); (repeat' split) <;> first | rfl | contradiction | (subst_vars; revert hx; decide) | (simp_all; done))
    · refine x_tableIn 79 dX4_tell_1 (by decide) (by decide) (by rfl) (by decide) ?_
      first | refine x_aload_n 0 dX4_tell_79 rfl rfl ?_ | refine x_aload_nN 0 dX4_tell_79 rfl rfl ?_
      refine x_get fX4_30 rfl dX4_tell_80 (by with_reducible repeat first | assumption | exact hset_s | refine hget_n (by first | assumption | exact Ne.symm (by assumption) | exact nA (by assumption) (by omega) (by omega) (by omega)) ?_) (by rfl) ?_
      refine x_iret rfl dX4_tell_83 ?_
      refine ⟨congrArg (fun z => some (Value.int z)) ?_, rfl⟩
      first | rfl | (unfold tlP; (try unfold smoothK at *); (try unfold crackedK at *); (repeat' split) <;> first | rfl | contradiction | (subst_vars; revert hx; decide) | (simp_all; done))
    · refine x_tableIn 84 dX4_tell_1 (by decide) (by decide) (by rfl) (by decide) ?_
      first | refine x_aload_n 0 dX4_tell_84 rfl rfl ?_ | refine x_aload_nN 0 dX4_tell_84 rfl rfl ?_
      refine x_get fX4_36 rfl dX4_tell_85 (by with_reducible repeat first | assumption | exact hset_s | refine hget_n (by first | assumption | exact Ne.symm (by assumption) | exact nA (by assumption) (by omega) (by omega) (by omega)) ?_) (by rfl) ?_
      refine x_iret rfl dX4_tell_88 ?_
      refine ⟨congrArg (fun z => some (Value.int z)) ?_, rfl⟩
      first | rfl | (unfold tlP; (try unfold smoothK at *); (try unfold crackedK at *); (repeat' split) <;> first | rfl | contradiction | (subst_vars; revert hx; decide) | (simp_all; done))
    · refine x_tableIn 89 dX4_tell_1 (by decide) (by decide) (by rfl) (by decide) ?_
      first | refine x_aload_n 0 dX4_tell_89 rfl rfl ?_ | refine x_aload_nN 0 dX4_tell_89 rfl rfl ?_
      refine x_cV1 (As := []) (ct_X4_isSmooth (by with_reducible repeat first | assumption | exact hset_s | refine hget_n (by first | assumption | exact Ne.symm (by assumption) | exact nA (by assumption) (by omega) (by omega) (by omega)) ?_) (by assumption)) vX4_77 rfl (x_recv (by with_reducible repeat first | assumption | exact hset_s | refine hget_n (by first | assumption | exact Ne.symm (by assumption) | exact nA (by assumption) (by omega) (by omega) (by omega)) ?_) rfl) rfl ⟨ble rfl, ble rfl⟩ (ble rfl) dX4_tell_90 rfl ?_
      refine x_if_eq 100 dX4_tell_93 (by decide) (fun c93 => ?_) (fun c93 => ?_)
      · refine x_iconst (v := 0) dX4_tell_100 rfl ?_
        refine x_iret rfl dX4_tell_101 ?_
        refine ⟨congrArg (fun z => some (Value.int z)) ?_, rfl⟩
        first | rfl | (unfold tlP; (try unfold smoothK at *); (try unfold crackedK at *); (repeat' split) <;> first | rfl | contradiction | (subst_vars; revert hx; decide) | (simp_all; done))
      · refine x_iconst (v := 1) dX4_tell_96 rfl ?_
        refine x_goto 101 dX4_tell_97 (by decide) ?_
        refine x_iret rfl dX4_tell_101 ?_
        refine ⟨congrArg (fun z => some (Value.int z)) ?_, rfl⟩
        first | rfl | (unfold tlP; (try unfold smoothK at *); (try unfold crackedK at *); (repeat' split) <;> first | rfl | contradiction | (subst_vars; revert hx; decide) | (simp_all; done))
    · refine x_tableIn 102 dX4_tell_1 (by decide) (by decide) (by rfl) (by decide) ?_
      first | refine x_aload_n 0 dX4_tell_102 rfl rfl ?_ | refine x_aload_nN 0 dX4_tell_102 rfl rfl ?_
      refine x_cV1 (As := []) (ct_X4_isCracked (by with_reducible repeat first | assumption | exact hset_s | refine hget_n (by first | assumption | exact Ne.symm (by assumption) | exact nA (by assumption) (by omega) (by omega) (by omega)) ?_) (by assumption)) vX4_87 rfl (x_recv (by with_reducible repeat first | assumption | exact hset_s | refine hget_n (by first | assumption | exact Ne.symm (by assumption) | exact nA (by assumption) (by omega) (by omega) (by omega)) ?_) rfl) rfl ⟨ble rfl, ble rfl⟩ (ble rfl) dX4_tell_103 rfl ?_
      refine x_if_eq 113 dX4_tell_106 (by decide) (fun c106 => ?_) (fun c106 => ?_)
      · refine x_iconst (v := 0) dX4_tell_113 rfl ?_
        refine x_iret rfl dX4_tell_114 ?_
        refine ⟨congrArg (fun z => some (Value.int z)) ?_, rfl⟩
        first | rfl | (unfold tlP; (try unfold smoothK at *); (try unfold crackedK at *); (repeat' split) <;> first | rfl | contradiction | (subst_vars; revert hx; decide) | (simp_all; done))
      · refine x_iconst (v := 1) dX4_tell_109 rfl ?_
        refine x_goto 114 dX4_tell_110 (by decide) ?_
        refine x_iret rfl dX4_tell_114 ?_
        refine ⟨congrArg (fun z => some (Value.int z)) ?_, rfl⟩
        first | rfl | (unfold tlP; (try unfold smoothK at *); (try unfold crackedK at *); (repeat' split) <;> first | rfl | contradiction | (subst_vars; revert hx; decide) | (simp_all; done))
    · refine x_tableIn 115 dX4_tell_1 (by decide) (by decide) (by rfl) (by decide) ?_
      first | refine x_aload_n 0 dX4_tell_115 rfl rfl ?_ | refine x_aload_nN 0 dX4_tell_115 rfl rfl ?_
      refine x_get fX4_39 rfl dX4_tell_116 (by with_reducible repeat first | assumption | exact hset_s | refine hget_n (by first | assumption | exact Ne.symm (by assumption) | exact nA (by assumption) (by omega) (by omega) (by omega)) ?_) (by rfl) ?_
      refine x_iret rfl dX4_tell_119 ?_
      refine ⟨congrArg (fun z => some (Value.int z)) ?_, rfl⟩
      first | rfl | (unfold tlP; (try unfold smoothK at *); (try unfold crackedK at *); (repeat' split) <;> first | rfl | contradiction | (subst_vars; revert hx; decide) | (simp_all; done))
    · refine x_tableIn 120 dX4_tell_1 (by decide) (by decide) (by rfl) (by decide) ?_
      first | refine x_aload_n 0 dX4_tell_120 rfl rfl ?_ | refine x_aload_nN 0 dX4_tell_120 rfl rfl ?_
      refine x_get fX4_20 rfl dX4_tell_121 (by with_reducible repeat first | assumption | exact hset_s | refine hget_n (by first | assumption | exact Ne.symm (by assumption) | exact nA (by assumption) (by omega) (by omega) (by omega)) ?_) (by rfl) ?_
      refine x_iret rfl dX4_tell_124 ?_
      refine ⟨congrArg (fun z => some (Value.int z)) ?_, rfl⟩
      first | rfl | (unfold tlP; (try unfold smoothK at *); (try unfold crackedK at *); (repeat' split) <;> first | rfl | contradiction | (subst_vars; revert hx; decide) | (simp_all; done))
set_option maxRecDepth 100000 in
set_option maxHeartbeats 4000000 in
theorem ct_X3_tell {l : Launch} {G : Gl} {h : Hp} {t2 p2 po pd : Int32} {k2 q : Nat} (hq : h q = some (eOrd G k2 t2 p2 po pd)) (hk2 : k2 < 3) (x : Int32) : CtR l G mX3_tell 1 [.ref q, .int x] h (some (.int (tlO k2 t2 p2 po pd x))) (h) := by
  refine Ct.of (L := [(0, _), (1, _)]) (by decide) (ble rfl) rfl ?_
  refine x_iload_n 1 dX3_tell_0 rfl rfl ?_
  rcases swt x 4 with hx | ⟨j, hj, rfl⟩
  · refine x_tableOut 64 dX3_tell_1 hx (by decide) ?_
    refine x_bipush (v := -2) dX3_tell_64 rfl ?_
    refine x_iret rfl dX3_tell_66 ?_
    refine ⟨congrArg (fun z => some (Value.int z)) ?_, rfl⟩
    first | rfl | (unfold tlO; (try unfold smoothK at *); (try unfold crackedK at *); (repeat' split) <;> first | rfl | contradiction | (subst_vars; revert hx; decide) | (simp_all; done))
  · rcases (show j = 0 ∨ j = 1 ∨ j = 2 ∨ j = 3 ∨ j = 4 by omega) with rfl | rfl | rfl | rfl | rfl
    · refine x_tableIn 36 dX3_tell_1 (by decide) (by decide) (by rfl) (by decide) ?_
      first | refine x_aload_n 0 dX3_tell_36 rfl rfl ?_ | refine x_aload_nN 0 dX3_tell_36 rfl rfl ?_
      refine x_get fX3_15 rfl dX3_tell_37 (by with_reducible repeat first | assumption | exact hset_s | refine hget_n (by first | assumption | exact Ne.symm (by assumption) | exact nA (by assumption) (by omega) (by omega) (by omega)) ?_) (by rfl) ?_
      refine x_getO (zK_number (by assumption)) rfl oX3_45 dX3_tell_40 ?_
      refine x_iret rfl dX3_tell_43 ?_
      refine ⟨congrArg (fun z => some (Value.int z)) ?_, rfl⟩
      first | rfl | (unfold tlO; (try unfold smoothK at *); (try unfold crackedK at *); (repeat' split) <;> first | rfl | contradiction | (subst_vars; revert hx; decide) | (simp_all; done))
    · refine x_tableIn 44 dX3_tell_1 (by decide) (by decide) (by rfl) (by decide) ?_
      first | refine x_aload_n 0 dX3_tell_44 rfl rfl ?_ | refine x_aload_nN 0 dX3_tell_44 rfl rfl ?_
      refine x_get fX3_20 rfl dX3_tell_45 (by with_reducible repeat first | assumption | exact hset_s | refine hget_n (by first | assumption | exact Ne.symm (by assumption) | exact nA (by assumption) (by omega) (by omega) (by omega)) ?_) (by rfl) ?_
      refine x_iret rfl dX3_tell_48 ?_
      refine ⟨congrArg (fun z => some (Value.int z)) ?_, rfl⟩
      first | rfl | (unfold tlO; (try unfold smoothK at *); (try unfold crackedK at *); (repeat' split) <;> first | rfl | contradiction | (subst_vars; revert hx; decide) | (simp_all; done))
    · refine x_tableIn 49 dX3_tell_1 (by decide) (by decide) (by rfl) (by decide) ?_
      first | refine x_aload_n 0 dX3_tell_49 rfl rfl ?_ | refine x_aload_nN 0 dX3_tell_49 rfl rfl ?_
      refine x_get fX3_24 rfl dX3_tell_50 (by with_reducible repeat first | assumption | exact hset_s | refine hget_n (by first | assumption | exact Ne.symm (by assumption) | exact nA (by assumption) (by omega) (by omega) (by omega)) ?_) (by rfl) ?_
      refine x_iret rfl dX3_tell_53 ?_
      refine ⟨congrArg (fun z => some (Value.int z)) ?_, rfl⟩
      first | rfl | (unfold tlO; (try unfold smoothK at *); (try unfold crackedK at *); (repeat' split) <;> first | rfl | contradiction | (subst_vars; revert hx; decide) | (simp_all; done))
    · refine x_tableIn 54 dX3_tell_1 (by decide) (by decide) (by rfl) (by decide) ?_
      first | refine x_aload_n 0 dX3_tell_54 rfl rfl ?_ | refine x_aload_nN 0 dX3_tell_54 rfl rfl ?_
      refine x_get fX3_27 rfl dX3_tell_55 (by with_reducible repeat first | assumption | exact hset_s | refine hget_n (by first | assumption | exact Ne.symm (by assumption) | exact nA (by assumption) (by omega) (by omega) (by omega)) ?_) (by rfl) ?_
      refine x_iret rfl dX3_tell_58 ?_
      refine ⟨congrArg (fun z => some (Value.int z)) ?_, rfl⟩
      first | rfl | (unfold tlO; (try unfold smoothK at *); (try unfold crackedK at *); (repeat' split) <;> first | rfl | contradiction | (subst_vars; revert hx; decide) | (simp_all; done))
    · refine x_tableIn 59 dX3_tell_1 (by decide) (by decide) (by rfl) (by decide) ?_
      first | refine x_aload_n 0 dX3_tell_59 rfl rfl ?_ | refine x_aload_nN 0 dX3_tell_59 rfl rfl ?_
      refine x_get fX3_30 rfl dX3_tell_60 (by with_reducible repeat first | assumption | exact hset_s | refine hget_n (by first | assumption | exact Ne.symm (by assumption) | exact nA (by assumption) (by omega) (by omega) (by omega)) ?_) (by rfl) ?_
      refine x_iret rfl dX3_tell_63 ?_
      refine ⟨congrArg (fun z => some (Value.int z)) ?_, rfl⟩
      first | rfl | (unfold tlO; (try unfold smoothK at *); (try unfold crackedK at *); (repeat' split) <;> first | rfl | contradiction | (subst_vars; revert hx; decide) | (simp_all; done))
set_option maxRecDepth 100000 in
set_option maxHeartbeats 4000000 in
theorem ct_X7_tell {l : Launch} {G : Gl} {h : Hp} {g fa ar ps : Int32} {s : Nat} (hs : h s = some (eSheet g fa ar ps)) (x : Int32) : CtR l G mX7_tell 1 [.ref s, .int x] h (some (.int (tlS g fa ar ps x))) (h) := by
  refine Ct.of (L := [(0, _), (1, _)]) (by decide) (ble rfl) rfl ?_
  refine x_iload_n 1 dX7_tell_0 rfl rfl ?_
  rcases swt x 3 with hx | ⟨j, hj, rfl⟩
  · refine x_tableOut 52 dX7_tell_1 hx (by decide) ?_
    refine x_bipush (v := -2) dX7_tell_52 rfl ?_
    refine x_iret rfl dX7_tell_54 ?_
    refine ⟨congrArg (fun z => some (Value.int z)) ?_, rfl⟩
    first | rfl | (unfold tlS; (try unfold smoothK at *); (try unfold crackedK at *); (repeat' split) <;> first | rfl | contradiction | (subst_vars; revert hx; decide) | (simp_all; done))
  · rcases (show j = 0 ∨ j = 1 ∨ j = 2 ∨ j = 3 by omega) with rfl | rfl | rfl | rfl
    · refine x_tableIn 32 dX7_tell_1 (by decide) (by decide) (by rfl) (by decide) ?_
      first | refine x_aload_n 0 dX7_tell_32 rfl rfl ?_ | refine x_aload_nN 0 dX7_tell_32 rfl rfl ?_
      refine x_get fX7_9 rfl dX7_tell_33 (by with_reducible repeat first | assumption | exact hset_s | refine hget_n (by first | assumption | exact Ne.symm (by assumption) | exact nA (by assumption) (by omega) (by omega) (by omega)) ?_) (by rfl) ?_
      refine x_iret rfl dX7_tell_36 ?_
      refine ⟨congrArg (fun z => some (Value.int z)) ?_, rfl⟩
      first | rfl | (unfold tlS; (try unfold smoothK at *); (try unfold crackedK at *); (repeat' split) <;> first | rfl | contradiction | (subst_vars; revert hx; decide) | (simp_all; done))
    · refine x_tableIn 37 dX7_tell_1 (by decide) (by decide) (by rfl) (by decide) ?_
      first | refine x_aload_n 0 dX7_tell_37 rfl rfl ?_ | refine x_aload_nN 0 dX7_tell_37 rfl rfl ?_
      refine x_get fX7_18 rfl dX7_tell_38 (by with_reducible repeat first | assumption | exact hset_s | refine hget_n (by first | assumption | exact Ne.symm (by assumption) | exact nA (by assumption) (by omega) (by omega) (by omega)) ?_) (by rfl) ?_
      refine x_iret rfl dX7_tell_41 ?_
      refine ⟨congrArg (fun z => some (Value.int z)) ?_, rfl⟩
      first | rfl | (unfold tlS; (try unfold smoothK at *); (try unfold crackedK at *); (repeat' split) <;> first | rfl | contradiction | (subst_vars; revert hx; decide) | (simp_all; done))
    · refine x_tableIn 42 dX7_tell_1 (by decide) (by decide) (by rfl) (by decide) ?_
      first | refine x_aload_n 0 dX7_tell_42 rfl rfl ?_ | refine x_aload_nN 0 dX7_tell_42 rfl rfl ?_
      refine x_get fX7_21 rfl dX7_tell_43 (by with_reducible repeat first | assumption | exact hset_s | refine hget_n (by first | assumption | exact Ne.symm (by assumption) | exact nA (by assumption) (by omega) (by omega) (by omega)) ?_) (by rfl) ?_
      refine x_iret rfl dX7_tell_46 ?_
      refine ⟨congrArg (fun z => some (Value.int z)) ?_, rfl⟩
      first | rfl | (unfold tlS; (try unfold smoothK at *); (try unfold crackedK at *); (repeat' split) <;> first | rfl | contradiction | (subst_vars; revert hx; decide) | (simp_all; done))
    · refine x_tableIn 47 dX7_tell_1 (by decide) (by decide) (by rfl) (by decide) ?_
      first | refine x_aload_n 0 dX7_tell_47 rfl rfl ?_ | refine x_aload_nN 0 dX7_tell_47 rfl rfl ?_
      refine x_get fX7_15 rfl dX7_tell_48 (by with_reducible repeat first | assumption | exact hset_s | refine hget_n (by first | assumption | exact Ne.symm (by assumption) | exact nA (by assumption) (by omega) (by omega) (by omega)) ?_) (by rfl) ?_
      refine x_iret rfl dX7_tell_51 ?_
      refine ⟨congrArg (fun z => some (Value.int z)) ?_, rfl⟩
      first | rfl | (unfold tlS; (try unfold smoothK at *); (try unfold crackedK at *); (repeat' split) <;> first | rfl | contradiction | (subst_vars; revert hx; decide) | (simp_all; done))
set_option maxRecDepth 100000 in
set_option maxHeartbeats 4000000 in
theorem ct_X4_lackFor {l : Launch} {G : Gl} {h : Hp} {n sh g b t r m o : Int32} {k p : Nat} {t2 p2 po pd : Int32} {k2 q : Nat} (ok : Ok G) (hp : h p = some (ePot G n k sh g b t r m o)) (hk : k < 3) (hq : h q = some (eOrd G k2 t2 p2 po pd)) (hk2 : k2 < 3) : CtR l G mX4_lackFor 3 [.ref p, .ref q] h (some (.int (lackK k k2 g b t m t2))) (h) := by
  refine Ct.of (L := [(0, _), (1, _)]) (by decide) (ble rfl) rfl ?_
  first | refine x_aload_n 0 dX4_lackFor_0 rfl rfl ?_ | refine x_aload_nN 0 dX4_lackFor_0 rfl rfl ?_
  refine x_get fX4_15 rfl dX4_lackFor_1 (by with_reducible repeat first | assumption | exact hset_s | refine hget_n (by first | assumption | exact Ne.symm (by assumption) | exact nA (by assumption) (by omega) (by omega) (by omega)) ?_) (by rfl) ?_
  first | refine x_aload_n 1 dX4_lackFor_4 rfl rfl ?_ | refine x_aload_nN 1 dX4_lackFor_4 rfl rfl ?_
  refine x_get fX4_84 rfl dX4_lackFor_5 (by with_reducible repeat first | assumption | exact hset_s | refine hget_n (by first | assumption | exact Ne.symm (by assumption) | exact nA (by assumption) (by omega) (by omega) (by omega)) ?_) (by rfl) ?_
  refine x_acmp_eq 14 dX4_lackFor_8 (by decide) (fun c8 => ?_) (fun c8 => ?_)
  · first | refine x_aload_n 0 dX4_lackFor_14 rfl rfl ?_ | refine x_aload_nN 0 dX4_lackFor_14 rfl rfl ?_
    refine x_cV1 (As := []) (ct_X4_isCracked (by with_reducible repeat first | assumption | exact hset_s | refine hget_n (by first | assumption | exact Ne.symm (by assumption) | exact nA (by assumption) (by omega) (by omega) (by omega)) ?_) (by assumption)) vX4_87 rfl (x_recv (by with_reducible repeat first | assumption | exact hset_s | refine hget_n (by first | assumption | exact Ne.symm (by assumption) | exact nA (by assumption) (by omega) (by omega) (by omega)) ?_) rfl) rfl ⟨ble rfl, ble rfl⟩ (ble rfl) dX4_lackFor_15 rfl ?_
    refine x_if_eq 23 dX4_lackFor_18 (by decide) (fun c18 => ?_) (fun c18 => ?_)
    · first | refine x_aload_n 0 dX4_lackFor_23 rfl rfl ?_ | refine x_aload_nN 0 dX4_lackFor_23 rfl rfl ?_
      refine x_cV1 (As := []) (ct_X4_isSmooth (by with_reducible repeat first | assumption | exact hset_s | refine hget_n (by first | assumption | exact Ne.symm (by assumption) | exact nA (by assumption) (by omega) (by omega) (by omega)) ?_) (by assumption)) vX4_77 rfl (x_recv (by with_reducible repeat first | assumption | exact hset_s | refine hget_n (by first | assumption | exact Ne.symm (by assumption) | exact nA (by assumption) (by omega) (by omega) (by omega)) ?_) rfl) rfl ⟨ble rfl, ble rfl⟩ (ble rfl) dX4_lackFor_24 rfl ?_
      refine x_if_ne 33 dX4_lackFor_27 (by decide) (fun c27 => ?_) (fun c27 => ?_)
      · first | refine x_aload_n 0 dX4_lackFor_33 rfl rfl ?_ | refine x_aload_nN 0 dX4_lackFor_33 rfl rfl ?_
        refine x_get fX4_30 rfl dX4_lackFor_34 (by with_reducible repeat first | assumption | exact hset_s | refine hget_n (by first | assumption | exact Ne.symm (by assumption) | exact nA (by assumption) (by omega) (by omega) (by omega)) ?_) (by rfl) ?_
        first | refine x_aload_n 1 dX4_lackFor_37 rfl rfl ?_ | refine x_aload_nN 1 dX4_lackFor_37 rfl rfl ?_
        first | refine x_aload_n 0 dX4_lackFor_38 rfl rfl ?_ | refine x_aload_nN 0 dX4_lackFor_38 rfl rfl ?_
        refine x_cV1 (As := [.ref _]) (ct_X3_tinFor (by with_reducible repeat first | assumption | exact hset_s | refine hget_n (by first | assumption | exact Ne.symm (by assumption) | exact nA (by assumption) (by omega) (by omega) (by omega)) ?_) (by with_reducible repeat first | assumption | exact hset_s | refine hget_n (by first | assumption | exact Ne.symm (by assumption) | exact nA (by assumption) (by omega) (by omega) (by omega)) ?_)) vX4_90 rfl (x_recv (by with_reducible repeat first | assumption | exact hset_s | refine hget_n (by first | assumption | exact Ne.symm (by assumption) | exact nA (by assumption) (by omega) (by omega) (by omega)) ?_) rfl) rfl ⟨ble rfl, ble rfl⟩ (ble rfl) dX4_lackFor_39 rfl ?_
        refine x_icmp_ge 50 dX4_lackFor_42 (by decide) (fun c42 => ?_) (fun c42 => ?_)
        · refine x_iconst (v := 0) dX4_lackFor_50 rfl ?_
          refine x_iret rfl dX4_lackFor_51 ?_
          refine ⟨congrArg (fun z => some (Value.int z)) ?_, rfl⟩
          have hki : G.2.2.2 k = G.2.2.2 k2 ↔ k = k2 := ⟨fun e => ok.2.2.1 k k2 hk hk2 e, fun e => by rw [e]⟩
          simp only [hki] at *
          unfold lackK
          (repeat' split) <;> first | rfl | contradiction | (simp_all; done) | (exfalso; simp only [Int32.lt_iff_toInt_lt, Int32.le_iff_toInt_le] at *; omega)
        · refine x_bipush (v := 13) dX4_lackFor_45 rfl ?_
          refine x_goto 51 dX4_lackFor_47 (by decide) ?_
          refine x_iret rfl dX4_lackFor_51 ?_
          refine ⟨congrArg (fun z => some (Value.int z)) ?_, rfl⟩
          have hki : G.2.2.2 k = G.2.2.2 k2 ↔ k = k2 := ⟨fun e => ok.2.2.1 k k2 hk hk2 e, fun e => by rw [e]⟩
          simp only [hki] at *
          unfold lackK
          (repeat' split) <;> first | rfl | contradiction | (simp_all; done) | (exfalso; simp only [Int32.lt_iff_toInt_lt, Int32.le_iff_toInt_le] at *; omega)
      · refine x_bipush (v := 6) dX4_lackFor_30 rfl ?_
        refine x_iret rfl dX4_lackFor_32 ?_
        refine ⟨congrArg (fun z => some (Value.int z)) ?_, rfl⟩
        have hki : G.2.2.2 k = G.2.2.2 k2 ↔ k = k2 := ⟨fun e => ok.2.2.1 k k2 hk hk2 e, fun e => by rw [e]⟩
        simp only [hki] at *
        unfold lackK
        (repeat' split) <;> first | rfl | contradiction | (simp_all; done) | (exfalso; simp only [Int32.lt_iff_toInt_lt, Int32.le_iff_toInt_le] at *; omega)
    · refine x_iconst (v := 5) dX4_lackFor_21 rfl ?_
      refine x_iret rfl dX4_lackFor_22 ?_
      refine ⟨congrArg (fun z => some (Value.int z)) ?_, rfl⟩
      have hki : G.2.2.2 k = G.2.2.2 k2 ↔ k = k2 := ⟨fun e => ok.2.2.1 k k2 hk hk2 e, fun e => by rw [e]⟩
      simp only [hki] at *
      unfold lackK
      (repeat' split) <;> first | rfl | contradiction | (simp_all; done) | (exfalso; simp only [Int32.lt_iff_toInt_lt, Int32.le_iff_toInt_le] at *; omega)
  · refine x_bipush (v := 12) dX4_lackFor_11 rfl ?_
    refine x_iret rfl dX4_lackFor_13 ?_
    refine ⟨congrArg (fun z => some (Value.int z)) ?_, rfl⟩
    have hki : G.2.2.2 k = G.2.2.2 k2 ↔ k = k2 := ⟨fun e => ok.2.2.1 k k2 hk hk2 e, fun e => by rw [e]⟩
    simp only [hki] at *
    unfold lackK
    (repeat' split) <;> first | rfl | contradiction | (simp_all; done) | (exfalso; simp only [Int32.lt_iff_toInt_lt, Int32.le_iff_toInt_le] at *; omega)
set_option maxRecDepth 100000 in
set_option maxHeartbeats 4000000 in
theorem ct_X4_detailOf_12 {l : Launch} {G : Gl} {h : Hp} {n sh g b t r m o : Int32} {k p : Nat} {t2 p2 po pd : Int32} {k2 q : Nat} (hp : h p = some (ePot G n k sh g b t r m o)) (hk : k < 3) (hq : h q = some (eOrd G k2 t2 p2 po pd)) : CtR l G mX4_detailOf 3 [.ref p, .int 12, .ref q] h (some (.int (kNum k))) (h) := by
  refine Ct.of (L := [(0, _), (1, _), (2, _)]) (by decide) (ble rfl) rfl ?_
  refine x_iload_n 1 dX4_detailOf_0 rfl rfl ?_
  refine x_lookup 36 dX4_detailOf_1 (by decide) (by rfl) (by decide) ?_
  first | refine x_aload_n 0 dX4_detailOf_36 rfl rfl ?_ | refine x_aload_nN 0 dX4_detailOf_36 rfl rfl ?_
  refine x_get fX4_15 rfl dX4_detailOf_37 (by with_reducible repeat first | assumption | exact hset_s | refine hget_n (by first | assumption | exact Ne.symm (by assumption) | exact nA (by assumption) (by omega) (by omega) (by omega)) ?_) (by rfl) ?_
  refine x_getO (zK_number (by assumption)) rfl oX4_94 dX4_detailOf_40 ?_
  refine x_iret rfl dX4_detailOf_43 ?_
  exact ⟨rfl, rfl⟩
set_option maxRecDepth 100000 in
set_option maxHeartbeats 4000000 in
theorem ct_X4_detailOf_6 {l : Launch} {G : Gl} {h : Hp} {n sh g b t r m o : Int32} {k p : Nat} {t2 p2 po pd : Int32} {k2 q : Nat} (hp : h p = some (ePot G n k sh g b t r m o)) (hk : k < 3) (hq : h q = some (eOrd G k2 t2 p2 po pd)) : CtR l G mX4_detailOf 3 [.ref p, .int 6, .ref q] h (some (.int (mx (kSm k - b) 0))) (h) := by
  refine Ct.of (L := [(0, _), (1, _), (2, _)]) (by decide) (ble rfl) rfl ?_
  refine x_iload_n 1 dX4_detailOf_0 rfl rfl ?_
  refine x_lookup 44 dX4_detailOf_1 (by decide) (by rfl) (by decide) ?_
  first | refine x_aload_n 0 dX4_detailOf_44 rfl rfl ?_ | refine x_aload_nN 0 dX4_detailOf_44 rfl rfl ?_
  first | refine x_aload_n 0 dX4_detailOf_45 rfl rfl ?_ | refine x_aload_nN 0 dX4_detailOf_45 rfl rfl ?_
  refine x_get fX4_15 rfl dX4_detailOf_46 (by with_reducible repeat first | assumption | exact hset_s | refine hget_n (by first | assumption | exact Ne.symm (by assumption) | exact nA (by assumption) (by omega) (by omega) (by omega)) ?_) (by rfl) ?_
  refine x_getO (zK_smoothBlows (by assumption)) rfl oX4_45 dX4_detailOf_49 ?_
  refine x_cV1 (As := [.int _]) (ct_X4_blowsMissing (by with_reducible repeat first | assumption | exact hset_s | refine hget_n (by first | assumption | exact Ne.symm (by assumption) | exact nA (by assumption) (by omega) (by omega) (by omega)) ?_) _) vX4_95 rfl (x_recv (by with_reducible repeat first | assumption | exact hset_s | refine hget_n (by first | assumption | exact Ne.symm (by assumption) | exact nA (by assumption) (by omega) (by omega) (by omega)) ?_) rfl) rfl ⟨ble rfl, ble rfl⟩ (ble rfl) dX4_detailOf_52 rfl ?_
  refine x_iret rfl dX4_detailOf_55 ?_
  exact ⟨rfl, rfl⟩
set_option maxRecDepth 100000 in
set_option maxHeartbeats 4000000 in
theorem ct_X4_detailOf_13 {l : Launch} {G : Gl} {h : Hp} {n sh g b t r m o : Int32} {k p : Nat} {t2 p2 po pd : Int32} {k2 q : Nat} (hp : h p = some (ePot G n k sh g b t r m o)) (hk : k < 3) (hq : h q = some (eOrd G k2 t2 p2 po pd)) : CtR l G mX4_detailOf 3 [.ref p, .int 13, .ref q] h (some (.int (tinK m t2 - t))) (h) := by
  refine Ct.of (L := [(0, _), (1, _), (2, _)]) (by decide) (ble rfl) rfl ?_
  refine x_iload_n 1 dX4_detailOf_0 rfl rfl ?_
  refine x_lookup 56 dX4_detailOf_1 (by decide) (by rfl) (by decide) ?_
  first | refine x_aload_n 2 dX4_detailOf_56 rfl rfl ?_ | refine x_aload_nN 2 dX4_detailOf_56 rfl rfl ?_
  first | refine x_aload_n 0 dX4_detailOf_57 rfl rfl ?_ | refine x_aload_nN 0 dX4_detailOf_57 rfl rfl ?_
  refine x_cV1 (As := [.ref _]) (ct_X3_tinFor (by with_reducible repeat first | assumption | exact hset_s | refine hget_n (by first | assumption | exact Ne.symm (by assumption) | exact nA (by assumption) (by omega) (by omega) (by omega)) ?_) (by with_reducible repeat first | assumption | exact hset_s | refine hget_n (by first | assumption | exact Ne.symm (by assumption) | exact nA (by assumption) (by omega) (by omega) (by omega)) ?_)) vX4_90 rfl (x_recv (by with_reducible repeat first | assumption | exact hset_s | refine hget_n (by first | assumption | exact Ne.symm (by assumption) | exact nA (by assumption) (by omega) (by omega) (by omega)) ?_) rfl) rfl ⟨ble rfl, ble rfl⟩ (ble rfl) dX4_detailOf_58 rfl ?_
  first | refine x_aload_n 0 dX4_detailOf_61 rfl rfl ?_ | refine x_aload_nN 0 dX4_detailOf_61 rfl rfl ?_
  refine x_get fX4_30 rfl dX4_detailOf_62 (by with_reducible repeat first | assumption | exact hset_s | refine hget_n (by first | assumption | exact Ne.symm (by assumption) | exact nA (by assumption) (by omega) (by omega) (by omega)) ?_) (by rfl) ?_
  refine x_isub dX4_detailOf_65 ?_
  refine x_iret rfl dX4_detailOf_66 ?_
  exact ⟨rfl, rfl⟩
set_option maxRecDepth 100000 in
set_option maxHeartbeats 4000000 in
theorem ct_X4_detailOf_5 {l : Launch} {G : Gl} {h : Hp} {n sh g b t r m o : Int32} {k p : Nat} {t2 p2 po pd : Int32} {k2 q : Nat} (hp : h p = some (ePot G n k sh g b t r m o)) (hk : k < 3) (hq : h q = some (eOrd G k2 t2 p2 po pd)) : CtR l G mX4_detailOf 3 [.ref p, .int 5, .ref q] h (some (.int n)) (h) := by
  refine Ct.of (L := [(0, _), (1, _), (2, _)]) (by decide) (ble rfl) rfl ?_
  refine x_iload_n 1 dX4_detailOf_0 rfl rfl ?_
  refine x_lookup 67 dX4_detailOf_1 (by decide) (by rfl) (by decide) ?_
  first | refine x_aload_n 0 dX4_detailOf_67 rfl rfl ?_ | refine x_aload_nN 0 dX4_detailOf_67 rfl rfl ?_
  refine x_get fX4_42 rfl dX4_detailOf_68 (by with_reducible repeat first | assumption | exact hset_s | refine hget_n (by first | assumption | exact Ne.symm (by assumption) | exact nA (by assumption) (by omega) (by omega) (by omega)) ?_) (by rfl) ?_
  refine x_iret rfl dX4_detailOf_71 ?_
  exact ⟨rfl, rfl⟩
set_option maxRecDepth 100000 in
set_option maxHeartbeats 4000000 in
theorem ct_X8_isGood {l : Launch} {G : Gl} {h : Hp} {n sh g b t r m o : Int32} {k p : Nat} {t2 p2 po pd : Int32} {k2 q : Nat} {a : Nat} (ok : Ok G) (hp : h p = some (ePot G n k sh g b t r m o)) (hk : k < 3) (hq : h q = some (eOrd G k2 t2 p2 po pd)) (hk2 : k2 < 3) : CtR l G mX8_isGood 4 [.ref a, .ref p, .ref q] h (some (.int (goodK k k2 g b t m o t2))) (h) := by
  refine Ct.of (L := [(0, _), (1, _), (2, _)]) (by decide) (ble rfl) rfl ?_
  first | refine x_aload_n 1 dX8_isGood_0 rfl rfl ?_ | refine x_aload_nN 1 dX8_isGood_0 rfl rfl ?_
  refine x_cV1 (As := []) (ct_X4_isSold (by with_reducible repeat first | assumption | exact hset_s | refine hget_n (by first | assumption | exact Ne.symm (by assumption) | exact nA (by assumption) (by omega) (by omega) (by omega)) ?_)) vX8_101 rfl (x_recv (by with_reducible repeat first | assumption | exact hset_s | refine hget_n (by first | assumption | exact Ne.symm (by assumption) | exact nA (by assumption) (by omega) (by omega) (by omega)) ?_) rfl) rfl ⟨ble rfl, ble rfl⟩ (ble rfl) dX8_isGood_1 rfl ?_
  refine x_if_ne 19 dX8_isGood_4 (by decide) (fun c4 => ?_) (fun c4 => ?_)
  · refine x_iconst (v := 0) dX8_isGood_19 rfl ?_
    refine x_zret rfl (by first | rfl | (split <;> rfl) | (unfold b2i; split <;> rfl)) dX8_isGood_20 ?_
    refine ⟨congrArg (fun z => some (Value.int z)) ?_, rfl⟩
    unfold goodK
    (repeat' split) <;> first | rfl | contradiction | (simp_all; done) | (exfalso; simp only [Int32.lt_iff_toInt_lt, Int32.le_iff_toInt_le] at *; omega)
  · first | refine x_aload_n 1 dX8_isGood_7 rfl rfl ?_ | refine x_aload_nN 1 dX8_isGood_7 rfl rfl ?_
    first | refine x_aload_n 2 dX8_isGood_8 rfl rfl ?_ | refine x_aload_nN 2 dX8_isGood_8 rfl rfl ?_
    refine x_cV1 (As := [.ref _]) (ct_X4_lackFor (by assumption) (by with_reducible repeat first | assumption | exact hset_s | refine hget_n (by first | assumption | exact Ne.symm (by assumption) | exact nA (by assumption) (by omega) (by omega) (by omega)) ?_) (by assumption) (by with_reducible repeat first | assumption | exact hset_s | refine hget_n (by first | assumption | exact Ne.symm (by assumption) | exact nA (by assumption) (by omega) (by omega) (by omega)) ?_) (by assumption)) vX8_104 rfl (x_recv (by with_reducible repeat first | assumption | exact hset_s | refine hget_n (by first | assumption | exact Ne.symm (by assumption) | exact nA (by assumption) (by omega) (by omega) (by omega)) ?_) rfl) rfl ⟨ble rfl, ble rfl⟩ (ble rfl) dX8_isGood_9 rfl ?_
    refine x_if_ne 19 dX8_isGood_12 (by decide) (fun c12 => ?_) (fun c12 => ?_)
    · refine x_iconst (v := 0) dX8_isGood_19 rfl ?_
      refine x_zret rfl (by first | rfl | (split <;> rfl) | (unfold b2i; split <;> rfl)) dX8_isGood_20 ?_
      refine ⟨congrArg (fun z => some (Value.int z)) ?_, rfl⟩
      unfold goodK
      (repeat' split) <;> first | rfl | contradiction | (simp_all; done) | (exfalso; simp only [Int32.lt_iff_toInt_lt, Int32.le_iff_toInt_le] at *; omega)
    · refine x_iconst (v := 1) dX8_isGood_15 rfl ?_
      refine x_goto 20 dX8_isGood_16 (by decide) ?_
      refine x_zret rfl (by first | rfl | (split <;> rfl) | (unfold b2i; split <;> rfl)) dX8_isGood_20 ?_
      refine ⟨congrArg (fun z => some (Value.int z)) ?_, rfl⟩
      unfold goodK
      (repeat' split) <;> first | rfl | contradiction | (simp_all; done) | (exfalso; simp only [Int32.lt_iff_toInt_lt, Int32.le_iff_toInt_le] at *; omega)
