theorem Fr.sn {P : Nat → Prop} {h h' : Hp} {b : Nat} {x : va_E} (F : Fr P h h') (hb : P b ∨ h b = none) : Fr P h (hset h' b x) := fun a e k n => by
  rw [hset_n (fun q => by rcases hb with z | z; exact n (by rw [q]; exact z); rw [q, z] at k; cases k)]
  exact F a e k n
/-- the same, with the room told -/
def SBTm (G : Gl) (h : Hp) (a : Nat) (tx : List Int32) (b m : Nat) : Prop := ∃ (ml : Int32) (f : Nat → Int32), h a = some (.inr (0, [.ref b, .int 0, .int ml, .int (nI tx.length)])) ∧ h b = some (eB G m f) ∧ a ≠ b ∧ G.2.2.1 b ∧ tx.length ≤ m ∧ m ≤ 130 ∧ (∀ i, i < m → fits .byte (.int (f i)) = true) ∧ (∀ i, i < tx.length → f i = tx.getD i 0) ∧ ∀ i, nmU i → Ad G i ≠ b
theorem SBTm.t {G : Gl} {h : Hp} {a b m : Nat} {tx : List Int32} (T : SBTm G h a tx b m) : SBT G h a tx b := by obtain ⟨ml, f, k⟩ := T; exact ⟨m, ml, f, k⟩
theorem SBT.m {G : Gl} {h : Hp} {a b : Nat} {tx : List Int32} (T : SBT G h a tx b) : ∃ m, SBTm G h a tx b m := by obtain ⟨m, ml, f, k⟩ := T; exact ⟨m, ml, f, k⟩
theorem SBT.fr {G : Gl} {P : Nat → Prop} {h h' : Hp} {a b : Nat} {tx : List Int32} (T : SBT G h a tx b) (F : Fr P h h') (ha : ¬ P a) (hb : ¬ P b) : SBT G h' a tx b := by obtain ⟨m, ml, f, k1, k2, k⟩ := T; exact ⟨m, ml, f, F _ _ k1 ha, F _ _ k2 hb, k⟩
def ensP (G : Gl) (h : Hp) (a b : Nat) (tx : List Int32) (q : Nat) (h' : Hp) : Prop := ∃ b' m', SBTm G h' a tx b' m' ∧ q ≤ m' ∧ (b' = b ∨ h b' = none) ∧ Fr (fun x => x = a ∨ x = b) h h'
theorem chI_n (x : Int32) : narrow .char (.int (chI x)) = .int (chI x) := by
  simp only [narrow, chI]
  congr 1
  rw [← Int32.toInt_inj]
  simp
  rw [show ∀ y : UInt32, y % 65536 % 65536 = y % 65536 from fun y => by rw [← UInt32.toNat_inj]; simp]
theorem app_ok {tx : List Int32} {f g : Nat → Int32} (w : List Int32) (hf : ∀ i, i < tx.length → f i = tx.getD i 0) (h1 : ∀ i, i < tx.length → g i = f i) (h2 : ∀ j, j < w.length → g (tx.length + j) = w.getD j 0) : ∀ i, i < (tx ++ w).length → g i = (tx ++ w).getD i 0 := by
  intro i hi
  rw [List.length_append] at hi
  by_cases q : i < tx.length
  · rw [h1 i q, hf i q, List.getD_eq_getElem?_getD, List.getD_eq_getElem?_getD, List.getElem?_append_left q]
  · have e := h2 (i - tx.length) (by omega)
    rw [show tx.length + (i - tx.length) = i by omega] at e
    rw [e, List.getD_eq_getElem?_getD, List.getD_eq_getElem?_getD, List.getElem?_append_right (by omega)]
def dgs (w : Nat) : List Int32 := if w < 10 then [nI (48 + w)] else [nI (48 + w / 10), nI (48 + w % 10)]
def tsL (k : Nat) : List Int32 := stB.getD k []
theorem tsL_len : ∀ k, k < 12 → (tsL k).length = tsLen k := by decide +kernel
theorem ts_fit : ∀ k, k < 12 → ∀ j, j < tsLen k → fits .byte (.int (tsC k j)) = true ∧ 0 ≤ tsC k j ∧ tsC k j < 128 := by decide +kernel
theorem dg_ok : ∀ w, w < 100 → ¬ nI w < 0 ∧ -100 < -nI w ∧ - -nI w = nI w ∧ (w < 10 → -9 ≤ -nI w ∧ -10 < -nI w) ∧ (10 ≤ w → ¬ -9 ≤ -nI w ∧ ¬ -10 < -nI w) ∧ dgO.getD w 0 = nI (48 + w % 10) ∧ dgT.getD w 0 = nI (48 + w / 10) ∧ (nI (48 + w % 10)).toInt8.toInt32 = nI (48 + w % 10) ∧ (nI (48 + w / 10)).toInt8.toInt32 = nI (48 + w / 10) := by decide +kernel
theorem nI_m1 {p : Nat} (h : 1 ≤ p) : nI p + -1 = nI (p - 1) := by rw [show (-1 : Int32) = -(nI 1) from rfl, ← Int32.sub_eq_add_neg, nI_sub' h]
set_option maxRecDepth 100000 in
set_option maxHeartbeats 4000000 in
theorem ct_ensT_no {l : Launch} {G : Gl} {h : Hp} {a b m : Nat} {tx : List Int32} (T : SBTm G h a tx b m) (hA : G.2.2.1 a) (hAll : ∀ i, nmU i → h (Ad G i) ≠ none) {q : Nat} (hq : q ≤ m) : CtP l G mJ5_ensureCapacityInternal_d00df 3 (1) (130) [.ref a, .int (nI q)] h (none) (fun h' => ensP G h a b tx q h') := by
  have T0 := T
  obtain ⟨ml, f, ha, hb, hab, hB, hl, hm, hfit, hf, hAd⟩ := T
  refine Ct.of (L := [(0, _), (1, _)]) (by decide) (ble rfl) rfl ?_
  first | refine x_aload_n 0 dJ5_ensureCapacityInternal_d00df_0 rfl rfl ?_ | refine x_aload_nN 0 dJ5_ensureCapacityInternal_d00df_0 rfl rfl ?_
  refine x_get fJ5_15 rfl dJ5_ensureCapacityInternal_d00df_1 (by with_reducible repeat first | assumption | exact hset_s | refine hget_n (by first | assumption | exact Ne.symm (by assumption) | exact nA (by assumption) (by omega) (by omega) (by omega)) ?_) (by rfl) ?_
  refine x_alen 2 rfl dJ5_ensureCapacityInternal_d00df_4 (by with_reducible repeat first | assumption | exact hset_s | refine hget_n (by first | assumption | exact Ne.symm (by assumption) | exact nA (by assumption) (by omega) (by omega) (by omega)) ?_) (v := nI m) rfl ?_
  first | refine x_aload_n 0 dJ5_ensureCapacityInternal_d00df_5 rfl rfl ?_ | refine x_aload_nN 0 dJ5_ensureCapacityInternal_d00df_5 rfl rfl ?_
  refine x_get fJ5_22 rfl dJ5_ensureCapacityInternal_d00df_6 (by with_reducible repeat first | assumption | exact hset_s | refine hget_n (by first | assumption | exact Ne.symm (by assumption) | exact nA (by assumption) (by omega) (by omega) (by omega)) ?_) (by rfl) ?_
  refine x_ishr dJ5_ensureCapacityInternal_d00df_9 ?_
  rw [sb_shr0]
  refine x_istore_n (L' := [(2, _), (0, _), (1, _)]) dJ5_ensureCapacityInternal_d00df_10 rfl (ble rfl) rfl ?_
  refine x_iload_n 2 dJ5_ensureCapacityInternal_d00df_11 rfl rfl ?_
  refine x_iload_n 0 dJ5_ensureCapacityInternal_d00df_12 rfl rfl ?_
  refine x_isub dJ5_ensureCapacityInternal_d00df_13 ?_
  refine x_if_le 38 dJ5_ensureCapacityInternal_d00df_14 (by decide) (fun _ => ?_) (fun z => by first | exact absurd (sub_le0 hq (by omega)) z | exact absurd z (sub_le0 hq (by omega)))
  refine x_vret rfl dJ5_ensureCapacityInternal_d00df_38 ?_
  exact ⟨rfl, b, m, T0, hq, Or.inl rfl, Fr.rf⟩
theorem ct_ensT {l : Launch} {G : Gl} {h : Hp} {a b m : Nat} {tx : List Int32} (T : SBTm G h a tx b m) (hA : G.2.2.1 a) (hAll : ∀ i, nmU i → h (Ad G i) ≠ none) {q : Nat} (hq : q ≤ 64) : CtP l G mJ5_ensureCapacityInternal_d00df 3 1 130 [.ref a, .int (nI q)] h none (ensP G h a b tx q) := by
  by_cases q0 : q ≤ m
  · exact ct_ensT_no T hA hAll q0
  · obtain ⟨ml, f, ha, hb, hab, hB, hl, hm, hfit, hf, hAd⟩ := T
    refine (ct_ens_yes ha hb hab hA hB hfit (by omega) hq).mo rfl ?_
    rintro h' ⟨r, hr, hrA, rfl⟩
    have har : a ≠ r := fun e => by rw [e, hr] at ha; cases ha
    refine ⟨r, m + max (q - m) (m + 2), ⟨ml, _, hset_s, hget_n (Ne.symm har) hset_s, har, hrA, by omega, by omega, ?_, ?_, ?_⟩, by omega, Or.inr hr, (Fr.rf.sn (Or.inr hr)).sn (Or.inl (Or.inl rfl))⟩
    · intro i hi
      unfold va_cpy
      split
      · rw [Nat.zero_add]; exact hfit _ (by omega)
      · rfl
    · intro i hi
      unfold va_cpy
      rw [if_pos (by omega), Nat.zero_add, Nat.sub_zero]
      exact hf i hi
    · intro i hi e
      exact hAll i hi (by rw [e]; exact hr)
