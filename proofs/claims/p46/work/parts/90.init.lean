section CALC90
variable {l : Launch} {G : Gl} {M : MM} {rm : Room} {K : List Frame → Array Value → State → State → Prop} {Q : Option Value → Hp → Prop} {mc ms pc : Nat} {L L' : List (Nat × Value)} {st : List Value} {h h2 : Hp}
/-- another heap of which the machine holds too -/
theorem x_ren (hR : ∀ H, Rep G h H → Rep G h2 H) (kk : XX l G M rm K mc ms pc L st h2) : XX l G M rm K mc ms pc L st h :=
  fun p e s m args below meth c C H locs cells slots ls hr => kk p e s m args below meth c C H locs cells slots ls (hR H hr)
theorem arrV_cg {cI : ClassId} {N : Nat} {f g : Nat → Value} (h : ∀ i, i < N → f i = g i) : arrV cI N f = arrV cI N g := by
  unfold arrV
  congr 1
  apply Array.ext
  · simp
  · intro i h1 h2
    have hi : i < N := by simpa using h1
    simp [h i hi]
theorem Rep.ref {t n a : Nat} {f g : Nat → Option Nat} {H : Heap} (R : Rep G h H) (ha : h a = some (eR G t n f)) (e : ∀ i, i < n → f i = g i) : Rep G (hset h a (eR G t n g)) H := by
  intro x y hx
  by_cases q : x = a
  · subst q
    rw [hset_s] at hx
    cases hx
    have := R x _ ha
    show H[x]? = some (vp_cell (G.2.1 t) (n, .inr (.inr (.inr (.inr g)))))
    rw [vp_cell_q, ← arrV_cg (f := fun j => va_rf (f j)) (g := fun j => va_rf (g j)) (fun i hi => by rw [e i hi]), ← vp_cell_q]
    exact this
  · rw [hset_n q] at hx
    exact R x y hx
end CALC90
set_option maxRecDepth 100000 in
set_option maxHeartbeats 1000000 in
theorem ct_iSheet {l : Launch} {G : Gl} {h : Hp} {a : Nat} (ha : h a = some (eSheet 0 0 0 0)) (hA : G.2.2.1 a) : Ct l G mX7_init 1 (0) (0) [.ref a] h (fun w h' => w = none ∧ h' = h) := by
  refine Ct.of (L := [(0, _)]) (by decide) (ble rfl) rfl ?_
  first | refine x_aload_n 0 dX7_init_0 rfl rfl ?_ | refine x_aload_nN 0 dX7_init_0 rfl rfl ?_
  refine x_objInit rfl wX7_3 wObj2 wObj3 dX7_init_1 (ble rfl) (ble rfl) ?_
  first | refine x_aload_n 0 dX7_init_4 rfl rfl ?_ | refine x_aload_nN 0 dX7_init_4 rfl rfl ?_
  refine x_iconst (v := 0) dX7_init_5 rfl ?_
  refine x_put fX7_9 rfl rfl rfl rfl dX7_init_6 (by with_reducible repeat first | assumption | exact hset_s | refine hget_n (by first | assumption | exact Ne.symm (by assumption)) ?_) (by exact ble rfl) (by first | assumption | exact aA (by assumption) (by omega)) ?_
  first | refine x_aload_n 0 dX7_init_9 rfl rfl ?_ | refine x_aload_nN 0 dX7_init_9 rfl rfl ?_
  refine x_iconst (v := 0) dX7_init_10 rfl ?_
  refine x_putS fX7_15 rfl rfl rfl rfl dX7_init_11 (by exact ble rfl) (by first | assumption | exact aA (by assumption) (by omega)) ?_
  first | refine x_aload_n 0 dX7_init_14 rfl rfl ?_ | refine x_aload_nN 0 dX7_init_14 rfl rfl ?_
  refine x_iconst (v := 0) dX7_init_15 rfl ?_
  refine x_putS fX7_18 rfl rfl rfl rfl dX7_init_16 (by exact ble rfl) (by first | assumption | exact aA (by assumption) (by omega)) ?_
  first | refine x_aload_n 0 dX7_init_19 rfl rfl ?_ | refine x_aload_nN 0 dX7_init_19 rfl rfl ?_
  refine x_iconst (v := 0) dX7_init_20 rfl ?_
  refine x_putS fX7_21 rfl rfl rfl rfl dX7_init_21 (by exact ble rfl) (by first | assumption | exact aA (by assumption) (by omega)) ?_
  refine x_vret rfl dX7_init_24 ?_
  exact ⟨rfl, hset_self ha⟩
set_option maxRecDepth 100000 in
set_option maxHeartbeats 1000000 in
theorem ct_iPot {l : Launch} {G : Gl} {h : Hp} {a : Nat} (ha : h a = some (.inr (4, [.int 0, .null, .int 0, .int 0, .int 0, .int 0, .int 0, .int 0, .int 0]))) (hA : G.2.2.1 a) (n : Int32) : Ct l G mX4_init 1 (0) (0) [.ref a, .int n] h (fun w h' => w = none ∧ h' = hset h a (ePot G n 0 0 0 0 0 0 0 (-4))) := by
  refine Ct.of (L := [(0, _), (1, _)]) (by decide) (ble rfl) rfl ?_
  first | refine x_aload_n 0 dX4_init_0 rfl rfl ?_ | refine x_aload_nN 0 dX4_init_0 rfl rfl ?_
  refine x_objInit rfl wX4_3 wObj2 wObj3 dX4_init_1 (ble rfl) (ble rfl) ?_
  first | refine x_aload_n 0 dX4_init_4 rfl rfl ?_ | refine x_aload_nN 0 dX4_init_4 rfl rfl ?_
  refine x_gets (zK_st (k := 0) (by decide) rfl) rfl oX4_9 dX4_init_5 ?_
  refine x_put fX4_15 rfl rfl rfl rfl dX4_init_8 (by with_reducible repeat first | assumption | exact hset_s | refine hget_n (by first | assumption | exact Ne.symm (by assumption)) ?_) (by exact ble rfl) (by first | assumption | exact aA (by assumption) (by omega)) ?_
  first | refine x_aload_n 0 dX4_init_11 rfl rfl ?_ | refine x_aload_nN 0 dX4_init_11 rfl rfl ?_
  refine x_iconst (v := 0) dX4_init_12 rfl ?_
  refine x_putS fX4_20 rfl rfl rfl rfl dX4_init_13 (by exact ble rfl) (by first | assumption | exact aA (by assumption) (by omega)) ?_
  first | refine x_aload_n 0 dX4_init_16 rfl rfl ?_ | refine x_aload_nN 0 dX4_init_16 rfl rfl ?_
  refine x_iconst (v := 0) dX4_init_17 rfl ?_
  refine x_putS fX4_24 rfl rfl rfl rfl dX4_init_18 (by exact ble rfl) (by first | assumption | exact aA (by assumption) (by omega)) ?_
  first | refine x_aload_n 0 dX4_init_21 rfl rfl ?_ | refine x_aload_nN 0 dX4_init_21 rfl rfl ?_
  refine x_iconst (v := 0) dX4_init_22 rfl ?_
  refine x_putS fX4_27 rfl rfl rfl rfl dX4_init_23 (by exact ble rfl) (by first | assumption | exact aA (by assumption) (by omega)) ?_
  first | refine x_aload_n 0 dX4_init_26 rfl rfl ?_ | refine x_aload_nN 0 dX4_init_26 rfl rfl ?_
  refine x_iconst (v := 0) dX4_init_27 rfl ?_
  refine x_putS fX4_30 rfl rfl rfl rfl dX4_init_28 (by exact ble rfl) (by first | assumption | exact aA (by assumption) (by omega)) ?_
  first | refine x_aload_n 0 dX4_init_31 rfl rfl ?_ | refine x_aload_nN 0 dX4_init_31 rfl rfl ?_
  refine x_iconst (v := 0) dX4_init_32 rfl ?_
  refine x_putS fX4_33 rfl rfl rfl rfl dX4_init_33 (by exact ble rfl) (by first | assumption | exact aA (by assumption) (by omega)) ?_
  first | refine x_aload_n 0 dX4_init_36 rfl rfl ?_ | refine x_aload_nN 0 dX4_init_36 rfl rfl ?_
  refine x_iconst (v := 0) dX4_init_37 rfl ?_
  refine x_putS fX4_36 rfl rfl rfl rfl dX4_init_38 (by exact ble rfl) (by first | assumption | exact aA (by assumption) (by omega)) ?_
  first | refine x_aload_n 0 dX4_init_41 rfl rfl ?_ | refine x_aload_nN 0 dX4_init_41 rfl rfl ?_
  refine x_bipush (v := -4) dX4_init_42 rfl ?_
  refine x_putS fX4_39 rfl rfl rfl rfl dX4_init_44 (by exact ble rfl) (by first | assumption | exact aA (by assumption) (by omega)) ?_
  first | refine x_aload_n 0 dX4_init_47 rfl rfl ?_ | refine x_aload_nN 0 dX4_init_47 rfl rfl ?_
  refine x_iload_n 1 dX4_init_48 rfl rfl ?_
  refine x_putF fX4_42 rfl rfl rfl rfl rfl rfl dX4_init_49 (by with_reducible repeat first | assumption | exact hset_s | refine hget_n (by first | assumption | exact Ne.symm (by assumption)) ?_) (by exact ble rfl) (by first | assumption | exact aA (by assumption) (by omega)) ?_
  refine x_vret rfl dX4_init_52 ?_
  exact ⟨rfl, hset_2⟩
set_option maxRecDepth 100000 in
set_option maxHeartbeats 1000000 in
theorem ct_iOrd {l : Launch} {G : Gl} {h : Hp} {a : Nat} (ha : h a = some (.inr (3, [.null, .int 0, .int 0, .int 0, .int 0]))) (hA : G.2.2.1 a) : Ct l G mX3_init 1 (0) (0) [.ref a] h (fun w h' => w = none ∧ h' = hset h a (eOrd G 0 0 0 (-4) 0)) := by
  refine Ct.of (L := [(0, _)]) (by decide) (ble rfl) rfl ?_
  first | refine x_aload_n 0 dX3_init_0 rfl rfl ?_ | refine x_aload_nN 0 dX3_init_0 rfl rfl ?_
  refine x_objInit rfl wX3_3 wObj2 wObj3 dX3_init_1 (ble rfl) (ble rfl) ?_
  first | refine x_aload_n 0 dX3_init_4 rfl rfl ?_ | refine x_aload_nN 0 dX3_init_4 rfl rfl ?_
  refine x_gets (zK_st (k := 0) (by decide) rfl) rfl oX3_9 dX3_init_5 ?_
  refine x_put fX3_15 rfl rfl rfl rfl dX3_init_8 (by with_reducible repeat first | assumption | exact hset_s | refine hget_n (by first | assumption | exact Ne.symm (by assumption)) ?_) (by exact ble rfl) (by first | assumption | exact aA (by assumption) (by omega)) ?_
  first | refine x_aload_n 0 dX3_init_11 rfl rfl ?_ | refine x_aload_nN 0 dX3_init_11 rfl rfl ?_
  refine x_iconst (v := 0) dX3_init_12 rfl ?_
  refine x_putS fX3_20 rfl rfl rfl rfl dX3_init_13 (by exact ble rfl) (by first | assumption | exact aA (by assumption) (by omega)) ?_
  first | refine x_aload_n 0 dX3_init_16 rfl rfl ?_ | refine x_aload_nN 0 dX3_init_16 rfl rfl ?_
  refine x_iconst (v := 0) dX3_init_17 rfl ?_
  refine x_putS fX3_24 rfl rfl rfl rfl dX3_init_18 (by exact ble rfl) (by first | assumption | exact aA (by assumption) (by omega)) ?_
  first | refine x_aload_n 0 dX3_init_21 rfl rfl ?_ | refine x_aload_nN 0 dX3_init_21 rfl rfl ?_
  refine x_bipush (v := -4) dX3_init_22 rfl ?_
  refine x_putS fX3_27 rfl rfl rfl rfl dX3_init_24 (by exact ble rfl) (by first | assumption | exact aA (by assumption) (by omega)) ?_
  first | refine x_aload_n 0 dX3_init_27 rfl rfl ?_ | refine x_aload_nN 0 dX3_init_27 rfl rfl ?_
  refine x_iconst (v := 0) dX3_init_28 rfl ?_
  refine x_putS fX3_30 rfl rfl rfl rfl dX3_init_29 (by exact ble rfl) (by first | assumption | exact aA (by assumption) (by omega)) ?_
  refine x_vret rfl dX3_init_32 ?_
  exact ⟨rfl, rfl⟩
set_option maxRecDepth 100000 in
set_option maxHeartbeats 1000000 in
theorem ct_iReasons {l : Launch} {G : Gl} {h : Hp} {a : Nat} (ha : h a = some (.inr (5, [.null, .null, .int 0]))) (hA : G.2.2.1 a) : Ct l G mX5_init 1 (2) (6) [.ref a] h (fun w h' => w = none ∧ ∃ q3 q4, h q3 = none ∧ G.2.2.1 q3 ∧ h q4 = none ∧ G.2.2.1 q4 ∧ q3 ≠ q4 ∧ h' a = some (.inr (5, [.ref q3, .ref q4, .int 0])) ∧ h' q3 = some (eI G 3 (fun _ => 0)) ∧ h' q4 = some (eI G 3 (fun _ => 0)) ∧ Fr (fun x => x = a) h h') := by
  refine Ct.of (L := [(0, _)]) (by decide) (ble rfl) rfl ?_
  first | refine x_aload_n 0 dX5_init_0 rfl rfl ?_ | refine x_aload_nN 0 dX5_init_0 rfl rfl ?_
  refine x_objInit rfl wX5_3 wObj2 wObj3 dX5_init_1 (ble rfl) (ble rfl) ?_
  first | refine x_aload_n 0 dX5_init_4 rfl rfl ?_ | refine x_aload_nN 0 dX5_init_4 rfl rfl ?_
  refine x_iconst (v := 3) dX5_init_5 rfl ?_
  refine x_newa (ty := .int) 0 3 rfl rfl (List.mem_append_right _ (List.mem_of_getElem? (i := 68) (by decide +kernel))) rfl rfl rfl (by intro C0 hh; cases hh) (by decide) (by decide) dX5_init_6 (fun q3 zq3 gq3 => ?_)
  have n3 : a ≠ q3 := fun e => by rw [← e, ha] at zq3; cases zq3
  refine x_putF fX5_9 rfl rfl rfl rfl rfl rfl dX5_init_8 (by with_reducible repeat first | assumption | exact hset_s | refine hget_n (by first | assumption | exact Ne.symm (by assumption)) ?_) (by exact ble rfl) (by first | assumption | exact aA (by assumption) (by omega)) ?_
  first | refine x_aload_n 0 dX5_init_11 rfl rfl ?_ | refine x_aload_nN 0 dX5_init_11 rfl rfl ?_
  refine x_iconst (v := 3) dX5_init_12 rfl ?_
  refine x_newa (ty := .int) 0 3 rfl rfl (List.mem_append_right _ (List.mem_of_getElem? (i := 68) (by decide +kernel))) rfl rfl rfl (by intro C0 hh; cases hh) (by decide) (by decide) dX5_init_13 (fun q4 zq4 gq4 => ?_)
  have n4 : a ≠ q4 := fun e => by rw [← e, hset_s] at zq4; cases zq4
  have n34 : q3 ≠ q4 := fun e => by rw [← e, hset_n n3.symm, hset_s] at zq4; cases zq4
  have z4 : h q4 = none := by rw [hset_n n4.symm, hset_n n34.symm] at zq4; exact zq4
  refine x_putF fX5_15 rfl rfl rfl rfl rfl rfl dX5_init_15 (by with_reducible repeat first | assumption | exact hset_s | refine hget_n (by first | assumption | exact Ne.symm (by assumption)) ?_) (by exact ble rfl) (by first | assumption | exact aA (by assumption) (by omega)) ?_
  first | refine x_aload_n 0 dX5_init_18 rfl rfl ?_ | refine x_aload_nN 0 dX5_init_18 rfl rfl ?_
  refine x_iconst (v := 0) dX5_init_19 rfl ?_
  refine x_putS fX5_18 rfl rfl rfl rfl dX5_init_20 (by exact ble rfl) (by first | assumption | exact aA (by assumption) (by omega)) ?_
  refine x_vret rfl dX5_init_23 ?_
  exact ⟨rfl, q3, q4, zq3, gq3, z4, gq4, n34, by exact hset_s, by with_reducible repeat first | assumption | exact hset_s | refine hget_n (by first | assumption | exact Ne.symm (by assumption)) ?_, by with_reducible repeat first | assumption | exact hset_s | refine hget_n (by first | assumption | exact Ne.symm (by assumption)) ?_, fun x y hx nx => by have nx3 : x ≠ q3 := fun e => (by rw [e, zq3] at hx; cases hx); have nx4 : x ≠ q4 := fun e => (by rw [e, z4] at hx; cases hx); with_reducible repeat first | assumption | exact hset_s | refine hget_n (by first | assumption | exact Ne.symm (by assumption)) ?_⟩
set_option maxRecDepth 100000 in
set_option maxHeartbeats 1000000 in
theorem ct_iChimes {l : Launch} {G : Gl} {h : Hp} {a : Nat} (ha : h a = some (.inr (1, [.null, .int 0]))) (hA : G.2.2.1 a) : Ct l G mX0_init 1 (1) (16) [.ref a] h (fun w h' => w = none ∧ ∃ q8, h q8 = none ∧ G.2.2.1 q8 ∧ h' a = some (.inr (1, [.ref q8, .int 0])) ∧ h' q8 = some (eI G 16 (fun _ => 0)) ∧ Fr (fun x => x = a) h h') := by
  refine Ct.of (L := [(0, _)]) (by decide) (ble rfl) rfl ?_
  first | refine x_aload_n 0 dX0_init_0 rfl rfl ?_ | refine x_aload_nN 0 dX0_init_0 rfl rfl ?_
  refine x_objInit rfl wX0_3 wObj2 wObj3 dX0_init_1 (ble rfl) (ble rfl) ?_
  first | refine x_aload_n 0 dX0_init_4 rfl rfl ?_ | refine x_aload_nN 0 dX0_init_4 rfl rfl ?_
  refine x_bipush (v := 16) dX0_init_5 rfl ?_
  refine x_newa (ty := .int) 0 16 rfl rfl (List.mem_append_right _ (List.mem_of_getElem? (i := 68) (by decide +kernel))) rfl rfl rfl (by intro C0 hh; cases hh) (by decide) (by decide) dX0_init_7 (fun q8 zq8 gq8 => ?_)
  have n8 : a ≠ q8 := fun e => by rw [← e, ha] at zq8; cases zq8
  refine x_putF fX0_9 rfl rfl rfl rfl rfl rfl dX0_init_9 (by with_reducible repeat first | assumption | exact hset_s | refine hget_n (by first | assumption | exact Ne.symm (by assumption)) ?_) (by exact ble rfl) (by first | assumption | exact aA (by assumption) (by omega)) ?_
  first | refine x_aload_n 0 dX0_init_12 rfl rfl ?_ | refine x_aload_nN 0 dX0_init_12 rfl rfl ?_
  refine x_iconst (v := 0) dX0_init_13 rfl ?_
  refine x_putS fX0_15 rfl rfl rfl rfl dX0_init_14 (by exact ble rfl) (by first | assumption | exact aA (by assumption) (by omega)) ?_
  refine x_vret rfl dX0_init_17 ?_
  exact ⟨rfl, q8, zq8, gq8, by exact hset_s, by with_reducible repeat first | assumption | exact hset_s | refine hget_n (by first | assumption | exact Ne.symm (by assumption)) ?_, fun x y hx nx => by have nx8 : x ≠ q8 := fun e => (by rw [e, zq8] at hx; cases hx); with_reducible repeat first | assumption | exact hset_s | refine hget_n (by first | assumption | exact Ne.symm (by assumption)) ?_⟩
set_option maxRecDepth 100000 in
set_option maxHeartbeats 1000000 in
theorem ct_iASB {l : Launch} {G : Gl} {h : Hp} {a : Nat} (ha : h a = some (.inr (0, [.null, .int 0, .int 0, .int 0]))) (hA : G.2.2.1 a) : Ct l G mJ5_init_d00df 1 (1) (16) [.ref a, .int 16] h (fun w h' => w = none ∧ ∃ b, h b = none ∧ G.2.2.1 b ∧ h' a = some (.inr (0, [.ref b, .int 0, .int 0, .int 0])) ∧ h' b = some (eB G 16 (fun _ => 0)) ∧ Fr (fun x => x = a) h h') := by
  refine Ct.of (L := [(0, _), (1, _)]) (by decide) (ble rfl) rfl ?_
  first | refine x_aload_n 0 dJ5_init_d00df_0 rfl rfl ?_ | refine x_aload_nN 0 dJ5_init_d00df_0 rfl rfl ?_
  refine x_objInit rfl wJ5_3 wObj2 wObj3 dJ5_init_d00df_1 (ble rfl) (ble rfl) ?_
  refine x_gets zCS rfl oJ5_18 dJ5_init_d00df_4 ?_
  refine x_if_eq 25 dJ5_init_d00df_7 (by decide) (fun z => by first | exact absurd z (by decide) | exact absurd (by decide) z) (fun _ => ?_)
  first | refine x_aload_n 0 dJ5_init_d00df_10 rfl rfl ?_ | refine x_aload_nN 0 dJ5_init_d00df_10 rfl rfl ?_
  refine x_iload_n 1 dJ5_init_d00df_11 rfl rfl ?_
  refine x_newa (ty := .byte) 2 16 rfl rfl (List.mem_append_right _ (List.mem_of_getElem? (i := 293) (by decide +kernel))) rfl rfl rfl (by intro C0 hh; cases hh) (by decide) (by decide) dJ5_init_d00df_12 (fun b zb gb => ?_)
  have nb : a ≠ b := fun e => by rw [← e, ha] at zb; cases zb
  refine x_put fJ5_15 rfl rfl rfl rfl dJ5_init_d00df_14 (by with_reducible repeat first | assumption | exact hset_s | refine hget_n (by first | assumption | exact Ne.symm (by assumption)) ?_) (by exact ble rfl) (by first | assumption | exact aA (by assumption) (by omega)) ?_
  first | refine x_aload_n 0 dJ5_init_d00df_17 rfl rfl ?_ | refine x_aload_nN 0 dJ5_init_d00df_17 rfl rfl ?_
  refine x_iconst (v := 0) dJ5_init_d00df_18 rfl ?_
  refine x_putS fJ5_22 rfl rfl rfl rfl dJ5_init_d00df_19 (by exact ble rfl) (by first | assumption | exact aA (by assumption) (by omega)) ?_
  refine x_goto 38 dJ5_init_d00df_22 (by decide) ?_
  refine x_vret rfl dJ5_init_d00df_38 ?_
  exact ⟨rfl, b, zb, gb, by exact hset_s, by with_reducible repeat first | assumption | exact hset_s | refine hget_n (by first | assumption | exact Ne.symm (by assumption)) ?_, fun x y hx nx => by have nxb : x ≠ b := fun e => (by rw [e, zb] at hx; cases hx); with_reducible repeat first | assumption | exact hset_s | refine hget_n (by first | assumption | exact Ne.symm (by assumption)) ?_⟩
set_option maxRecDepth 100000 in
set_option maxHeartbeats 1000000 in
theorem ct_iSB {l : Launch} {G : Gl} {h : Hp} {a : Nat} (ha : h a = some (.inr (0, [.null, .int 0, .int 0, .int 0]))) (hA : G.2.2.1 a) : Ct l G mJ4_init_da8c8 2 (1) (16) [.ref a] h (fun w h' => w = none ∧ ∃ b, h b = none ∧ G.2.2.1 b ∧ h' a = some (.inr (0, [.ref b, .int 0, .int 0, .int 0])) ∧ h' b = some (eB G 16 (fun _ => 0)) ∧ Fr (fun x => x = a) h h') := by
  refine Ct.of (L := [(0, _)]) (by decide) (ble rfl) rfl ?_
  first | refine x_aload_n 0 dJ4_init_da8c8_0 rfl rfl ?_ | refine x_aload_nN 0 dJ4_init_da8c8_0 rfl rfl ?_
  refine x_bipush (v := 16) dJ4_init_da8c8_1 rfl ?_
  refine x_callI (mc1 := 0) (ms1 := 0) (As := [.int _]) (ct_iASB ha hA) vJ4_1 rfl rfl ⟨ble rfl, ble rfl⟩ (ble rfl) dJ4_init_da8c8_3 rfl ⟨by omega, by omega⟩ (fun w h1 q1 => ?_)
  obtain ⟨rfl, q1⟩ := q1
  refine x_vret rfl dJ4_init_da8c8_6 ?_
  exact ⟨rfl, q1⟩
