theorem Gr.pw {a q : Nat} {h h1 : Hp} {e : va_E} (g : Gr a h h1) (z : h q = none) (n : a ≠ q) : Gr a h (hset h1 q e) := by
  refine ⟨fun y x hy ny => ?_, by rw [hset_n n]; exact g.2⟩
  rw [hset_n (none_ne (some_nn hy) z)]
  exact g.1 y x hy ny
def upS (nS : Nat → Nat → Nat) (s : Nat) (v : Nat → Nat) : Nat → Nat → Nat := fun x => if x = s then v else nS x
theorem upS_s (nS : Nat → Nat → Nat) (s : Nat) (v : Nat → Nat) : upS nS s v s = v := if_pos rfl
theorem upS_n {nS : Nat → Nat → Nat} {s x : Nat} {v : Nat → Nat} (h : x ≠ s) : upS nS s v x = nS x := if_neg h
/-- the history with s shops made -/
def HiB (G : Gl) (h0 : Hp) (a : Nat) (h : Hp) (q6 : Nat) (nS : Nat → Nat → Nat) (s : Nat) : Prop :=
  h a = some (.inr (2, [.ref q6, .int 0, .int 0])) ∧ (∃ f, h q6 = some (eR G 6 9 f) ∧ ∀ x, x < s → f x = some (nS x 0)) ∧ (∀ x, x < s → ShB G (nS x 0) h (nS x) 12 16 8) ∧ (∀ x y i j, x < s → y < s → okI i → okI j → nS x i = nS y j → x = y ∧ i = j) ∧
  (∀ x i, x < s → okI i → h0 (nS x i) = none ∧ G.2.2.1 (nS x i) ∧ h (nS x i) ≠ none ∧ nS x i ≠ q6) ∧ h0 q6 = none ∧ G.2.2.1 q6 ∧ a ≠ q6 ∧ Gr a h0 h
theorem HiB.st {G : Gl} {h0 h h1 : Hp} {a q6 q s : Nat} {nS : Nat → Nat → Nat} {nm : Nat → Nat} {f : Nat → Option Nat} (B : HiB G h0 a h q6 nS s) (zq : h q = none) (gq : G.2.2.1 q) (S : ShI G (hset h q (.inr (8, [.null, .null, .null, .null, .int 0, .int 0, .int 0, .int 0, .int 0, .int 0, .int 0, .int 0]))) q h1 nm 12 16 8) (hf : h q6 = some (eR G 6 9 f)) : HiB G h0 a (hset h1 q6 (eR G 6 9 (va_up f s (some q)))) q6 (upS nS s (nm0 nm q)) (s + 1) := by
  obtain ⟨c0, ⟨f1, c1, d1⟩, c2, c3, c4, c5, c6, na6, c7⟩ := B
  obtain rfl : f1 = f := by have := c1.symm.trans hf; simpa using this
  obtain ⟨⟨a1, a2⟩, a3, a4⟩ := S.all zq gq
  have z0q : h0 q = none := c7.non zq
  have n6q : q6 ≠ q := none_ne (some_nn hf) zq
  have naq : a ≠ q := none_ne c7.2 zq
  have Ft : Fr (fun x => x = q6) h (hset h1 q6 (eR G 6 9 (va_up f1 s (some q)))) := fun y x hy ny => by
    have n : y ≠ q := none_ne (some_nn hy) zq
    rw [hset_n ny]
    exact S.gr.1 y x (by rw [hset_n n]; exact hy) n
  have nv : ∀ i, okI i → nm0 nm q i ≠ q6 := fun i hi => (none_ne (some_nn hf) (a2 i hi).1).symm
  have nold : ∀ x i j, x < s → okI i → okI j → nS x i ≠ nm0 nm q j := fun x i j hx hi hj => none_ne (c4 x i hx hi).2.2.1 (a2 j hj).1
  have F6 : Fr (fun x => x = q6) h1 (hset h1 q6 (eR G 6 9 (va_up f1 s (some q)))) := Fr.rf.st rfl
  refine ⟨Ft a _ c0 na6, ⟨_, hset_s, fun x hx => ?_⟩, fun x hx => ?_, fun x y i j hx hy hi hj e => ?_, fun x i hx hi => ?_, c5, c6, na6, ((c7.new zq).sub S.gr z0q naq).pw c5 na6⟩
  · by_cases e : x = s
    · subst e; rw [va_up_self, upS_s, nm0_0]
    · rw [va_up_ne _ _ e, upS_n e]; exact d1 x (by omega)
  · by_cases e : x = s
    · subst e
      rw [upS_s, nm0_0]
      exact a4.fr F6 (fun z => n6q z.symm) (fun i hi => nv i (Us_okI hi).1)
    · rw [upS_n e]
      exact (c2 x (by omega)).fr Ft (c4 x 0 (by omega) (Or.inl (by omega))).2.2.2 (fun i hi => (c4 x i (by omega) (Us_okI hi).1).2.2.2)
  · by_cases ex : x = s
    · by_cases ey : y = s
      · rw [ex, ey, upS_s] at e
        exact ⟨by rw [ex, ey], a1 i j hi hj e⟩
      · rw [ex, upS_s, upS_n ey] at e
        exact absurd e.symm (nold y j i (by omega) hj hi)
    · by_cases ey : y = s
      · rw [ey, upS_s, upS_n ex] at e
        exact absurd e (nold x i j (by omega) hi hj)
      · rw [upS_n ex, upS_n ey] at e
        exact c3 x y i j (by omega) (by omega) hi hj e
  · by_cases ex : x = s
    · rw [ex, upS_s]
      exact ⟨c7.non (a2 i hi).1, (a2 i hi).2, by rw [hset_n (nv i hi)]; exact a3 i hi, nv i hi⟩
    · rw [upS_n ex]
      obtain ⟨b1, b2, b3, b4⟩ := c4 x i (by omega) hi
      refine ⟨b1, b2, ?_, b4⟩
      cases hh : h (nS x i) with
      | none => exact absurd hh b3
      | some y => rw [Ft _ y hh b4]; simp
def histU (q6 : Nat) (nS : Nat → Nat → Nat) : Nat → Nat := fun j => if j = 6 then q6 else nS (j / 100 - 1) (j % 100)
theorem histU_b {q6 : Nat} {nS : Nat → Nat → Nat} {s i : Nat} (hi : i < 100) : histU q6 nS (100 * (s + 1) + i) = nS s i := by
  unfold histU
  rw [if_neg (by omega), show (100 * (s + 1) + i) / 100 - 1 = s by omega, show (100 * (s + 1) + i) % 100 = i by omega]
theorem okI_lt {i : Nat} (h : okI i) : i < 58 := by unfold okI at h; omega
theorem hist_fin {G : Gl} {h0 h : Hp} {a q6 : Nat} {nS : Nat → Nat → Nat} (B : HiB G h0 a h q6 nS 9) : Frs G h0 U6 (histU q6 nS) ∧ (∀ i, U6 i → h (histU q6 nS i) ≠ none) ∧ h a = some (.inr (2, [.ref (histU q6 nS 6), .int 0, .int 0])) ∧ (∃ f, h (histU q6 nS 6) = some (eR G 6 9 f) ∧ ∀ x, x < 9 → f x = some (histU q6 nS (100 * (x + 1)))) ∧ (∀ x, x < 9 → ShB G (histU q6 nS (100 * (x + 1))) h (fun i => histU q6 nS (100 * (x + 1) + i)) 12 16 8) ∧ Gr a h0 h := by
  obtain ⟨c0, ⟨f, c1, d1⟩, c2, c3, c4, c5, c6, na6, c7⟩ := B
  have b0 : ∀ x, histU q6 nS (100 * (x + 1)) = nS x 0 := fun x => histU_b (i := 0) (by omega)
  have u6 : histU q6 nS 6 = q6 := rfl
  refine ⟨⟨fun i j hi hj e => ?_, fun i hi => ?_⟩, fun i hi => ?_, c0, ⟨f, c1, fun x hx => by rw [b0]; exact d1 x hx⟩, fun x hx => by rw [b0]; exact (c2 x hx).cg (fun i hi => histU_b (by have := okI_lt (Us_okI hi).1; omega)), c7⟩
  · rcases hi with rfl | ⟨s, x, hs, hx, rfl⟩
    · rcases hj with rfl | ⟨t, y, ht, hy, rfl⟩
      · rfl
      · rw [u6, histU_b (by have := okI_lt hy; omega)] at e
        exact absurd e.symm (c4 t y ht hy).2.2.2
    · rw [histU_b (by have := okI_lt hx; omega)] at e
      rcases hj with rfl | ⟨t, y, ht, hy, rfl⟩
      · rw [u6] at e
        exact absurd e (c4 s x hs hx).2.2.2
      · rw [histU_b (by have := okI_lt hy; omega)] at e
        obtain ⟨e1, e2⟩ := c3 s t x y hs ht hx hy e
        rw [e1, e2]
  · rcases hi with rfl | ⟨s, x, hs, hx, rfl⟩
    · exact ⟨c5, c6⟩
    · rw [histU_b (by have := okI_lt hx; omega)]
      exact ⟨(c4 s x hs hx).1, (c4 s x hs hx).2.1⟩
  · rcases hi with rfl | ⟨s, x, hs, hx, rfl⟩
    · rw [u6, c1]; simp
    · rw [histU_b (by have := okI_lt hx; omega)]
      exact (c4 s x hs hx).2.2.1
set_option maxRecDepth 100000 in
set_option maxHeartbeats 1000000 in
theorem hi_l {l : Launch} {G : Gl} {h0 : Hp} {a : Nat} (hA : G.2.2.1 a) {q6 : Nat} : ∀ (t i : Nat) (nS : Nat → Nat → Nat) (h : Hp), i + t = 9 → HiB G h0 a h q6 nS i → XX l G mX1_init (Rm 4 370 2673) (KQ G (Rm 4 370 2673) (fun w h' => w = none ∧ ∃ u, Frs G h0 U6 u ∧ (∀ i, U6 i → h' (u i) ≠ none) ∧ h' a = some (.inr (2, [.ref (u 6), .int 0, .int 0])) ∧ (∃ f, h' (u 6) = some (eR G 6 9 f) ∧ ∀ x, x < 9 → f x = some (u (100 * (x + 1)))) ∧ (∀ x, x < 9 → ShB G (u (100 * (x + 1))) h' (fun i => u (100 * (x + 1) + i)) 12 16 8) ∧ Gr a h0 h')) (t * 41) (t * 296) 25 [(1, .int (nI i)), (0, .ref a)] [] h
  | 0, i, nS, h, hi, B => by
    obtain rfl : i = 9 := by omega
    obtain ⟨c0, ⟨f, c1, d1⟩, -⟩ := id B
    refine x_iload_n 0 dX1_init_25 rfl rfl ?_
    first | refine x_aload_n 1 dX1_init_26 rfl rfl ?_ | refine x_aload_nN 1 dX1_init_26 rfl rfl ?_
    refine x_get fX1_11 rfl dX1_init_27 (by with_reducible repeat first | assumption | exact hset_s | refine hget_n (by first | assumption | exact Ne.symm (by assumption)) ?_) (by rfl) ?_
    refine x_alen 6 rfl dX1_init_30 c1 (v := nI 9) rfl ?_
    refine x_icmp_ge 53 dX1_init_31 (by decide) (fun _ => ?_) (fun z => by first | exact absurd (Int32.le_refl _) z | exact absurd z (Int32.le_refl _))
    refine x_vret rfl dX1_init_53 ?_
    exact ⟨rfl, _, hist_fin B⟩
  | t + 1, i, nS, h, hi, B => by
    have hi2 : i < 9 := by omega
    obtain ⟨c0, ⟨f, c1, d1⟩, -, -, -, -, g6, -⟩ := id B
    refine x_bud (mc' := (t * 41 + 40) + 1) (ms' := (t * 296 + 284) + 12) (by omega) (by omega) ?_
    refine x_iload_n 0 dX1_init_25 rfl rfl ?_
    first | refine x_aload_n 1 dX1_init_26 rfl rfl ?_ | refine x_aload_nN 1 dX1_init_26 rfl rfl ?_
    refine x_get fX1_11 rfl dX1_init_27 (by with_reducible repeat first | assumption | exact hset_s | refine hget_n (by first | assumption | exact Ne.symm (by assumption)) ?_) (by rfl) ?_
    refine x_alen 6 rfl dX1_init_30 c1 (v := nI 9) rfl ?_
    refine x_icmp_ge 53 dX1_init_31 (by decide) (fun z => by first | exact absurd z (nI_ge hi2 (by omega)) | exact absurd (nI_ge hi2 (by omega)) z) (fun _ => ?_)
    first | refine x_aload_n 1 dX1_init_34 rfl rfl ?_ | refine x_aload_nN 1 dX1_init_34 rfl rfl ?_
    refine x_get fX1_11 rfl dX1_init_35 (by with_reducible repeat first | assumption | exact hset_s | refine hget_n (by first | assumption | exact Ne.symm (by assumption)) ?_) (by rfl) ?_
    refine x_iload_n 0 dX1_init_38 rfl rfl ?_
    refine x_new (ci := 8) (fs := [.null, .null, .null, .null, .int 0, .int 0, .int 0, .int 0, .int 0, .int 0, .int 0, .int 0]) tyX8 inX8 tyX8_ok rfl rfl (List.mem_append_right _ (List.mem_of_getElem? (i := 231) (by decide +kernel))) (List.mem_append_right _ (List.mem_of_getElem? (i := 33) (by decide +kernel))) (List.mem_append_right _ (List.mem_of_getElem? (i := 3) (by decide +kernel))) (by intro j hj; rcases (show j = 0 ∨ j = 1 ∨ j = 2 ∨ j = 3 ∨ j = 4 ∨ j = 5 ∨ j = 6 ∨ j = 7 ∨ j = 8 ∨ j = 9 ∨ j = 10 ∨ j = 11 by omega) with rfl | rfl | rfl | rfl | rfl | rfl | rfl | rfl | rfl | rfl | rfl | rfl <;> rfl) dX1_init_39 (fun q zq gq => ?_)
    have n6q : q6 ≠ q := none_ne (some_nn c1) zq
    refine x_dup dX1_init_42 rfl ?_
    refine x_callI (mc1 := t * 41) (ms1 := t * 296) (As := []) (ct_iShop hset_s gq) vX1_24 rfl rfl ⟨ble rfl, ble rfl⟩ (ble rfl) dX1_init_43 rfl ⟨by omega, by omega⟩ (fun w h1 q1 => ?_)
    obtain ⟨rfl, nm, S⟩ := q1
    refine x_aast (T := TX8) (N0 := 12) 6 rfl dX1_init_46 (S.gr.1 q6 _ (hget_n n6q c1) n6q) S.1.1 rfl (vp_in_nI hi2 (by omega)) g6 ?_
    refine x_iinc (L' := [(1, _), (0, _)]) (j := 0) (nI (_ + 1)) dX1_init_47 rfl (nI_1 _) (ble rfl) rfl ?_
    refine x_goto 25 dX1_init_50 (by decide) ?_
    refine x_locs (L' := [(1, _), (0, _)]) [0, 1] rfl ?_
    rw [nI_clamp (by omega)]
    exact hi_l hA t (i + 1) _ _ (by omega) (B.st zq gq S c1)
set_option maxRecDepth 100000 in
set_option maxHeartbeats 1000000 in
theorem ct_iHistory {l : Launch} {G : Gl} {h : Hp} {a : Nat} (ha : h a = some (.inr (2, [.null, .int 0, .int 0]))) (hA : G.2.2.1 a) : Ct l G mX1_init 4 (370) (2673) [.ref a] h (fun w h' => w = none ∧ ∃ u, Frs G h U6 u ∧ (∀ i, U6 i → h' (u i) ≠ none) ∧ h' a = some (.inr (2, [.ref (u 6), .int 0, .int 0])) ∧ (∃ f, h' (u 6) = some (eR G 6 9 f) ∧ ∀ x, x < 9 → f x = some (u (100 * (x + 1)))) ∧ (∀ x, x < 9 → ShB G (u (100 * (x + 1))) h' (fun i => u (100 * (x + 1) + i)) 12 16 8) ∧ Gr a h h') := by
  refine Ct.of (L := [(0, _)]) (by decide) (ble rfl) rfl ?_
  first | refine x_aload_n 0 dX1_init_0 rfl rfl ?_ | refine x_aload_nN 0 dX1_init_0 rfl rfl ?_
  refine x_objInit rfl wX1_3 wObj2 wObj3 dX1_init_1 (ble rfl) (ble rfl) ?_
  first | refine x_aload_n 0 dX1_init_4 rfl rfl ?_ | refine x_aload_nN 0 dX1_init_4 rfl rfl ?_
  refine x_bipush (v := 9) dX1_init_5 rfl ?_
  refine x_newq 6 9 rfl rfl (List.mem_append_right _ (List.mem_of_getElem? (i := 231) (by decide +kernel))) (List.mem_append_right _ (List.mem_of_getElem? (i := 232) (by decide +kernel))) (by decide) (by decide) dX1_init_7 (fun q6 zq6 gq6 => ?_)
  have na6 : a ≠ q6 := none_ne (some_nn ha) zq6
  refine x_putF fX1_11 rfl rfl rfl rfl rfl rfl dX1_init_10 (by with_reducible repeat first | assumption | exact hset_s | refine hget_n (by first | assumption | exact Ne.symm (by assumption)) ?_) (by exact ble rfl) (by first | assumption | exact aA (by assumption) (by omega)) ?_
  first | refine x_aload_n 0 dX1_init_13 rfl rfl ?_ | refine x_aload_nN 0 dX1_init_13 rfl rfl ?_
  refine x_iconst (v := 0) dX1_init_14 rfl ?_
  refine x_putS fX1_17 rfl rfl rfl rfl dX1_init_15 (by exact ble rfl) (by first | assumption | exact aA (by assumption) (by omega)) ?_
  first | refine x_aload_n 0 dX1_init_18 rfl rfl ?_ | refine x_aload_nN 0 dX1_init_18 rfl rfl ?_
  refine x_iconst (v := 0) dX1_init_19 rfl ?_
  refine x_putS fX1_21 rfl rfl rfl rfl dX1_init_20 (by exact ble rfl) (by first | assumption | exact aA (by assumption) (by omega)) ?_
  refine x_iconst (v := 0) dX1_init_23 rfl ?_
  refine x_istore_n (L' := [(1, _), (0, _)]) dX1_init_24 rfl (ble rfl) rfl ?_
  refine x_locs (L' := [(1, .int (nI 0)), (0, .ref a)]) [0, 1] rfl ?_
  refine x_bud (mc' := 9 * 41) (ms' := 9 * 296) (by omega) (by omega) ?_
  exact hi_l hA 9 0 (fun _ _ => 0) _ (by omega) ⟨by exact hset_s, ⟨_, (show (_ : Hp) q6 = some (eR G 6 9 (fun _ => none)) by with_reducible repeat first | assumption | exact hset_s | refine hget_n (by first | assumption | exact Ne.symm (by assumption)) ?_), fun x hx => absurd hx (Nat.not_lt_zero x)⟩, fun x hx => absurd hx (Nat.not_lt_zero x), fun x _ _ _ hx => absurd hx (Nat.not_lt_zero x), fun x _ hx => absurd hx (Nat.not_lt_zero x), zq6, gq6, na6, ((Gr.rf (some_nn ha)).new zq6).put⟩
