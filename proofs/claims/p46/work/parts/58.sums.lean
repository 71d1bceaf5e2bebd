/-! ===== the law: are the sums right ===== -/
theorem fit_e {N : Nat → Int32} {p j : Nat} (h : lackN N p j = 0) : crackedK (kOf (N (60 + 8 * p))) (N (61 + 8 * p)) (N (62 + 8 * p)) = 0 ∧ ¬ smoothK (kOf (N (60 + 8 * p))) (N (62 + 8 * p)) = 0 ∧ ¬ N (63 + 8 * p) < tinK (N (64 + 8 * p)) (N (189 + 5 * j)) := by
  unfold lackN lackK at h
  by_cases c1 : ¬ kOf (N (60 + 8 * p)) = kOf (N (188 + 5 * j))
  · rw [if_pos c1] at h; exact absurd h (by decide)
  rw [if_neg c1] at h
  by_cases c2 : ¬ crackedK (kOf (N (60 + 8 * p))) (N (61 + 8 * p)) (N (62 + 8 * p)) = 0
  · rw [if_pos c2] at h; exact absurd h (by decide)
  rw [if_neg c2] at h
  by_cases c3 : smoothK (kOf (N (60 + 8 * p))) (N (62 + 8 * p)) = 0
  · rw [if_pos c3] at h; exact absurd h (by decide)
  rw [if_neg c3] at h
  refine ⟨Classical.not_not.mp c2, c3, fun c4 => ?_⟩
  rw [if_pos c4] at h; exact absurd h (by decide)
theorem mx_l {a b c : Int32} (h : ¬ c < mx a b) : ¬ c < a ∧ ¬ c < b := by
  unfold mx at h
  by_cases q : a < b
  · rw [if_pos q] at h; exact ⟨fun z => h (Int32.lt_trans z q), h⟩
  · rw [if_neg q] at h
    exact ⟨h, fun z => h (Int32.lt_of_lt_of_le z (Int32.not_lt.mp q))⟩
theorem j6_e {a p s n : Int32} (h : a + s + n = 50 + p) : 30 + p - s - (n - 20) = a := by
  have e : p = a + s + n + -50 := by rw [h, show 50 + p + -50 = p + (50 + -50) by ac_rfl]; exact (Int32.add_zero p).symm
  have h1 : -(n - 20) = 20 + -n := by rw [Int32.neg_sub, Int32.sub_eq_add_neg]
  rw [Int32.sub_eq_add_neg, h1, Int32.sub_eq_add_neg, e, show 30 + (a + s + n + -50) + -s + (20 + -n) = a + (s + -s) + (n + -n) + (30 + -50 + 20) by ac_rfl, Int32.add_right_neg, Int32.add_right_neg, Int32.add_zero, Int32.add_zero]
  exact Int32.add_zero a
theorem j7_e {b u n : Int32} (h : b + u = n) : 20 + (n - 20) - u = b := by
  rw [← h, Int32.sub_eq_add_neg, Int32.sub_eq_add_neg, show 20 + (b + u + -20) + -u = b + (u + -u) + (20 + -20) by ac_rfl, Int32.add_right_neg, Int32.add_zero]
  exact Int32.add_zero b
theorem cop_e {N : Nat → Int32} {ns np : Nat} (J : J5 N ns np) : sm2 (fun i => kArea (kOf (N (60 + 8 * i))) * N (61 + 8 * i)) (sm (fun i => N (13 + 4 * i) * N (12 + 4 * i)) ns) np = sm (fun i => N (15 + 4 * i) * N (12 + 4 * i)) ns := by
  rw [sm2_e]; exact J
theorem nn_c {N : Nat → Int32} {ns np no : Nat} (R : RI N ns np no) : ¬ N 0 < 0 ∧ ¬ N 1 < 0 := by
  obtain ⟨⟨-, -, -, -, -, b4, -⟩, ⟨c, b, e0, e1, h⟩, -⟩ := R
  have := fcN_le N no
  rw [e0, e1]
  exact ⟨nI_pos (by omega), nI_pos (by omega)⟩
theorem sub_sub_n (a s : Int32) : a - (a - s) = s := by
  rw [Int32.sub_eq_add_neg, Int32.neg_sub, Int32.sub_eq_add_neg, show a + (s + -a) = s + (a + -a) by ac_rfl, Int32.add_right_neg, Int32.add_zero]
set_option maxRecDepth 100000 in
set_option maxHeartbeats 4000000 in
theorem as_i {l : Launch} {G : Gl} {h : Hp} {N : Nat → Int32} {ns np no : Nat} (ok : Ok G) (C : Cs G h N ns np no) (R : RI N ns np no) (J : RJ N ns np no) {t : Nat} (ht : t < ns) (kk : XX l G mL_areSumsRight (Rm 8 0 0) (KQ G (Rm 8 0 0) (fun w h' => w = some (.int 1) ∧ h' = h)) 0 0 157 [(7, .int (sm (usC N t) (np))), (6, .int (sm (usK N t) (np))), (5, .int (nI (t))), (4, .int 1), (3, .int 0), (2, .int 0), (1, .int (sm (fun i => N (12 + 4 * i) * N (15 + 4 * i)) (t))), (0, .ref (Ad G 0))] [] h) : ∀ (n p : Nat), p + n = np → XX l G mL_areSumsRight (Rm 8 0 0) (KQ G (Rm 8 0 0) (fun w h' => w = some (.int 1) ∧ h' = h)) 0 0 86 [(8, .int (nI (p))), (7, .int (sm (usC N t) (p))), (6, .int (sm (usK N t) (p))), (5, .int (nI (t))), (4, .int 1), (3, .int 0), (2, .int 0), (1, .int (sm (fun i => N (12 + 4 * i) * N (15 + 4 * i)) (t))), (0, .ref (Ad G 0))] [] h
  | 0, p, hp => by
    obtain rfl : p = np := by omega
    refine x_iload 0 dL_areSumsRight_86 rfl ?_
    first | refine x_aload_n 8 dL_areSumsRight_88 rfl rfl ?_ | refine x_aload_nN 8 dL_areSumsRight_88 rfl rfl ?_
    refine x_iconst (v := 3) dL_areSumsRight_89 rfl ?_
    refine x_cV1 (As := [.int _]) (q_ac3n ok C) vL_28 rfl (x_rcC C) rfl ⟨ble rfl, ble rfl⟩ (ble rfl) dL_areSumsRight_90 rfl ?_
    refine x_icmp_ge 157 dL_areSumsRight_93 (by decide) (fun _ => ?_) (fun z => by first | exact absurd (Int32.le_refl _) z | exact absurd z (Int32.le_refl _))
    refine x_locs (L' := [(7, _), (6, _), (5, _), (4, _), (3, _), (2, _), (1, _), (0, _)]) [1, 2, 3, 4, 5, 6, 7, 8] rfl ?_
    exact kk
  | n + 1, p, hp => by
    have hi : p < np := by omega
    have b3 := C.nn.2.2.2.2.1
    have pk3 := (R.1.2.2.2.2.2.2.1 p hi).1.2
    refine x_iload 0 dL_areSumsRight_86 rfl ?_
    first | refine x_aload_n 8 dL_areSumsRight_88 rfl rfl ?_ | refine x_aload_nN 8 dL_areSumsRight_88 rfl rfl ?_
    refine x_iconst (v := 3) dL_areSumsRight_89 rfl ?_
    refine x_cV1 (As := [.int _]) (q_ac3n ok C) vL_28 rfl (x_rcC C) rfl ⟨ble rfl, ble rfl⟩ (ble rfl) dL_areSumsRight_90 rfl ?_
    refine x_icmp_ge 157 dL_areSumsRight_93 (by decide) (fun z => by first | exact absurd z (nI_ge hi (by omega)) | exact absurd (nI_ge hi (by omega)) z) (fun _ => ?_)
    refine x_iload 2 dL_areSumsRight_96 rfl ?_
    first | refine x_aload_n 8 dL_areSumsRight_98 rfl rfl ?_ | refine x_aload_nN 8 dL_areSumsRight_98 rfl rfl ?_
    refine x_iload 0 dL_areSumsRight_99 rfl ?_
    refine x_bipush (v := 9) dL_areSumsRight_101 rfl ?_
    refine x_cV1 (As := [.int _, .int _]) (q_pt9 ok C (by assumption)) vL_66 rfl (x_rcC C) rfl ⟨ble rfl, ble rfl⟩ (ble rfl) dL_areSumsRight_103 rfl ?_
    refine x_iload 3 dL_areSumsRight_106 rfl ?_
    have J125 : ∀ (v : Int32), v = usK N t p → XX l G mL_areSumsRight (Rm 8 0 0) (KQ G (Rm 8 0 0) (fun w h' => w = some (.int 1) ∧ h' = h)) 0 0 125 [(8, .int (nI p)), (7, .int (sm (usC N t) p)), (5, .int (nI t)), (4, .int 1), (3, .int 0), (2, .int 0), (1, .int (sm (fun i => N (12 + 4 * i) * N (15 + 4 * i)) t)), (0, .ref (Ad G 0))] [.int v, .int (sm (usK N t) p)] h := by
      intro v ev
      subst ev
      refine x_iadd dL_areSumsRight_125 ?_
      refine x_istore (L' := [(6, _), (8, _), (7, _), (5, _), (4, _), (3, _), (2, _), (1, _), (0, _)]) dL_areSumsRight_126 (ble rfl) rfl ?_
      refine x_iload 2 dL_areSumsRight_128 rfl ?_
      first | refine x_aload_n 8 dL_areSumsRight_130 rfl rfl ?_ | refine x_aload_nN 8 dL_areSumsRight_130 rfl rfl ?_
      refine x_iload 1 dL_areSumsRight_131 rfl ?_
      refine x_bipush (v := 9) dL_areSumsRight_133 rfl ?_
      refine x_cV1 (As := [.int _, .int _]) (q_pt9 ok C (by assumption)) vL_66 rfl (x_rcC C) rfl ⟨ble rfl, ble rfl⟩ (ble rfl) dL_areSumsRight_135 rfl ?_
      refine x_iload 3 dL_areSumsRight_138 rfl ?_
      have J148 : ∀ (v : Int32), v = usC N t p → XX l G mL_areSumsRight (Rm 8 0 0) (KQ G (Rm 8 0 0) (fun w h' => w = some (.int 1) ∧ h' = h)) 0 0 148 [(6, .int (sm (usK N t) p + usK N t p)), (8, .int (nI p)), (5, .int (nI t)), (4, .int 1), (3, .int 0), (2, .int 0), (1, .int (sm (fun i => N (12 + 4 * i) * N (15 + 4 * i)) t)), (0, .ref (Ad G 0))] [.int v, .int (sm (usC N t) p)] h := by
        intro v ev
        subst ev
        refine x_iadd dL_areSumsRight_148 ?_
        refine x_istore (L' := [(7, _), (6, _), (8, _), (5, _), (4, _), (3, _), (2, _), (1, _), (0, _)]) dL_areSumsRight_149 (ble rfl) rfl ?_
        refine x_iinc (L' := [(8, _), (7, _), (6, _), (5, _), (4, _), (3, _), (2, _), (1, _), (0, _)]) (j := 2) (nI (_ + 1)) dL_areSumsRight_151 rfl (nI_1 _) (ble rfl) rfl ?_
        refine x_goto 86 dL_areSumsRight_154 (by decide) ?_
        refine x_locs (L' := [(8, _), (7, _), (6, _), (5, _), (4, _), (3, _), (2, _), (1, _), (0, _)]) [0, 1, 2, 3, 4, 5, 6, 7, 8] rfl ?_
        exact as_i ok C R J ht kk n (p + 1) (by omega)
      refine x_icmp_ne 147 dL_areSumsRight_140 (by decide) (fun c140 => ?_) (fun c140 => ?_)
      · refine x_iconst (v := 0) dL_areSumsRight_147 rfl ?_
        refine x_locs (L' := [(6, _), (8, _), (5, _), (4, _), (3, _), (2, _), (1, _), (0, _)]) [0, 1, 3, 4, 5, 6, 7, 8] rfl ?_
        exact J148 _ (by unfold usC; first | rw [if_pos c140] | rw [if_neg c140])
      · refine x_iconst (v := 1) dL_areSumsRight_143 rfl ?_
        refine x_goto 148 dL_areSumsRight_144 (by decide) ?_
        refine x_locs (L' := [(6, _), (8, _), (5, _), (4, _), (3, _), (2, _), (1, _), (0, _)]) [0, 1, 3, 4, 5, 6, 7, 8] rfl ?_
        exact J148 _ (by unfold usC; first | rw [if_pos c140] | rw [if_neg c140])
    refine x_icmp_ne 124 dL_areSumsRight_108 (by decide) (fun c108 => ?_) (fun c108 => ?_)
    · refine x_iconst (v := 0) dL_areSumsRight_124 rfl ?_
      refine x_locs (L' := [(8, _), (7, _), (5, _), (4, _), (3, _), (2, _), (1, _), (0, _)]) [0, 1, 3, 4, 5, 6, 7, 8] rfl ?_
      exact J125 _ (by unfold usK; first | rw [if_pos c108] | rw [if_neg c108])
    · first | refine x_aload_n 8 dL_areSumsRight_111 rfl rfl ?_ | refine x_aload_nN 8 dL_areSumsRight_111 rfl rfl ?_
      refine x_iload 0 dL_areSumsRight_112 rfl ?_
      refine x_iconst (v := 0) dL_areSumsRight_114 rfl ?_
      refine x_cV1 (As := [.int _, .int _]) (q_pt0 ok C (by assumption)) vL_66 rfl (x_rcC C) rfl ⟨ble rfl, ble rfl⟩ (ble rfl) dL_areSumsRight_115 rfl ?_
      refine x_cS1 (As := [.int _]) (ct_areaOf (by assumption)) vL_75 rfl rfl ⟨ble rfl, ble rfl⟩ (ble rfl) dL_areSumsRight_118 rfl ?_
      refine x_goto 125 dL_areSumsRight_121 (by decide) ?_
      refine x_locs (L' := [(8, _), (7, _), (5, _), (4, _), (3, _), (2, _), (1, _), (0, _)]) [0, 1, 3, 4, 5, 6, 7, 8] rfl ?_
      exact J125 _ (by unfold usK; first | rw [if_pos c108] | rw [if_neg c108])
set_option maxRecDepth 100000 in
set_option maxHeartbeats 4000000 in
theorem as_t {l : Launch} {G : Gl} {h : Hp} {N : Nat → Int32} {ns np no : Nat} (ok : Ok G) (C : Cs G h N ns np no) (R : RI N ns np no) (J : RJ N ns np no) (kk : XX l G mL_areSumsRight (Rm 8 0 0) (KQ G (Rm 8 0 0) (fun w h' => w = some (.int 1) ∧ h' = h)) 0 0 225 [(4, .int 1), (3, .int 0), (2, .int 0), (1, .int (sm (fun i => N (12 + 4 * i) * N (15 + 4 * i)) (ns))), (0, .ref (Ad G 0))] [] h) : ∀ (n t : Nat), t + n = ns → XX l G mL_areSumsRight (Rm 8 0 0) (KQ G (Rm 8 0 0) (fun w h' => w = some (.int 1) ∧ h' = h)) 0 0 67 [(5, .int (nI (t))), (4, .int 1), (3, .int 0), (2, .int 0), (1, .int (sm (fun i => N (12 + 4 * i) * N (15 + 4 * i)) (t))), (0, .ref (Ad G 0))] [] h
  | 0, t, hp => by
    obtain rfl : t = ns := by omega
    refine x_iload 0 dL_areSumsRight_67 rfl ?_
    first | refine x_aload_n 5 dL_areSumsRight_69 rfl rfl ?_ | refine x_aload_nN 5 dL_areSumsRight_69 rfl rfl ?_
    refine x_iconst (v := 2) dL_areSumsRight_70 rfl ?_
    refine x_cV1 (As := [.int _]) (q_ac2n ok C) vL_28 rfl (x_rcC C) rfl ⟨ble rfl, ble rfl⟩ (ble rfl) dL_areSumsRight_71 rfl ?_
    refine x_icmp_ge 225 dL_areSumsRight_74 (by decide) (fun _ => ?_) (fun z => by first | exact absurd (Int32.le_refl _) z | exact absurd z (Int32.le_refl _))
    refine x_locs (L' := [(4, _), (3, _), (2, _), (1, _), (0, _)]) [1, 2, 3, 4, 5] rfl ?_
    exact kk
  | n + 1, t, hp => by
    have hi : t < ns := by omega
    have b2 := C.nn.2.2.2.1
    obtain ⟨g1, g2⟩ := J.2.1 t hi
    have k157 : XX l G mL_areSumsRight (Rm 8 0 0) (KQ G (Rm 8 0 0) (fun w h' => w = some (.int 1) ∧ h' = h)) 0 0 157 [(7, .int (sm (usC N t) (np))), (6, .int (sm (usK N t) (np))), (5, .int (nI (t))), (4, .int 1), (3, .int 0), (2, .int 0), (1, .int (sm (fun i => N (12 + 4 * i) * N (15 + 4 * i)) (t))), (0, .ref (Ad G 0))] [] h := by
      refine x_iload 3 dL_areSumsRight_157 rfl ?_
      refine x_if_eq 198 dL_areSumsRight_159 (by decide) (fun z => by first | exact absurd z (by decide) | exact absurd (by decide) z) (fun _ => ?_)
      first | refine x_aload_n 7 dL_areSumsRight_162 rfl rfl ?_ | refine x_aload_nN 7 dL_areSumsRight_162 rfl rfl ?_
      refine x_iload 2 dL_areSumsRight_163 rfl ?_
      refine x_iconst (v := 1) dL_areSumsRight_165 rfl ?_
      refine x_cV1 (As := [.int _, .int _]) (q_sh1 ok C (by assumption)) vL_63 rfl (x_rcC C) rfl ⟨ble rfl, ble rfl⟩ (ble rfl) dL_areSumsRight_166 rfl ?_
      refine x_iload 1 dL_areSumsRight_169 rfl ?_
      refine x_iadd dL_areSumsRight_171 ?_
      first | refine x_aload_n 7 dL_areSumsRight_172 rfl rfl ?_ | refine x_aload_nN 7 dL_areSumsRight_172 rfl rfl ?_
      refine x_iload 2 dL_areSumsRight_173 rfl ?_
      refine x_iconst (v := 3) dL_areSumsRight_175 rfl ?_
      refine x_cV1 (As := [.int _, .int _]) (q_sh3 ok C (by assumption)) vL_63 rfl (x_rcC C) rfl ⟨ble rfl, ble rfl⟩ (ble rfl) dL_areSumsRight_176 rfl ?_
      refine x_icmp_ne 198 dL_areSumsRight_179 (by decide) (fun z => by first | exact absurd z (g1) | exact absurd (g1) z) (fun _ => ?_)
      first | refine x_aload_n 7 dL_areSumsRight_182 rfl rfl ?_ | refine x_aload_nN 7 dL_areSumsRight_182 rfl rfl ?_
      refine x_iload 2 dL_areSumsRight_183 rfl ?_
      refine x_iconst (v := 2) dL_areSumsRight_185 rfl ?_
      refine x_cV1 (As := [.int _, .int _]) (q_sh2 ok C (by assumption)) vL_63 rfl (x_rcC C) rfl ⟨ble rfl, ble rfl⟩ (ble rfl) dL_areSumsRight_186 rfl ?_
      refine x_iload 0 dL_areSumsRight_189 rfl ?_
      refine x_icmp_ne 198 dL_areSumsRight_191 (by decide) (fun z => by first | exact absurd z (g2) | exact absurd (g2) z) (fun _ => ?_)
      refine x_iconst (v := 1) dL_areSumsRight_194 rfl ?_
      refine x_goto 199 dL_areSumsRight_195 (by decide) ?_
      refine x_istore (L' := [(4, _), (7, _), (6, _), (5, _), (3, _), (2, _), (1, _), (0, _)]) dL_areSumsRight_199 (ble rfl) rfl ?_
      refine x_iload_n 6 dL_areSumsRight_201 rfl rfl ?_
      first | refine x_aload_n 7 dL_areSumsRight_202 rfl rfl ?_ | refine x_aload_nN 7 dL_areSumsRight_202 rfl rfl ?_
      refine x_iload 3 dL_areSumsRight_203 rfl ?_
      refine x_iconst (v := 0) dL_areSumsRight_205 rfl ?_
      refine x_cV1 (As := [.int _, .int _]) (q_sh0 ok C (by assumption)) vL_63 rfl (x_rcC C) rfl ⟨ble rfl, ble rfl⟩ (ble rfl) dL_areSumsRight_206 rfl ?_
      first | refine x_aload_n 7 dL_areSumsRight_209 rfl rfl ?_ | refine x_aload_nN 7 dL_areSumsRight_209 rfl rfl ?_
      refine x_iload 3 dL_areSumsRight_210 rfl ?_
      refine x_iconst (v := 3) dL_areSumsRight_212 rfl ?_
      refine x_cV1 (As := [.int _, .int _]) (q_sh3 ok C (by assumption)) vL_63 rfl (x_rcC C) rfl ⟨ble rfl, ble rfl⟩ (ble rfl) dL_areSumsRight_213 rfl ?_
      refine x_imul dL_areSumsRight_216 ?_
      refine x_iadd dL_areSumsRight_217 ?_
      refine x_istore_n (L' := [(1, _), (4, _), (7, _), (6, _), (5, _), (3, _), (2, _), (0, _)]) dL_areSumsRight_218 rfl (ble rfl) rfl ?_
      refine x_iinc (L' := [(5, _), (1, _), (4, _), (7, _), (6, _), (3, _), (2, _), (0, _)]) (j := 4) (nI (_ + 1)) dL_areSumsRight_219 rfl (nI_1 _) (ble rfl) rfl ?_
      refine x_goto 67 dL_areSumsRight_222 (by decide) ?_
      refine x_locs (L' := [(5, _), (4, _), (3, _), (2, _), (1, _), (0, _)]) [0, 2, 5, 6, 1, 7] rfl ?_
      exact as_t ok C R J kk n (t + 1) (by omega)
    refine x_iload 0 dL_areSumsRight_67 rfl ?_
    first | refine x_aload_n 5 dL_areSumsRight_69 rfl rfl ?_ | refine x_aload_nN 5 dL_areSumsRight_69 rfl rfl ?_
    refine x_iconst (v := 2) dL_areSumsRight_70 rfl ?_
    refine x_cV1 (As := [.int _]) (q_ac2n ok C) vL_28 rfl (x_rcC C) rfl ⟨ble rfl, ble rfl⟩ (ble rfl) dL_areSumsRight_71 rfl ?_
    refine x_icmp_ge 225 dL_areSumsRight_74 (by decide) (fun z => by first | exact absurd z (nI_ge hi (by omega)) | exact absurd (nI_ge hi (by omega)) z) (fun _ => ?_)
    refine x_iconst (v := 0) dL_areSumsRight_77 rfl ?_
    refine x_istore (L' := [(6, _), (5, _), (4, _), (3, _), (2, _), (1, _), (0, _)]) dL_areSumsRight_78 (ble rfl) rfl ?_
    refine x_iconst (v := 0) dL_areSumsRight_80 rfl ?_
    refine x_istore (L' := [(7, _), (6, _), (5, _), (4, _), (3, _), (2, _), (1, _), (0, _)]) dL_areSumsRight_81 (ble rfl) rfl ?_
    refine x_iconst (v := 0) dL_areSumsRight_83 rfl ?_
    refine x_istore (L' := [(8, _), (7, _), (6, _), (5, _), (4, _), (3, _), (2, _), (1, _), (0, _)]) dL_areSumsRight_84 (ble rfl) rfl ?_
    refine x_locs (L' := [(8, _), (7, _), (6, _), (5, _), (4, _), (3, _), (2, _), (1, _), (0, _)]) [0, 1, 2, 3, 4, 5, 6, 7, 8] rfl ?_
    exact as_i ok C R J hi k157 np 0 (by omega)
set_option maxRecDepth 100000 in
set_option maxHeartbeats 4000000 in
theorem as_o {l : Launch} {G : Gl} {h : Hp} {N : Nat → Int32} {ns np no : Nat} (ok : Ok G) (C : Cs G h N ns np no) (R : RI N ns np no) (J : RJ N ns np no) (kk : XX l G mL_areSumsRight (Rm 8 0 0) (KQ G (Rm 8 0 0) (fun w h' => w = some (.int 1) ∧ h' = h)) 0 0 423 [(4, .int 1), (3, .int (sm (fun i => soldK (N (191 + 5 * i))) (no))), (2, .int (sm (fun i => N (192 + 5 * i)) (no))), (1, .int (sm (fun i => N (12 + 4 * i) * N (15 + 4 * i)) ns)), (0, .ref (Ad G 0))] [] h) : ∀ (n j : Nat), j + n = no → XX l G mL_areSumsRight (Rm 8 0 0) (KQ G (Rm 8 0 0) (fun w h' => w = some (.int 1) ∧ h' = h)) 0 0 228 [(5, .int (nI (j))), (4, .int 1), (3, .int (sm (fun i => soldK (N (191 + 5 * i))) (j))), (2, .int (sm (fun i => N (192 + 5 * i)) (j))), (1, .int (sm (fun i => N (12 + 4 * i) * N (15 + 4 * i)) ns)), (0, .ref (Ad G 0))] [] h
  | 0, j, hp => by
    obtain rfl : j = no := by omega
    refine x_iload 0 dL_areSumsRight_228 rfl ?_
    first | refine x_aload_n 5 dL_areSumsRight_230 rfl rfl ?_ | refine x_aload_nN 5 dL_areSumsRight_230 rfl rfl ?_
    refine x_bipush (v := 7) dL_areSumsRight_231 rfl ?_
    refine x_cV1 (As := [.int _]) (q_ac7n ok C) vL_28 rfl (x_rcC C) rfl ⟨ble rfl, ble rfl⟩ (ble rfl) dL_areSumsRight_233 rfl ?_
    refine x_icmp_ge 423 dL_areSumsRight_236 (by decide) (fun _ => ?_) (fun z => by first | exact absurd (Int32.le_refl _) z | exact absurd z (Int32.le_refl _))
    refine x_locs (L' := [(4, _), (3, _), (2, _), (1, _), (0, _)]) [1, 2, 3, 4, 5] rfl ?_
    exact kk
  | n + 1, j, hp => by
    have hj : j < no := by omega
    have b4 := C.nn.2.2.2.2.2
    have b3 := C.nn.2.2.2.2.1
    have k407 : ∀ v : Int32, v = soldK (N (191 + 5 * j)) → XX l G mL_areSumsRight (Rm 8 0 0) (KQ G (Rm 8 0 0) (fun w h' => w = some (.int 1) ∧ h' = h)) 0 0 407 [(5, .int (nI (j))), (4, .int 1), (3, .int (sm (fun i => soldK (N (191 + 5 * i))) (j) + v)), (2, .int (sm (fun i => N (192 + 5 * i)) (j))), (1, .int (sm (fun i => N (12 + 4 * i) * N (15 + 4 * i)) ns)), (0, .ref (Ad G 0))] [] h := by
      intro v ev
      subst ev
      refine x_iload_n 3 dL_areSumsRight_407 rfl rfl ?_
      first | refine x_aload_n 5 dL_areSumsRight_408 rfl rfl ?_ | refine x_aload_nN 5 dL_areSumsRight_408 rfl rfl ?_
      refine x_iload 0 dL_areSumsRight_409 rfl ?_
      refine x_iconst (v := 4) dL_areSumsRight_411 rfl ?_
      refine x_cV1 (As := [.int _, .int _]) (q_or4 ok C (by assumption)) vL_72 rfl (x_rcC C) rfl ⟨ble rfl, ble rfl⟩ (ble rfl) dL_areSumsRight_412 rfl ?_
      refine x_iadd dL_areSumsRight_415 ?_
      refine x_istore_n (L' := [(2, _), (5, _), (4, _), (3, _), (1, _), (0, _)]) dL_areSumsRight_416 rfl (ble rfl) rfl ?_
      refine x_iinc (L' := [(5, _), (2, _), (4, _), (3, _), (1, _), (0, _)]) (j := 1) (nI (_ + 1)) dL_areSumsRight_417 rfl (nI_1 _) (ble rfl) rfl ?_
      refine x_goto 228 dL_areSumsRight_420 (by decide) ?_
      refine x_locs (L' := [(5, _), (4, _), (3, _), (2, _), (1, _), (0, _)]) [0, 2, 3, 1, 4, 5] rfl ?_
      exact as_o ok C R J kk n (j + 1) (by omega)
    refine x_iload 0 dL_areSumsRight_228 rfl ?_
    first | refine x_aload_n 5 dL_areSumsRight_230 rfl rfl ?_ | refine x_aload_nN 5 dL_areSumsRight_230 rfl rfl ?_
    refine x_bipush (v := 7) dL_areSumsRight_231 rfl ?_
    refine x_cV1 (As := [.int _]) (q_ac7n ok C) vL_28 rfl (x_rcC C) rfl ⟨ble rfl, ble rfl⟩ (ble rfl) dL_areSumsRight_233 rfl ?_
    refine x_icmp_ge 423 dL_areSumsRight_236 (by decide) (fun z => by first | exact absurd z (nI_ge hj (by omega)) | exact absurd (nI_ge hj (by omega)) z) (fun _ => ?_)
    first | refine x_aload_n 5 dL_areSumsRight_239 rfl rfl ?_ | refine x_aload_nN 5 dL_areSumsRight_239 rfl rfl ?_
    refine x_iload 0 dL_areSumsRight_240 rfl ?_
    refine x_iconst (v := 3) dL_areSumsRight_242 rfl ?_
    refine x_cV1 (As := [.int _, .int _]) (q_or3 ok C (by assumption)) vL_72 rfl (x_rcC C) rfl ⟨ble rfl, ble rfl⟩ (ble rfl) dL_areSumsRight_243 rfl ?_
    refine x_istore (L' := [(6, _), (5, _), (4, _), (3, _), (2, _), (1, _), (0, _)]) dL_areSumsRight_246 (ble rfl) rfl ?_
    refine x_iload 0 dL_areSumsRight_248 rfl ?_
    refine x_bipush (v := -4) dL_areSumsRight_250 rfl ?_
    refine x_icmp_eq 407 dL_areSumsRight_252 (by decide) (fun c252 => ?_) (fun c252 => ?_)
    · refine x_locs (L' := [(5, _), (4, _), (3, _), (2, _), (1, _), (0, _)]) [1, 2, 3, 4, 5, 6] rfl ?_
      first | exact k407 1 (by rw [e1]; exact (soldK_nI (by omega)).1.symm) | (refine x_eqL (L' := [(5, .int (nI (j))), (4, .int 1), (3, .int (sm (fun i => soldK (N (191 + 5 * i))) (j) + 0)), (2, .int (sm (fun i => N (192 + 5 * i)) (j))), (1, .int (sm (fun i => N (12 + 4 * i) * N (15 + 4 * i)) ns)), (0, .ref (Ad G 0))]) (by rw [Int32.add_zero]) ?_; exact k407 0 (by rw [c252]; rfl))
    · obtain ⟨p, hpp, e1, e2, F1, F2, F3⟩ := (J.2.2.2.1 j hj).resolve_left c252
      obtain ⟨f1, f2, f3⟩ := fit_e F2
      rw [e1]
      first | refine x_aload_n 6 dL_areSumsRight_255 rfl rfl ?_ | refine x_aload_nN 6 dL_areSumsRight_255 rfl rfl ?_
      refine x_iload 0 dL_areSumsRight_256 rfl ?_
      refine x_iconst (v := 5) dL_areSumsRight_258 rfl ?_
      refine x_cV1 (As := [.int _, .int _]) (q_pt5 ok C (by assumption)) vL_66 rfl (x_rcC C) rfl ⟨ble rfl, ble rfl⟩ (ble rfl) dL_areSumsRight_259 rfl ?_
      refine x_if_ne 269 dL_areSumsRight_262 (by decide) (fun c262 => ?_) (fun c262 => ?_)
      · refine x_iconst (v := 0) dL_areSumsRight_269 rfl ?_
        refine x_istore (L' := [(7, _), (6, _), (5, _), (4, _), (3, _), (2, _), (1, _), (0, _)]) dL_areSumsRight_270 (ble rfl) rfl ?_
        refine x_iload 3 dL_areSumsRight_272 rfl ?_
        refine x_if_eq 401 dL_areSumsRight_274 (by decide) (fun z => by first | exact absurd z (by decide) | exact absurd (by decide) z) (fun _ => ?_)
        first | refine x_aload_n 7 dL_areSumsRight_277 rfl rfl ?_ | refine x_aload_nN 7 dL_areSumsRight_277 rfl rfl ?_
        refine x_iload 1 dL_areSumsRight_278 rfl ?_
        refine x_bipush (v := 8) dL_areSumsRight_280 rfl ?_
        refine x_cV1 (As := [.int _, .int _]) (q_pt8 ok C (by assumption)) vL_66 rfl (x_rcC C) rfl ⟨ble rfl, ble rfl⟩ (ble rfl) dL_areSumsRight_282 rfl ?_
        refine x_iload 2 dL_areSumsRight_285 rfl ?_
        refine x_icmp_ne 401 dL_areSumsRight_287 (by decide) (fun z => by first | exact absurd z (e2) | exact absurd (e2) z) (fun _ => ?_)
        first | refine x_aload_n 7 dL_areSumsRight_290 rfl rfl ?_ | refine x_aload_nN 7 dL_areSumsRight_290 rfl rfl ?_
        refine x_iload 1 dL_areSumsRight_291 rfl ?_
        refine x_iconst (v := 0) dL_areSumsRight_293 rfl ?_
        refine x_cV1 (As := [.int _, .int _]) (q_pt0 ok C (by assumption)) vL_66 rfl (x_rcC C) rfl ⟨ble rfl, ble rfl⟩ (ble rfl) dL_areSumsRight_294 rfl ?_
        first | refine x_aload_n 7 dL_areSumsRight_297 rfl rfl ?_ | refine x_aload_nN 7 dL_areSumsRight_297 rfl rfl ?_
        refine x_iload 2 dL_areSumsRight_298 rfl ?_
        refine x_iconst (v := 0) dL_areSumsRight_300 rfl ?_
        refine x_cV1 (As := [.int _, .int _]) (q_or0 ok C (by assumption)) vL_72 rfl (x_rcC C) rfl ⟨ble rfl, ble rfl⟩ (ble rfl) dL_areSumsRight_301 rfl ?_
        refine x_icmp_ne 401 dL_areSumsRight_304 (by decide) (fun z => by first | exact absurd z (congrArg (fun z => kNum (kOf z)) F1) | exact absurd (congrArg (fun z => kNum (kOf z)) F1) z) (fun _ => ?_)
        first | refine x_aload_n 7 dL_areSumsRight_307 rfl rfl ?_ | refine x_aload_nN 7 dL_areSumsRight_307 rfl rfl ?_
        refine x_iload 1 dL_areSumsRight_308 rfl ?_
        refine x_iconst (v := 4) dL_areSumsRight_310 rfl ?_
        refine x_cV1 (As := [.int _, .int _]) (q_pt4 ok C (by assumption)) vL_66 rfl (x_rcC C) rfl ⟨ble rfl, ble rfl⟩ (ble rfl) dL_areSumsRight_311 rfl ?_
        first | refine x_aload_n 7 dL_areSumsRight_314 rfl rfl ?_ | refine x_aload_nN 7 dL_areSumsRight_314 rfl rfl ?_
        refine x_iload 2 dL_areSumsRight_315 rfl ?_
        refine x_iconst (v := 1) dL_areSumsRight_317 rfl ?_
        refine x_cV1 (As := [.int _, .int _]) (q_or1 ok C (by assumption)) vL_72 rfl (x_rcC C) rfl ⟨ble rfl, ble rfl⟩ (ble rfl) dL_areSumsRight_318 rfl ?_
        refine x_icmp_lt 401 dL_areSumsRight_321 (by decide) (fun z => by first | exact absurd z (by unfold tinK at f3; rw [if_neg c262] at f3; exact f3) | exact absurd (by unfold tinK at f3; rw [if_neg c262] at f3; exact f3) z) (fun _ => ?_)
        refine x_iload 0 dL_areSumsRight_324 rfl ?_
        refine x_if_eq 340 dL_areSumsRight_326 (by decide) (fun _ => ?_) (fun z => by first | exact absurd (by decide) z | exact absurd z (by decide))
        first | refine x_aload_n 7 dL_areSumsRight_340 rfl rfl ?_ | refine x_aload_nN 7 dL_areSumsRight_340 rfl rfl ?_
        refine x_iload 1 dL_areSumsRight_341 rfl ?_
        refine x_bipush (v := 7) dL_areSumsRight_343 rfl ?_
        refine x_cV1 (As := [.int _, .int _]) (q_pt7 ok C (by assumption)) vL_66 rfl (x_rcC C) rfl ⟨ble rfl, ble rfl⟩ (ble rfl) dL_areSumsRight_345 rfl ?_
        refine x_if_ne 401 dL_areSumsRight_348 (by decide) (fun z => by first | exact absurd z (f1) | exact absurd (f1) z) (fun _ => ?_)
        first | refine x_aload_n 7 dL_areSumsRight_351 rfl rfl ?_ | refine x_aload_nN 7 dL_areSumsRight_351 rfl rfl ?_
        refine x_iload 1 dL_areSumsRight_352 rfl ?_
        refine x_bipush (v := 6) dL_areSumsRight_354 rfl ?_
        refine x_cV1 (As := [.int _, .int _]) (q_pt6 ok C (by assumption)) vL_66 rfl (x_rcC C) rfl ⟨ble rfl, ble rfl⟩ (ble rfl) dL_areSumsRight_356 rfl ?_
        refine x_iconst (v := 1) dL_areSumsRight_359 rfl ?_
        refine x_icmp_ne 401 dL_areSumsRight_360 (by decide) (fun z => by first | exact absurd z (smooth_1 f2) | exact absurd (smooth_1 f2) z) (fun _ => ?_)
        first | refine x_aload_n 7 dL_areSumsRight_363 rfl rfl ?_ | refine x_aload_nN 7 dL_areSumsRight_363 rfl rfl ?_
        refine x_iload 2 dL_areSumsRight_364 rfl ?_
        refine x_iconst (v := 4) dL_areSumsRight_366 rfl ?_
        refine x_cV1 (As := [.int _, .int _]) (q_or4 ok C (by assumption)) vL_72 rfl (x_rcC C) rfl ⟨ble rfl, ble rfl⟩ (ble rfl) dL_areSumsRight_367 rfl ?_
        refine x_iload 0 dL_areSumsRight_370 rfl ?_
        refine x_if_eq 385 dL_areSumsRight_372 (by decide) (fun _ => ?_) (fun z => by first | exact absurd (by decide) z | exact absurd z (by decide))
        first | refine x_aload_n 7 dL_areSumsRight_385 rfl rfl ?_ | refine x_aload_nN 7 dL_areSumsRight_385 rfl rfl ?_
        refine x_iload 2 dL_areSumsRight_386 rfl ?_
        refine x_iconst (v := 2) dL_areSumsRight_388 rfl ?_
        refine x_cV1 (As := [.int _, .int _]) (q_or2 ok C (by assumption)) vL_72 rfl (x_rcC C) rfl ⟨ble rfl, ble rfl⟩ (ble rfl) dL_areSumsRight_389 rfl ?_
        refine x_iconst (v := 2) dL_areSumsRight_392 rfl ?_
        refine x_idiv dL_areSumsRight_393 (by first | decide | assumption) ?_
        refine x_icmp_ne 401 dL_areSumsRight_394 (by decide) (fun z => by first | exact absurd z (by rw [F3]; unfold payK; exact if_neg c262) | exact absurd (by rw [F3]; unfold payK; exact if_neg c262) z) (fun _ => ?_)
        refine x_iconst (v := 1) dL_areSumsRight_397 rfl ?_
        refine x_goto 402 dL_areSumsRight_398 (by decide) ?_
        refine x_istore (L' := [(4, _), (7, _), (6, _), (5, _), (3, _), (2, _), (1, _), (0, _)]) dL_areSumsRight_402 (ble rfl) rfl ?_
        refine x_iinc (L' := [(3, _), (4, _), (7, _), (6, _), (5, _), (2, _), (1, _), (0, _)]) (j := 4) (_ + 1) dL_areSumsRight_404 rfl rfl (ble rfl) rfl ?_
        refine x_locs (L' := [(5, _), (4, _), (3, _), (2, _), (1, _), (0, _)]) [4, 1, 0, 5, 6, 7] rfl ?_
        first | exact k407 1 (by rw [e1]; exact (soldK_nI (by omega)).1.symm) | (refine x_eqL (L' := [(5, .int (nI (j))), (4, .int 1), (3, .int (sm (fun i => soldK (N (191 + 5 * i))) (j) + 0)), (2, .int (sm (fun i => N (192 + 5 * i)) (j))), (1, .int (sm (fun i => N (12 + 4 * i) * N (15 + 4 * i)) ns)), (0, .ref (Ad G 0))]) (by rw [Int32.add_zero]) ?_; exact k407 0 (by rw [c252]; rfl))
      · refine x_iconst (v := 1) dL_areSumsRight_265 rfl ?_
        refine x_goto 270 dL_areSumsRight_266 (by decide) ?_
        refine x_istore (L' := [(7, _), (6, _), (5, _), (4, _), (3, _), (2, _), (1, _), (0, _)]) dL_areSumsRight_270 (ble rfl) rfl ?_
        refine x_iload 3 dL_areSumsRight_272 rfl ?_
        refine x_if_eq 401 dL_areSumsRight_274 (by decide) (fun z => by first | exact absurd z (by decide) | exact absurd (by decide) z) (fun _ => ?_)
        first | refine x_aload_n 7 dL_areSumsRight_277 rfl rfl ?_ | refine x_aload_nN 7 dL_areSumsRight_277 rfl rfl ?_
        refine x_iload 1 dL_areSumsRight_278 rfl ?_
        refine x_bipush (v := 8) dL_areSumsRight_280 rfl ?_
        refine x_cV1 (As := [.int _, .int _]) (q_pt8 ok C (by assumption)) vL_66 rfl (x_rcC C) rfl ⟨ble rfl, ble rfl⟩ (ble rfl) dL_areSumsRight_282 rfl ?_
        refine x_iload 2 dL_areSumsRight_285 rfl ?_
        refine x_icmp_ne 401 dL_areSumsRight_287 (by decide) (fun z => by first | exact absurd z (e2) | exact absurd (e2) z) (fun _ => ?_)
        first | refine x_aload_n 7 dL_areSumsRight_290 rfl rfl ?_ | refine x_aload_nN 7 dL_areSumsRight_290 rfl rfl ?_
        refine x_iload 1 dL_areSumsRight_291 rfl ?_
        refine x_iconst (v := 0) dL_areSumsRight_293 rfl ?_
        refine x_cV1 (As := [.int _, .int _]) (q_pt0 ok C (by assumption)) vL_66 rfl (x_rcC C) rfl ⟨ble rfl, ble rfl⟩ (ble rfl) dL_areSumsRight_294 rfl ?_
        first | refine x_aload_n 7 dL_areSumsRight_297 rfl rfl ?_ | refine x_aload_nN 7 dL_areSumsRight_297 rfl rfl ?_
        refine x_iload 2 dL_areSumsRight_298 rfl ?_
        refine x_iconst (v := 0) dL_areSumsRight_300 rfl ?_
        refine x_cV1 (As := [.int _, .int _]) (q_or0 ok C (by assumption)) vL_72 rfl (x_rcC C) rfl ⟨ble rfl, ble rfl⟩ (ble rfl) dL_areSumsRight_301 rfl ?_
        refine x_icmp_ne 401 dL_areSumsRight_304 (by decide) (fun z => by first | exact absurd z (congrArg (fun z => kNum (kOf z)) F1) | exact absurd (congrArg (fun z => kNum (kOf z)) F1) z) (fun _ => ?_)
        first | refine x_aload_n 7 dL_areSumsRight_307 rfl rfl ?_ | refine x_aload_nN 7 dL_areSumsRight_307 rfl rfl ?_
        refine x_iload 1 dL_areSumsRight_308 rfl ?_
        refine x_iconst (v := 4) dL_areSumsRight_310 rfl ?_
        refine x_cV1 (As := [.int _, .int _]) (q_pt4 ok C (by assumption)) vL_66 rfl (x_rcC C) rfl ⟨ble rfl, ble rfl⟩ (ble rfl) dL_areSumsRight_311 rfl ?_
        first | refine x_aload_n 7 dL_areSumsRight_314 rfl rfl ?_ | refine x_aload_nN 7 dL_areSumsRight_314 rfl rfl ?_
        refine x_iload 2 dL_areSumsRight_315 rfl ?_
        refine x_iconst (v := 1) dL_areSumsRight_317 rfl ?_
        refine x_cV1 (As := [.int _, .int _]) (q_or1 ok C (by assumption)) vL_72 rfl (x_rcC C) rfl ⟨ble rfl, ble rfl⟩ (ble rfl) dL_areSumsRight_318 rfl ?_
        refine x_icmp_lt 401 dL_areSumsRight_321 (by decide) (fun z => by first | exact absurd z ((mx_l (by unfold tinK at f3; rw [if_pos c262] at f3; exact f3)).1) | exact absurd ((mx_l (by unfold tinK at f3; rw [if_pos c262] at f3; exact f3)).1) z) (fun _ => ?_)
        refine x_iload 0 dL_areSumsRight_324 rfl ?_
        refine x_if_eq 340 dL_areSumsRight_326 (by decide) (fun z => by first | exact absurd z (by decide) | exact absurd (by decide) z) (fun _ => ?_)
        first | refine x_aload_n 7 dL_areSumsRight_329 rfl rfl ?_ | refine x_aload_nN 7 dL_areSumsRight_329 rfl rfl ?_
        refine x_iload 1 dL_areSumsRight_330 rfl ?_
        refine x_iconst (v := 4) dL_areSumsRight_332 rfl ?_
        refine x_cV1 (As := [.int _, .int _]) (q_pt4 ok C (by assumption)) vL_66 rfl (x_rcC C) rfl ⟨ble rfl, ble rfl⟩ (ble rfl) dL_areSumsRight_333 rfl ?_
        refine x_iconst (v := 3) dL_areSumsRight_336 rfl ?_
        refine x_icmp_lt 401 dL_areSumsRight_337 (by decide) (fun z => by first | exact absurd z ((mx_l (by unfold tinK at f3; rw [if_pos c262] at f3; exact f3)).2) | exact absurd ((mx_l (by unfold tinK at f3; rw [if_pos c262] at f3; exact f3)).2) z) (fun _ => ?_)
        first | refine x_aload_n 7 dL_areSumsRight_340 rfl rfl ?_ | refine x_aload_nN 7 dL_areSumsRight_340 rfl rfl ?_
        refine x_iload 1 dL_areSumsRight_341 rfl ?_
        refine x_bipush (v := 7) dL_areSumsRight_343 rfl ?_
        refine x_cV1 (As := [.int _, .int _]) (q_pt7 ok C (by assumption)) vL_66 rfl (x_rcC C) rfl ⟨ble rfl, ble rfl⟩ (ble rfl) dL_areSumsRight_345 rfl ?_
        refine x_if_ne 401 dL_areSumsRight_348 (by decide) (fun z => by first | exact absurd z (f1) | exact absurd (f1) z) (fun _ => ?_)
        first | refine x_aload_n 7 dL_areSumsRight_351 rfl rfl ?_ | refine x_aload_nN 7 dL_areSumsRight_351 rfl rfl ?_
        refine x_iload 1 dL_areSumsRight_352 rfl ?_
        refine x_bipush (v := 6) dL_areSumsRight_354 rfl ?_
        refine x_cV1 (As := [.int _, .int _]) (q_pt6 ok C (by assumption)) vL_66 rfl (x_rcC C) rfl ⟨ble rfl, ble rfl⟩ (ble rfl) dL_areSumsRight_356 rfl ?_
        refine x_iconst (v := 1) dL_areSumsRight_359 rfl ?_
        refine x_icmp_ne 401 dL_areSumsRight_360 (by decide) (fun z => by first | exact absurd z (smooth_1 f2) | exact absurd (smooth_1 f2) z) (fun _ => ?_)
        first | refine x_aload_n 7 dL_areSumsRight_363 rfl rfl ?_ | refine x_aload_nN 7 dL_areSumsRight_363 rfl rfl ?_
        refine x_iload 2 dL_areSumsRight_364 rfl ?_
        refine x_iconst (v := 4) dL_areSumsRight_366 rfl ?_
        refine x_cV1 (As := [.int _, .int _]) (q_or4 ok C (by assumption)) vL_72 rfl (x_rcC C) rfl ⟨ble rfl, ble rfl⟩ (ble rfl) dL_areSumsRight_367 rfl ?_
        refine x_iload 0 dL_areSumsRight_370 rfl ?_
        refine x_if_eq 385 dL_areSumsRight_372 (by decide) (fun z => by first | exact absurd z (by decide) | exact absurd (by decide) z) (fun _ => ?_)
        first | refine x_aload_n 7 dL_areSumsRight_375 rfl rfl ?_ | refine x_aload_nN 7 dL_areSumsRight_375 rfl rfl ?_
        refine x_iload 2 dL_areSumsRight_376 rfl ?_
        refine x_iconst (v := 2) dL_areSumsRight_378 rfl ?_
        refine x_cV1 (As := [.int _, .int _]) (q_or2 ok C (by assumption)) vL_72 rfl (x_rcC C) rfl ⟨ble rfl, ble rfl⟩ (ble rfl) dL_areSumsRight_379 rfl ?_
        refine x_goto 394 dL_areSumsRight_382 (by decide) ?_
        refine x_icmp_ne 401 dL_areSumsRight_394 (by decide) (fun z => by first | exact absurd z (by rw [F3]; unfold payK; exact if_pos c262) | exact absurd (by rw [F3]; unfold payK; exact if_pos c262) z) (fun _ => ?_)
        refine x_iconst (v := 1) dL_areSumsRight_397 rfl ?_
        refine x_goto 402 dL_areSumsRight_398 (by decide) ?_
        refine x_istore (L' := [(4, _), (7, _), (6, _), (5, _), (3, _), (2, _), (1, _), (0, _)]) dL_areSumsRight_402 (ble rfl) rfl ?_
        refine x_iinc (L' := [(3, _), (4, _), (7, _), (6, _), (5, _), (2, _), (1, _), (0, _)]) (j := 4) (_ + 1) dL_areSumsRight_404 rfl rfl (ble rfl) rfl ?_
        refine x_locs (L' := [(5, _), (4, _), (3, _), (2, _), (1, _), (0, _)]) [4, 1, 0, 5, 6, 7] rfl ?_
        first | exact k407 1 (by rw [e1]; exact (soldK_nI (by omega)).1.symm) | (refine x_eqL (L' := [(5, .int (nI (j))), (4, .int 1), (3, .int (sm (fun i => soldK (N (191 + 5 * i))) (j) + 0)), (2, .int (sm (fun i => N (192 + 5 * i)) (j))), (1, .int (sm (fun i => N (12 + 4 * i) * N (15 + 4 * i)) ns)), (0, .ref (Ad G 0))]) (by rw [Int32.add_zero]) ?_; exact k407 0 (by rw [c252]; rfl))
set_option maxRecDepth 100000 in
set_option maxHeartbeats 4000000 in
theorem ct_areSumsRight {l : Launch} {G : Gl} {h : Hp} {N : Nat → Int32} {ns np no : Nat} (ok : Ok G) (C : Cs G h N ns np no) (R : RI N ns np no) (J : RJ N ns np no) : CtR l G mL_areSumsRight 8 [.ref (Ad G 0)] h (some (.int 1)) h := by
  refine Ct.of (L := [(0, _)]) (by decide) (ble rfl) rfl ?_
  obtain ⟨e2, e3, e4, b2, b3, b4⟩ := C.nn
  obtain ⟨n0, n1⟩ := nn_c R
  have cp := cop_e J.2.2.2.2.1
  have c6 := j6_e J.2.2.2.2.2.1
  have c7 := j7_e J.2.2.2.2.2.2
  have ar : sm (fun i => N (12 + 4 * i) * N (15 + 4 * i)) ns = sm (fun i => N (15 + 4 * i) * N (12 + 4 * i)) ns := sm_cg (fun i hi => Int32.mul_comm _ _)
  have k423 : XX l G mL_areSumsRight (Rm 8 0 0) (KQ G (Rm 8 0 0) (fun w h' => w = some (.int 1) ∧ h' = h)) 0 0 423 [(4, .int 1), (3, .int (sm (fun i => soldK (N (191 + 5 * i))) (no))), (2, .int (sm (fun i => N (192 + 5 * i)) (no))), (1, .int (sm (fun i => N (12 + 4 * i) * N (15 + 4 * i)) ns)), (0, .ref (Ad G 0))] [] h := by
    refine x_iload 0 dL_areSumsRight_423 rfl ?_
    refine x_if_eq 475 dL_areSumsRight_425 (by decide) (fun z => by first | exact absurd z (by decide) | exact absurd (by decide) z) (fun _ => ?_)
    refine x_iload_n 3 dL_areSumsRight_428 rfl rfl ?_
    first | refine x_aload_n 4 dL_areSumsRight_429 rfl rfl ?_ | refine x_aload_nN 4 dL_areSumsRight_429 rfl rfl ?_
    refine x_cV1 (As := []) (q_cp ok C) vL_106 rfl (x_rcC C) rfl ⟨ble rfl, ble rfl⟩ (ble rfl) dL_areSumsRight_430 rfl ?_
    refine x_icmp_ne 475 dL_areSumsRight_433 (by decide) (fun z => by first | exact absurd z (ar.trans cp.symm) | exact absurd (ar.trans cp.symm) z) (fun _ => ?_)
    refine x_iload_n 2 dL_areSumsRight_436 rfl rfl ?_
    first | refine x_aload_n 4 dL_areSumsRight_437 rfl rfl ?_ | refine x_aload_nN 4 dL_areSumsRight_437 rfl rfl ?_
    refine x_bipush (v := 13) dL_areSumsRight_438 rfl ?_
    refine x_cV1 (As := [.int _]) (q_ac13 ok C) vL_28 rfl (x_rcC C) rfl ⟨ble rfl, ble rfl⟩ (ble rfl) dL_areSumsRight_440 rfl ?_
    refine x_icmp_ne 475 dL_areSumsRight_443 (by decide) (fun z => by first | exact absurd z (rfl) | exact absurd (rfl) z) (fun _ => ?_)
    refine x_iload_n 1 dL_areSumsRight_446 rfl rfl ?_
    first | refine x_aload_n 4 dL_areSumsRight_447 rfl rfl ?_ | refine x_aload_nN 4 dL_areSumsRight_447 rfl rfl ?_
    refine x_bipush (v := 8) dL_areSumsRight_448 rfl ?_
    refine x_cV1 (As := [.int _]) (q_ac8 ok C) vL_28 rfl (x_rcC C) rfl ⟨ble rfl, ble rfl⟩ (ble rfl) dL_areSumsRight_450 rfl ?_
    refine x_icmp_ne 475 dL_areSumsRight_453 (by decide) (fun z => by first | exact absurd z (rfl) | exact absurd (rfl) z) (fun _ => ?_)
    first | refine x_aload_n 4 dL_areSumsRight_456 rfl rfl ?_ | refine x_aload_nN 4 dL_areSumsRight_456 rfl rfl ?_
    refine x_iconst (v := 3) dL_areSumsRight_457 rfl ?_
    refine x_cV1 (As := [.int _]) (q_ac3n ok C) vL_28 rfl (x_rcC C) rfl ⟨ble rfl, ble rfl⟩ (ble rfl) dL_areSumsRight_458 rfl ?_
    first | refine x_aload_n 4 dL_areSumsRight_461 rfl rfl ?_ | refine x_aload_nN 4 dL_areSumsRight_461 rfl rfl ?_
    refine x_iconst (v := 4) dL_areSumsRight_462 rfl ?_
    refine x_cV1 (As := [.int _]) (q_ac4 ok C) vL_28 rfl (x_rcC C) rfl ⟨ble rfl, ble rfl⟩ (ble rfl) dL_areSumsRight_463 rfl ?_
    refine x_isub dL_areSumsRight_466 ?_
    refine x_iload_n 1 dL_areSumsRight_467 rfl rfl ?_
    refine x_icmp_ne 475 dL_areSumsRight_468 (by decide) (fun z => by first | exact absurd z (by rw [← e3]; exact sub_sub_n _ _) | exact absurd (by rw [← e3]; exact sub_sub_n _ _) z) (fun _ => ?_)
    refine x_iconst (v := 1) dL_areSumsRight_471 rfl ?_
    refine x_goto 476 dL_areSumsRight_472 (by decide) ?_
    refine x_zret rfl (by first | rfl | (split <;> rfl) | (unfold b2i; split <;> rfl)) dL_areSumsRight_476 ?_
    exact ⟨rfl, rfl⟩
  have k225 : XX l G mL_areSumsRight (Rm 8 0 0) (KQ G (Rm 8 0 0) (fun w h' => w = some (.int 1) ∧ h' = h)) 0 0 225 [(4, .int 1), (3, .int 0), (2, .int 0), (1, .int (sm (fun i => N (12 + 4 * i) * N (15 + 4 * i)) (ns))), (0, .ref (Ad G 0))] [] h := by
    refine x_iconst (v := 0) dL_areSumsRight_225 rfl ?_
    refine x_istore (L' := [(5, _), (4, _), (3, _), (2, _), (1, _), (0, _)]) dL_areSumsRight_226 (ble rfl) rfl ?_
    refine x_locs (L' := [(5, _), (4, _), (3, _), (2, _), (1, _), (0, _)]) [0, 1, 2, 3, 4, 5] rfl ?_
    exact as_o ok C R J k423 no 0 (by omega)
  refine x_iconst (v := 0) dL_areSumsRight_0 rfl ?_
  refine x_istore_n (L' := [(1, _), (0, _)]) dL_areSumsRight_1 rfl (ble rfl) rfl ?_
  refine x_iconst (v := 0) dL_areSumsRight_2 rfl ?_
  refine x_istore_n (L' := [(2, _), (1, _), (0, _)]) dL_areSumsRight_3 rfl (ble rfl) rfl ?_
  refine x_iconst (v := 0) dL_areSumsRight_4 rfl ?_
  refine x_istore_n (L' := [(3, _), (2, _), (1, _), (0, _)]) dL_areSumsRight_5 rfl (ble rfl) rfl ?_
  first | refine x_aload_n 3 dL_areSumsRight_6 rfl rfl ?_ | refine x_aload_nN 3 dL_areSumsRight_6 rfl rfl ?_
  refine x_cV1 (As := []) (q_cp ok C) vL_106 rfl (x_rcC C) rfl ⟨ble rfl, ble rfl⟩ (ble rfl) dL_areSumsRight_7 rfl ?_
  first | refine x_aload_n 3 dL_areSumsRight_10 rfl rfl ?_ | refine x_aload_nN 3 dL_areSumsRight_10 rfl rfl ?_
  refine x_cV1 (As := []) (q_ca ok C) vL_110 rfl (x_rcC C) rfl ⟨ble rfl, ble rfl⟩ (ble rfl) dL_areSumsRight_11 rfl ?_
  refine x_icmp_ne 61 dL_areSumsRight_14 (by decide) (fun z => by first | exact absurd z (cp) | exact absurd (cp) z) (fun _ => ?_)
  first | refine x_aload_n 3 dL_areSumsRight_17 rfl rfl ?_ | refine x_aload_nN 3 dL_areSumsRight_17 rfl rfl ?_
  refine x_cV1 (As := []) (q_co ok C) vL_113 rfl (x_rcC C) rfl ⟨ble rfl, ble rfl⟩ (ble rfl) dL_areSumsRight_18 rfl ?_
  first | refine x_aload_n 3 dL_areSumsRight_21 rfl rfl ?_ | refine x_aload_nN 3 dL_areSumsRight_21 rfl rfl ?_
  refine x_iconst (v := 0) dL_areSumsRight_22 rfl ?_
  refine x_cV1 (As := [.int _]) (q_ac0 ok C) vL_28 rfl (x_rcC C) rfl ⟨ble rfl, ble rfl⟩ (ble rfl) dL_areSumsRight_23 rfl ?_
  refine x_icmp_ne 61 dL_areSumsRight_26 (by decide) (fun z => by first | exact absurd z (c6) | exact absurd (c6) z) (fun _ => ?_)
  first | refine x_aload_n 3 dL_areSumsRight_29 rfl rfl ?_ | refine x_aload_nN 3 dL_areSumsRight_29 rfl rfl ?_
  refine x_cV1 (As := []) (q_ba ok C) vL_116 rfl (x_rcC C) rfl ⟨ble rfl, ble rfl⟩ (ble rfl) dL_areSumsRight_30 rfl ?_
  first | refine x_aload_n 3 dL_areSumsRight_33 rfl rfl ?_ | refine x_aload_nN 3 dL_areSumsRight_33 rfl rfl ?_
  refine x_iconst (v := 1) dL_areSumsRight_34 rfl ?_
  refine x_cV1 (As := [.int _]) (q_ac1 ok C) vL_28 rfl (x_rcC C) rfl ⟨ble rfl, ble rfl⟩ (ble rfl) dL_areSumsRight_35 rfl ?_
  refine x_icmp_ne 61 dL_areSumsRight_38 (by decide) (fun z => by first | exact absurd z (c7) | exact absurd (c7) z) (fun _ => ?_)
  first | refine x_aload_n 3 dL_areSumsRight_41 rfl rfl ?_ | refine x_aload_nN 3 dL_areSumsRight_41 rfl rfl ?_
  refine x_iconst (v := 0) dL_areSumsRight_42 rfl ?_
  refine x_cV1 (As := [.int _]) (q_ac0 ok C) vL_28 rfl (x_rcC C) rfl ⟨ble rfl, ble rfl⟩ (ble rfl) dL_areSumsRight_43 rfl ?_
  refine x_if_lt 61 dL_areSumsRight_46 (by decide) (fun z => by first | exact absurd z (n0) | exact absurd (n0) z) (fun _ => ?_)
  first | refine x_aload_n 3 dL_areSumsRight_49 rfl rfl ?_ | refine x_aload_nN 3 dL_areSumsRight_49 rfl rfl ?_
  refine x_iconst (v := 1) dL_areSumsRight_50 rfl ?_
  refine x_cV1 (As := [.int _]) (q_ac1 ok C) vL_28 rfl (x_rcC C) rfl ⟨ble rfl, ble rfl⟩ (ble rfl) dL_areSumsRight_51 rfl ?_
  refine x_if_lt 61 dL_areSumsRight_54 (by decide) (fun z => by first | exact absurd z (n1) | exact absurd (n1) z) (fun _ => ?_)
  refine x_iconst (v := 1) dL_areSumsRight_57 rfl ?_
  refine x_goto 62 dL_areSumsRight_58 (by decide) ?_
  refine x_istore (L' := [(4, _), (3, _), (2, _), (1, _), (0, _)]) dL_areSumsRight_62 (ble rfl) rfl ?_
  refine x_iconst (v := 0) dL_areSumsRight_64 rfl ?_
  refine x_istore (L' := [(5, _), (4, _), (3, _), (2, _), (1, _), (0, _)]) dL_areSumsRight_65 (ble rfl) rfl ?_
  refine x_locs (L' := [(5, _), (4, _), (3, _), (2, _), (1, _), (0, _)]) [0, 1, 2, 3, 4, 5] rfl ?_
  exact as_t ok C R J k225 ns 0 (by omega)
