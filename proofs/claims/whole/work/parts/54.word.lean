def wl (u : Nat) : Nat := bg (5 + u + 1) - bg (5 + u)
theorem wl_t : ∀ u, u < 6 → bg (5 + u) ≤ bg (5 + u + 1) ∧ bg (5 + u + 1) ≤ 50 ∧ 0 < wl u ∧ wl u ≤ 5 ∧ wl u + 1 = tsLen (3 + u) ∧ tsC (3 + u) (wl u) = 32 ∧ ∀ j, j < wl u → tsC 11 (bg (5 + u) + j) = tsC (3 + u) j := by decide +kernel
def mw (tx : List Int32) (a u j : Nat) : Prop := a + j < tx.length ∧ tx.getD (a + j) 0 = tsC 11 (bg (5 + u) + j)
/-- how far each word goes -/
def MlP (tx : List Int32) (a : Nat) (ml : Nat → Nat) : Prop := ∀ u, u < 6 → ml u ≤ wl u ∧ (∀ j, j < ml u → mw tx a u j) ∧ (ml u = wl u ∨ ¬ mw tx a u (ml u))
def fdW (ml : Nat → Nat) : Nat → Int32
  | 0 => -1
  | i + 1 => if ml i = wl i then nI (5 + i) else -1
def faF (ml : Nat → Nat) (a : Nat) : Nat → Nat
  | 0 => a
  | i + 1 => max (faF ml a i) (a + ml i)
theorem fdW_n {ml : Nat → Nat} {n : Nat} (h : ∀ u, u + 1 < n → ml u ≠ wl u) : ∀ i, i < n → fdW ml i = -1
  | 0, _ => rfl
  | i + 1, hi => if_neg (h i hi)
theorem faF_le {ml : Nat → Nat} {a : Nat} (ha : a ≤ 60) : ∀ i, (∀ u, u < i → ml u ≤ 5) → faF ml a i ≤ 65
  | 0, _ => by show a ≤ 65; omega
  | i + 1, h => by
    have h1 := faF_le (ml := ml) ha i (fun u hu => h u (by omega))
    have h2 := h i (by omega)
    show max _ _ ≤ 65
    omega
theorem mxI2 {p q : Nat} (hp : p ≤ 1000) (hq : q ≤ 1000) : (if nI p < nI q then nI q else nI p) = nI (max p q) := by
  by_cases z : p < q
  · rw [if_pos (nI_lt z (by omega)), Nat.max_eq_right (by omega)]
  · rw [if_neg (nI_nlt (by omega) (by omega)), Nat.max_eq_left (by omega)]
theorem nI5 : ∀ v, ¬ nI (5 + v % 1000) = -1 := by
  intro v e
  exact absurd (show nI (5 + v % 1000) < 0 by rw [e]; decide) (nI_pos (by omega))
set_option maxRecDepth 100000 in
set_option maxHeartbeats 1000000 in
theorem ct_word_y {l : Launch} {G : Gl} {h : Hp} {sv rem typ err lin why wha beh its tol : Int32} {N : Nat → Int32} (ok : Ok G) {tv : Nat → Int32} (htext : h (Ad G 27) = some (eI G 60 tv)) {tx : List Int32} {a : Nat} (hT : ∀ i, i < tx.length → tv i = tx.getD i 0) (h60 : tx.length ≤ 60) (ha60 : a ≤ 60) {ml : Nat → Nat} (hml : MlP tx a ml) {v : Nat} (hv : v < 6) (hfull : ml v = wl v) (hnf : ∀ u, u < v → ml u ≠ wl u) : CtR l G mX12_word 6 [.ref (Ad G 20)] (mH G h (eMd G sv rem typ err lin why wha beh its (nI tx.length) (nI (a)) (-1) tol) N) (some (.int (nI (5 + v)))) (mH G h (eMd G sv rem typ err lin why wha beh its (nI tx.length) (nI (a + wl v)) (-1) tol) N) := by
  have n5 : ¬ nI (5 + v) = -1 := fun e => absurd (show nI (5 + v) < 0 by rw [e]; decide) (nI_pos (by omega))
  refine Ct.of (L := [(0, _)]) (by decide) (ble rfl) rfl ?_
  first | refine x_aload_n 0 dX12_word_0 rfl rfl ?_ | refine x_aload_nN 0 dX12_word_0 rfl rfl ?_
  refine x_get fX12_248 rfl dX12_word_1 (by with_reducible repeat first | assumption | exact mH_0 ok | exact mH_1 | exact hset_s | refine mH_o (by first | assumption | exact nA ok (by omega) (by omega) (by omega)) (by first | assumption | exact nA ok (by omega) (by omega) (by omega)) ?_ | refine hget_n (by first | assumption | exact Ne.symm (by assumption) | exact nA ok (by omega) (by omega) (by omega)) ?_) (by rfl) ?_
  refine x_iconst (v := -1) dX12_word_4 rfl ?_
  refine x_icmp_eq 10 dX12_word_5 (by decide) (fun _ => ?_) (fun z => by first | exact absurd (rfl) z | exact absurd z (rfl))
  first | refine x_aload_n 0 dX12_word_10 rfl rfl ?_ | refine x_aload_nN 0 dX12_word_10 rfl rfl ?_
  refine x_get fX12_242 rfl dX12_word_11 (by with_reducible repeat first | assumption | exact mH_0 ok | exact mH_1 | exact hset_s | refine mH_o (by first | assumption | exact nA ok (by omega) (by omega) (by omega)) (by first | assumption | exact nA ok (by omega) (by omega) (by omega)) ?_ | refine hget_n (by first | assumption | exact Ne.symm (by assumption) | exact nA ok (by omega) (by omega) (by omega)) ?_) (by rfl) ?_
  refine x_istore_n (L' := [(1, _), (0, _)]) dX12_word_14 rfl (ble rfl) rfl ?_
  refine x_iconst (v := -1) dX12_word_15 rfl ?_
  refine x_istore_n (L' := [(2, _), (1, _), (0, _)]) dX12_word_16 rfl (ble rfl) rfl ?_
  refine x_iconst (v := 5) dX12_word_17 rfl ?_
  refine x_istore_n (L' := [(3, _), (2, _), (1, _), (0, _)]) dX12_word_18 rfl (ble rfl) rfl ?_
  refine x_locs (L' := [(3, _), (2, _), (1, _), (0, _)]) [0, 1, 2, 3] rfl ?_
  refine dn (P := fun i => XX l G mX12_word (Rm 6 0 0) (KQ G (Rm 6 0 0) (fun w h' => w = some (.int (nI (5 + v))) ∧ h' = (mH G h (eMd G sv rem typ err lin why wha beh its (nI tx.length) (nI (a + wl v)) (-1) tol) N))) 0 0 19 [(3, .int (nI (5 + i))), (2, .int (fdW ml i)), (1, .int (nI (faF ml a i))), (0, .ref (Ad G 20))] [] (mH G h (eMd G sv rem typ err lin why wha beh its (nI tx.length) (nI (a)) (-1) tol) N)) (n := (v + 1)) ?_ (fun i hi ihi => ?_)
  · have hfn : fdW ml (v + 1) = nI (5 + v) := if_pos hfull
    obtain ⟨w1, w2, w3, w4, w5, w6, w7⟩ := wl_t v hv
    refine x_iload_n 0 dX12_word_19 rfl rfl ?_
    refine x_bipush (v := 10) dX12_word_20 rfl ?_
    refine x_icmp_gt 131 dX12_word_22 (by decide) (fun c22 => ?_) (fun c22 => ?_)
    · first | refine x_aload_n 3 dX12_word_131 rfl rfl ?_ | refine x_aload_nN 3 dX12_word_131 rfl rfl ?_
      refine x_iload_n 1 dX12_word_132 rfl rfl ?_
      refine x_iconst (v := -1) dX12_word_133 rfl ?_
      refine x_icmp_ne 141 dX12_word_134 (by decide) (fun _ => ?_) (fun z => by first | exact absurd (by rw [hfn]; exact n5) z | exact absurd z (by rw [hfn]; exact n5))
      first | refine x_aload_n 3 dX12_word_141 rfl rfl ?_ | refine x_aload_nN 3 dX12_word_141 rfl rfl ?_
      refine x_get fX12_248 rfl dX12_word_142 (by with_reducible repeat first | assumption | exact mH_0 ok | exact mH_1 | exact hset_s | refine mH_o (by first | assumption | exact nA ok (by omega) (by omega) (by omega)) (by first | assumption | exact nA ok (by omega) (by omega) (by omega)) ?_ | refine hget_n (by first | assumption | exact Ne.symm (by assumption) | exact nA ok (by omega) (by omega) (by omega)) ?_) (by rfl) ?_
      refine x_mput ok fX12_248 rfl rfl rfl rfl dX12_word_145 (by exact ble rfl) ?_
      first | refine x_aload_n 3 dX12_word_148 rfl rfl ?_ | refine x_aload_nN 3 dX12_word_148 rfl rfl ?_
      refine x_dup dX12_word_149 rfl ?_
      refine x_get fX12_242 rfl dX12_word_150 (by with_reducible repeat first | assumption | exact mH_0 ok | exact mH_1 | exact hset_s | refine mH_o (by first | assumption | exact nA ok (by omega) (by omega) (by omega)) (by first | assumption | exact nA ok (by omega) (by omega) (by omega)) ?_ | refine hget_n (by first | assumption | exact Ne.symm (by assumption) | exact nA ok (by omega) (by omega) (by omega)) ?_) (by rfl) ?_
      refine x_iload_n 1 dX12_word_153 rfl rfl ?_
      refine x_iconst (v := -1) dX12_word_154 rfl ?_
      refine x_icmp_ne 162 dX12_word_155 (by decide) (fun _ => ?_) (fun z => by first | exact absurd (by rw [hfn]; exact n5) z | exact absurd z (by rw [hfn]; exact n5))
      refine x_iload_n 1 dX12_word_162 rfl rfl ?_
      refine x_iconst (v := 1) dX12_word_163 rfl ?_
      refine x_iadd dX12_word_164 ?_
      rw [hfn, nI_1]
      refine x_cS1 (As := [.int _]) (ct_begin (w := 5 + v + 1) (by omega)) vX12_219 rfl rfl ⟨ble rfl, ble rfl⟩ (ble rfl) dX12_word_165 rfl ?_
      refine x_iload_n 1 dX12_word_168 rfl rfl ?_
      refine x_cS1 (As := [.int _]) (ct_begin (w := 5 + v) (by omega)) vX12_219 rfl rfl ⟨ble rfl, ble rfl⟩ (ble rfl) dX12_word_169 rfl ?_
      refine x_isub dX12_word_172 ?_
      rw [nI_sub' w1]
      refine x_iadd dX12_word_173 ?_
      rw [nI_add]
      refine x_mput ok fX12_242 rfl rfl rfl rfl dX12_word_174 (by exact ble rfl) ?_
      refine x_iload_n 1 dX12_word_177 rfl rfl ?_
      refine x_iconst (v := -1) dX12_word_178 rfl ?_
      refine x_icmp_ne 186 dX12_word_179 (by decide) (fun _ => ?_) (fun z => by first | exact absurd (n5) z | exact absurd z (n5))
      refine x_iload_n 1 dX12_word_186 rfl rfl ?_
      refine x_iret rfl dX12_word_187 ?_
      (try rw [hfn])
      exact ⟨rfl, rfl⟩
    · refine x_iload_n 1 dX12_word_25 rfl rfl ?_
      refine x_iconst (v := -1) dX12_word_26 rfl ?_
      refine x_icmp_ne 131 dX12_word_27 (by decide) (fun _ => ?_) (fun z => by first | exact absurd (by rw [hfn]; exact n5) z | exact absurd z (by rw [hfn]; exact n5))
      first | refine x_aload_n 3 dX12_word_131 rfl rfl ?_ | refine x_aload_nN 3 dX12_word_131 rfl rfl ?_
      refine x_iload_n 1 dX12_word_132 rfl rfl ?_
      refine x_iconst (v := -1) dX12_word_133 rfl ?_
      refine x_icmp_ne 141 dX12_word_134 (by decide) (fun _ => ?_) (fun z => by first | exact absurd (by rw [hfn]; exact n5) z | exact absurd z (by rw [hfn]; exact n5))
      first | refine x_aload_n 3 dX12_word_141 rfl rfl ?_ | refine x_aload_nN 3 dX12_word_141 rfl rfl ?_
      refine x_get fX12_248 rfl dX12_word_142 (by with_reducible repeat first | assumption | exact mH_0 ok | exact mH_1 | exact hset_s | refine mH_o (by first | assumption | exact nA ok (by omega) (by omega) (by omega)) (by first | assumption | exact nA ok (by omega) (by omega) (by omega)) ?_ | refine hget_n (by first | assumption | exact Ne.symm (by assumption) | exact nA ok (by omega) (by omega) (by omega)) ?_) (by rfl) ?_
      refine x_mput ok fX12_248 rfl rfl rfl rfl dX12_word_145 (by exact ble rfl) ?_
      first | refine x_aload_n 3 dX12_word_148 rfl rfl ?_ | refine x_aload_nN 3 dX12_word_148 rfl rfl ?_
      refine x_dup dX12_word_149 rfl ?_
      refine x_get fX12_242 rfl dX12_word_150 (by with_reducible repeat first | assumption | exact mH_0 ok | exact mH_1 | exact hset_s | refine mH_o (by first | assumption | exact nA ok (by omega) (by omega) (by omega)) (by first | assumption | exact nA ok (by omega) (by omega) (by omega)) ?_ | refine hget_n (by first | assumption | exact Ne.symm (by assumption) | exact nA ok (by omega) (by omega) (by omega)) ?_) (by rfl) ?_
      refine x_iload_n 1 dX12_word_153 rfl rfl ?_
      refine x_iconst (v := -1) dX12_word_154 rfl ?_
      refine x_icmp_ne 162 dX12_word_155 (by decide) (fun _ => ?_) (fun z => by first | exact absurd (by rw [hfn]; exact n5) z | exact absurd z (by rw [hfn]; exact n5))
      refine x_iload_n 1 dX12_word_162 rfl rfl ?_
      refine x_iconst (v := 1) dX12_word_163 rfl ?_
      refine x_iadd dX12_word_164 ?_
      rw [hfn, nI_1]
      refine x_cS1 (As := [.int _]) (ct_begin (w := 5 + v + 1) (by omega)) vX12_219 rfl rfl ⟨ble rfl, ble rfl⟩ (ble rfl) dX12_word_165 rfl ?_
      refine x_iload_n 1 dX12_word_168 rfl rfl ?_
      refine x_cS1 (As := [.int _]) (ct_begin (w := 5 + v) (by omega)) vX12_219 rfl rfl ⟨ble rfl, ble rfl⟩ (ble rfl) dX12_word_169 rfl ?_
      refine x_isub dX12_word_172 ?_
      rw [nI_sub' w1]
      refine x_iadd dX12_word_173 ?_
      rw [nI_add]
      refine x_mput ok fX12_242 rfl rfl rfl rfl dX12_word_174 (by exact ble rfl) ?_
      refine x_iload_n 1 dX12_word_177 rfl rfl ?_
      refine x_iconst (v := -1) dX12_word_178 rfl ?_
      refine x_icmp_ne 186 dX12_word_179 (by decide) (fun _ => ?_) (fun z => by first | exact absurd (n5) z | exact absurd z (n5))
      refine x_iload_n 1 dX12_word_186 rfl rfl ?_
      refine x_iret rfl dX12_word_187 ?_
      (try rw [hfn])
      exact ⟨rfl, rfl⟩
  · have hfi := fdW_n (ml := ml) (n := (v + 1)) (by intro u hu; exact hnf u (by omega)) i hi
    obtain ⟨w1, w2, w3, w4, w5, w6, w7⟩ := wl_t i (by omega)
    obtain ⟨hm1, hm2, hm3⟩ := hml i (by omega)
    have hfl := faF_le (ml := ml) ha60 i (fun u hu => by have := (hml u (by omega)).1; have := (wl_t u (by omega)).2.2.2.1; omega)
    have hwl : bg (5 + i) + wl i = bg (5 + i + 1) := by unfold wl; omega
    refine x_iload_n 0 dX12_word_19 rfl rfl ?_
    refine x_bipush (v := 10) dX12_word_20 rfl ?_
    refine x_icmp_gt 131 dX12_word_22 (by decide) (fun z => by first | exact absurd z (nI_nlt (a := 10) (b := 5 + i) (by omega) (by omega)) | exact absurd (nI_nlt (a := 10) (b := 5 + i) (by omega) (by omega)) z) (fun _ => ?_)
    refine x_iload_n 1 dX12_word_25 rfl rfl ?_
    refine x_iconst (v := -1) dX12_word_26 rfl ?_
    refine x_icmp_ne 131 dX12_word_27 (by decide) (fun z => by first | exact absurd z (fun z => z hfi) | exact absurd (fun z => z hfi) z) (fun _ => ?_)
    refine x_iload_n 0 dX12_word_30 rfl rfl ?_
    refine x_iconst (v := 1) dX12_word_31 rfl ?_
    refine x_iadd dX12_word_32 ?_
    rw [nI_1]
    refine x_cS1 (As := [.int _]) (ct_begin (w := 5 + i + 1) (by omega)) vX12_219 rfl rfl ⟨ble rfl, ble rfl⟩ (ble rfl) dX12_word_33 rfl ?_
    refine x_iload_n 0 dX12_word_36 rfl rfl ?_
    refine x_cS1 (As := [.int _]) (ct_begin (w := 5 + i) (by omega)) vX12_219 rfl rfl ⟨ble rfl, ble rfl⟩ (ble rfl) dX12_word_37 rfl ?_
    refine x_isub dX12_word_40 ?_
    rw [nI_sub' w1]
    refine x_istore (L' := [(4, _), (3, _), (2, _), (1, _), (0, _)]) dX12_word_41 (ble rfl) rfl ?_
    refine x_iconst (v := 0) dX12_word_43 rfl ?_
    refine x_istore (L' := [(5, _), (4, _), (3, _), (2, _), (1, _), (0, _)]) dX12_word_44 (ble rfl) rfl ?_
    refine x_locs (L' := [(5, _), (4, _), (3, _), (2, _), (1, _), (0, _)]) [0, 1, 2, 3, 4, 5] rfl ?_
    refine dn (P := fun k => XX l G mX12_word (Rm 6 0 0) (KQ G (Rm 6 0 0) (fun w h' => w = some (.int (nI (5 + v))) ∧ h' = (mH G h (eMd G sv rem typ err lin why wha beh its (nI tx.length) (nI (a + wl v)) (-1) tol) N))) 0 0 46 [(5, .int (nI k)), (4, .int (nI (wl i))), (3, .int (nI (5 + i))), (2, .int (fdW ml i)), (1, .int (nI (faF ml a i))), (0, .ref (Ad G 20))] [] (mH G h (eMd G sv rem typ err lin why wha beh its (nI tx.length) (nI (a)) (-1) tol) N)) (n := (ml i)) ?_ (fun k hk ihk => ?_)
    · refine x_iload 0 dX12_word_46 rfl ?_
      refine x_iload 1 dX12_word_48 rfl ?_
      refine x_icmp_ge 100 dX12_word_50 (by decide) (fun c50 => ?_) (fun c50 => ?_)
      · refine x_iload_n 4 dX12_word_100 rfl rfl ?_
        first | refine x_aload_n 5 dX12_word_101 rfl rfl ?_ | refine x_aload_nN 5 dX12_word_101 rfl rfl ?_
        refine x_get fX12_242 rfl dX12_word_102 (by with_reducible repeat first | assumption | exact mH_0 ok | exact mH_1 | exact hset_s | refine mH_o (by first | assumption | exact nA ok (by omega) (by omega) (by omega)) (by first | assumption | exact nA ok (by omega) (by omega) (by omega)) ?_ | refine hget_n (by first | assumption | exact Ne.symm (by assumption) | exact nA ok (by omega) (by omega) (by omega)) ?_) (by rfl) ?_
        refine x_iload 0 dX12_word_105 rfl ?_
        refine x_iadd dX12_word_107 ?_
        rw [nI_add]
        refine x_mmax rfl wX12_108 wMmax2 wMath3 wMmax4 (ble rfl) (ble rfl) dX12_word_108 ?_
        rw [mxI2 (by omega) (by omega)]
        refine x_istore_n (L' := [(1, _), (5, _), (4, _), (3, _), (2, _), (0, _)]) dX12_word_111 rfl (ble rfl) rfl ?_
        refine x_iload 1 dX12_word_112 rfl ?_
        refine x_iload 2 dX12_word_114 rfl ?_
        refine x_icmp_ne 123 dX12_word_116 (by decide) (fun c116 => ?_) (fun c116 => ?_)
        · refine x_iload_n 4 dX12_word_123 rfl rfl ?_
          refine x_istore_n (L' := [(2, _), (1, _), (5, _), (4, _), (3, _), (0, _)]) dX12_word_124 rfl (ble rfl) rfl ?_
          refine x_iinc (L' := [(3, _), (2, _), (1, _), (5, _), (4, _), (0, _)]) (j := 4) (nI (_ + 1)) dX12_word_125 rfl (nI_1 _) (ble rfl) rfl ?_
          refine x_goto 19 dX12_word_128 (by decide) ?_
          refine x_locs (L' := [(3, _), (2, _), (1, _), (0, _)]) [0, 1, 2, 5] rfl ?_
          refine x_eqL ?_ ihi
          rw [show fdW ml (i + 1) = if ml i = wl i then nI (5 + i) else -1 from rfl]
          first | (rw [if_neg (fun z => c116 (by rw [z])), hfi] <;> rfl) | (rw [if_pos ((nI_eq (by omega) (by omega)).mp c116)] <;> rfl)
        · refine x_iload_n 3 dX12_word_119 rfl rfl ?_
          refine x_goto 124 dX12_word_120 (by decide) ?_
          refine x_istore_n (L' := [(2, _), (1, _), (5, _), (4, _), (3, _), (0, _)]) dX12_word_124 rfl (ble rfl) rfl ?_
          refine x_iinc (L' := [(3, _), (2, _), (1, _), (5, _), (4, _), (0, _)]) (j := 4) (nI (_ + 1)) dX12_word_125 rfl (nI_1 _) (ble rfl) rfl ?_
          refine x_goto 19 dX12_word_128 (by decide) ?_
          refine x_locs (L' := [(3, _), (2, _), (1, _), (0, _)]) [0, 1, 2, 5] rfl ?_
          refine x_eqL ?_ ihi
          rw [show fdW ml (i + 1) = if ml i = wl i then nI (5 + i) else -1 from rfl]
          first | (rw [if_neg (fun z => c116 (by rw [z])), hfi] <;> rfl) | (rw [if_pos ((nI_eq (by omega) (by omega)).mp c116)] <;> rfl)
      · first | refine x_aload_n 5 dX12_word_53 rfl rfl ?_ | refine x_aload_nN 5 dX12_word_53 rfl rfl ?_
        refine x_get fX12_242 rfl dX12_word_54 (by with_reducible repeat first | assumption | exact mH_0 ok | exact mH_1 | exact hset_s | refine mH_o (by first | assumption | exact nA ok (by omega) (by omega) (by omega)) (by first | assumption | exact nA ok (by omega) (by omega) (by omega)) ?_ | refine hget_n (by first | assumption | exact Ne.symm (by assumption) | exact nA ok (by omega) (by omega) (by omega)) ?_) (by rfl) ?_
        refine x_iload 0 dX12_word_57 rfl ?_
        refine x_iadd dX12_word_59 ?_
        rw [nI_add]
        first | refine x_aload_n 5 dX12_word_60 rfl rfl ?_ | refine x_aload_nN 5 dX12_word_60 rfl rfl ?_
        refine x_get fX12_245 rfl dX12_word_61 (by with_reducible repeat first | assumption | exact mH_0 ok | exact mH_1 | exact hset_s | refine mH_o (by first | assumption | exact nA ok (by omega) (by omega) (by omega)) (by first | assumption | exact nA ok (by omega) (by omega) (by omega)) ?_ | refine hget_n (by first | assumption | exact Ne.symm (by assumption) | exact nA ok (by omega) (by omega) (by omega)) ?_) (by rfl) ?_
        refine x_icmp_ge 100 dX12_word_64 (by decide) (fun c64 => ?_) (fun c64 => ?_)
        · refine x_iload_n 4 dX12_word_100 rfl rfl ?_
          first | refine x_aload_n 5 dX12_word_101 rfl rfl ?_ | refine x_aload_nN 5 dX12_word_101 rfl rfl ?_
          refine x_get fX12_242 rfl dX12_word_102 (by with_reducible repeat first | assumption | exact mH_0 ok | exact mH_1 | exact hset_s | refine mH_o (by first | assumption | exact nA ok (by omega) (by omega) (by omega)) (by first | assumption | exact nA ok (by omega) (by omega) (by omega)) ?_ | refine hget_n (by first | assumption | exact Ne.symm (by assumption) | exact nA ok (by omega) (by omega) (by omega)) ?_) (by rfl) ?_
          refine x_iload 0 dX12_word_105 rfl ?_
          refine x_iadd dX12_word_107 ?_
          rw [nI_add]
          refine x_mmax rfl wX12_108 wMmax2 wMath3 wMmax4 (ble rfl) (ble rfl) dX12_word_108 ?_
          rw [mxI2 (by omega) (by omega)]
          refine x_istore_n (L' := [(1, _), (5, _), (4, _), (3, _), (2, _), (0, _)]) dX12_word_111 rfl (ble rfl) rfl ?_
          refine x_iload 1 dX12_word_112 rfl ?_
          refine x_iload 2 dX12_word_114 rfl ?_
          refine x_icmp_ne 123 dX12_word_116 (by decide) (fun c116 => ?_) (fun c116 => ?_)
          · refine x_iload_n 4 dX12_word_123 rfl rfl ?_
            refine x_istore_n (L' := [(2, _), (1, _), (5, _), (4, _), (3, _), (0, _)]) dX12_word_124 rfl (ble rfl) rfl ?_
            refine x_iinc (L' := [(3, _), (2, _), (1, _), (5, _), (4, _), (0, _)]) (j := 4) (nI (_ + 1)) dX12_word_125 rfl (nI_1 _) (ble rfl) rfl ?_
            refine x_goto 19 dX12_word_128 (by decide) ?_
            refine x_locs (L' := [(3, _), (2, _), (1, _), (0, _)]) [0, 1, 2, 5] rfl ?_
            refine x_eqL ?_ ihi
            rw [show fdW ml (i + 1) = if ml i = wl i then nI (5 + i) else -1 from rfl]
            first | (rw [if_neg (fun z => c116 (by rw [z])), hfi] <;> rfl) | (rw [if_pos ((nI_eq (by omega) (by omega)).mp c116)] <;> rfl)
          · refine x_iload_n 3 dX12_word_119 rfl rfl ?_
            refine x_goto 124 dX12_word_120 (by decide) ?_
            refine x_istore_n (L' := [(2, _), (1, _), (5, _), (4, _), (3, _), (0, _)]) dX12_word_124 rfl (ble rfl) rfl ?_
            refine x_iinc (L' := [(3, _), (2, _), (1, _), (5, _), (4, _), (0, _)]) (j := 4) (nI (_ + 1)) dX12_word_125 rfl (nI_1 _) (ble rfl) rfl ?_
            refine x_goto 19 dX12_word_128 (by decide) ?_
            refine x_locs (L' := [(3, _), (2, _), (1, _), (0, _)]) [0, 1, 2, 5] rfl ?_
            refine x_eqL ?_ ihi
            rw [show fdW ml (i + 1) = if ml i = wl i then nI (5 + i) else -1 from rfl]
            first | (rw [if_neg (fun z => c116 (by rw [z])), hfi] <;> rfl) | (rw [if_pos ((nI_eq (by omega) (by omega)).mp c116)] <;> rfl)
        · first | refine x_aload_n 5 dX12_word_67 rfl rfl ?_ | refine x_aload_nN 5 dX12_word_67 rfl rfl ?_
          refine x_get fX12_28 rfl dX12_word_68 (by with_reducible repeat first | assumption | exact mH_0 ok | exact mH_1 | exact hset_s | refine mH_o (by first | assumption | exact nA ok (by omega) (by omega) (by omega)) (by first | assumption | exact nA ok (by omega) (by omega) (by omega)) ?_ | refine hget_n (by first | assumption | exact Ne.symm (by assumption) | exact nA ok (by omega) (by omega) (by omega)) ?_) (by rfl) ?_
          first | refine x_aload_n 5 dX12_word_71 rfl rfl ?_ | refine x_aload_nN 5 dX12_word_71 rfl rfl ?_
          refine x_get fX12_242 rfl dX12_word_72 (by with_reducible repeat first | assumption | exact mH_0 ok | exact mH_1 | exact hset_s | refine mH_o (by first | assumption | exact nA ok (by omega) (by omega) (by omega)) (by first | assumption | exact nA ok (by omega) (by omega) (by omega)) ?_ | refine hget_n (by first | assumption | exact Ne.symm (by assumption) | exact nA ok (by omega) (by omega) (by omega)) ?_) (by rfl) ?_
          refine x_iload 0 dX12_word_75 rfl ?_
          refine x_iadd dX12_word_77 ?_
          rw [nI_add]
          first | have hal := (hm2 k hk).1 | have hal : a + ml i < tx.length := Nat.not_le.mp fun q => c64 (nI_le q (by omega))
          refine x_ialdn dX12_word_78 (by with_reducible repeat first | assumption | exact mH_0 ok | exact mH_1 | exact hset_s | refine mH_o (by first | assumption | exact nA ok (by omega) (by omega) (by omega)) (by first | assumption | exact nA ok (by omega) (by omega) (by omega)) ?_ | refine hget_n (by first | assumption | exact Ne.symm (by assumption) | exact nA ok (by omega) (by omega) (by omega)) ?_) (by omega) (by first | decide | omega) ?_
          rw [hT _ hal]
          refine x_ldcS rfl (fun s hS => hS.2.2.2.2.2.1) dX12_word_79 ?_
          refine x_iload_n 2 dX12_word_81 rfl rfl ?_
          refine x_cS1 (As := [.int _]) (ct_begin (w := 5 + i) (by omega)) vX12_219 rfl rfl ⟨ble rfl, ble rfl⟩ (ble rfl) dX12_word_82 rfl ?_
          refine x_iload 0 dX12_word_85 rfl ?_
          refine x_iadd dX12_word_87 ?_
          rw [nI_add]
          refine x_cV1 (As := [.int _]) (ct_J0_charAt_5068e (k := 11) (by omega) (by rw [ts11]; first | omega | (have z := Nat.not_le.mp (fun q => c50 (nI_le q (by omega))); omega))) vX12_224 rfl (x_recvO (zT_obj (k := 11) (by omega))) rfl ⟨ble rfl, ble rfl⟩ (ble rfl) dX12_word_88 rfl ?_
          refine x_icmp_ne 100 dX12_word_91 (by decide) (fun c91 => ?_) (fun c91 => ?_)
          · refine x_iload_n 4 dX12_word_100 rfl rfl ?_
            first | refine x_aload_n 5 dX12_word_101 rfl rfl ?_ | refine x_aload_nN 5 dX12_word_101 rfl rfl ?_
            refine x_get fX12_242 rfl dX12_word_102 (by with_reducible repeat first | assumption | exact mH_0 ok | exact mH_1 | exact hset_s | refine mH_o (by first | assumption | exact nA ok (by omega) (by omega) (by omega)) (by first | assumption | exact nA ok (by omega) (by omega) (by omega)) ?_ | refine hget_n (by first | assumption | exact Ne.symm (by assumption) | exact nA ok (by omega) (by omega) (by omega)) ?_) (by rfl) ?_
            refine x_iload 0 dX12_word_105 rfl ?_
            refine x_iadd dX12_word_107 ?_
            rw [nI_add]
            refine x_mmax rfl wX12_108 wMmax2 wMath3 wMmax4 (ble rfl) (ble rfl) dX12_word_108 ?_
            rw [mxI2 (by omega) (by omega)]
            refine x_istore_n (L' := [(1, _), (5, _), (4, _), (3, _), (2, _), (0, _)]) dX12_word_111 rfl (ble rfl) rfl ?_
            refine x_iload 1 dX12_word_112 rfl ?_
            refine x_iload 2 dX12_word_114 rfl ?_
            refine x_icmp_ne 123 dX12_word_116 (by decide) (fun c116 => ?_) (fun c116 => ?_)
            · refine x_iload_n 4 dX12_word_123 rfl rfl ?_
              refine x_istore_n (L' := [(2, _), (1, _), (5, _), (4, _), (3, _), (0, _)]) dX12_word_124 rfl (ble rfl) rfl ?_
              refine x_iinc (L' := [(3, _), (2, _), (1, _), (5, _), (4, _), (0, _)]) (j := 4) (nI (_ + 1)) dX12_word_125 rfl (nI_1 _) (ble rfl) rfl ?_
              refine x_goto 19 dX12_word_128 (by decide) ?_
              refine x_locs (L' := [(3, _), (2, _), (1, _), (0, _)]) [0, 1, 2, 5] rfl ?_
              refine x_eqL ?_ ihi
              rw [show fdW ml (i + 1) = if ml i = wl i then nI (5 + i) else -1 from rfl]
              first | (rw [if_neg (fun z => c116 (by rw [z])), hfi] <;> rfl) | (rw [if_pos ((nI_eq (by omega) (by omega)).mp c116)] <;> rfl)
            · refine x_iload_n 3 dX12_word_119 rfl rfl ?_
              refine x_goto 124 dX12_word_120 (by decide) ?_
              refine x_istore_n (L' := [(2, _), (1, _), (5, _), (4, _), (3, _), (0, _)]) dX12_word_124 rfl (ble rfl) rfl ?_
              refine x_iinc (L' := [(3, _), (2, _), (1, _), (5, _), (4, _), (0, _)]) (j := 4) (nI (_ + 1)) dX12_word_125 rfl (nI_1 _) (ble rfl) rfl ?_
              refine x_goto 19 dX12_word_128 (by decide) ?_
              refine x_locs (L' := [(3, _), (2, _), (1, _), (0, _)]) [0, 1, 2, 5] rfl ?_
              refine x_eqL ?_ ihi
              rw [show fdW ml (i + 1) = if ml i = wl i then nI (5 + i) else -1 from rfl]
              first | (rw [if_neg (fun z => c116 (by rw [z])), hfi] <;> rfl) | (rw [if_pos ((nI_eq (by omega) (by omega)).mp c116)] <;> rfl)
          · exfalso
            exact hm3.elim (fun z => c50 (by rw [z]; exact Int32.le_refl _)) (fun z => z ⟨Nat.not_le.mp fun q => c64 (nI_le q (by omega)), c91⟩)
    · refine x_iload 0 dX12_word_46 rfl ?_
      refine x_iload 1 dX12_word_48 rfl ?_
      refine x_icmp_ge 100 dX12_word_50 (by decide) (fun z => by first | exact absurd z (nI_ge (by omega) (by omega)) | exact absurd (nI_ge (by omega) (by omega)) z) (fun _ => ?_)
      first | refine x_aload_n 5 dX12_word_53 rfl rfl ?_ | refine x_aload_nN 5 dX12_word_53 rfl rfl ?_
      refine x_get fX12_242 rfl dX12_word_54 (by with_reducible repeat first | assumption | exact mH_0 ok | exact mH_1 | exact hset_s | refine mH_o (by first | assumption | exact nA ok (by omega) (by omega) (by omega)) (by first | assumption | exact nA ok (by omega) (by omega) (by omega)) ?_ | refine hget_n (by first | assumption | exact Ne.symm (by assumption) | exact nA ok (by omega) (by omega) (by omega)) ?_) (by rfl) ?_
      refine x_iload 0 dX12_word_57 rfl ?_
      refine x_iadd dX12_word_59 ?_
      rw [nI_add]
      first | refine x_aload_n 5 dX12_word_60 rfl rfl ?_ | refine x_aload_nN 5 dX12_word_60 rfl rfl ?_
      refine x_get fX12_245 rfl dX12_word_61 (by with_reducible repeat first | assumption | exact mH_0 ok | exact mH_1 | exact hset_s | refine mH_o (by first | assumption | exact nA ok (by omega) (by omega) (by omega)) (by first | assumption | exact nA ok (by omega) (by omega) (by omega)) ?_ | refine hget_n (by first | assumption | exact Ne.symm (by assumption) | exact nA ok (by omega) (by omega) (by omega)) ?_) (by rfl) ?_
      refine x_icmp_ge 100 dX12_word_64 (by decide) (fun z => by first | exact absurd z (nI_ge (hm2 k hk).1 (by omega)) | exact absurd (nI_ge (hm2 k hk).1 (by omega)) z) (fun _ => ?_)
      first | refine x_aload_n 5 dX12_word_67 rfl rfl ?_ | refine x_aload_nN 5 dX12_word_67 rfl rfl ?_
      refine x_get fX12_28 rfl dX12_word_68 (by with_reducible repeat first | assumption | exact mH_0 ok | exact mH_1 | exact hset_s | refine mH_o (by first | assumption | exact nA ok (by omega) (by omega) (by omega)) (by first | assumption | exact nA ok (by omega) (by omega) (by omega)) ?_ | refine hget_n (by first | assumption | exact Ne.symm (by assumption) | exact nA ok (by omega) (by omega) (by omega)) ?_) (by rfl) ?_
      first | refine x_aload_n 5 dX12_word_71 rfl rfl ?_ | refine x_aload_nN 5 dX12_word_71 rfl rfl ?_
      refine x_get fX12_242 rfl dX12_word_72 (by with_reducible repeat first | assumption | exact mH_0 ok | exact mH_1 | exact hset_s | refine mH_o (by first | assumption | exact nA ok (by omega) (by omega) (by omega)) (by first | assumption | exact nA ok (by omega) (by omega) (by omega)) ?_ | refine hget_n (by first | assumption | exact Ne.symm (by assumption) | exact nA ok (by omega) (by omega) (by omega)) ?_) (by rfl) ?_
      refine x_iload 0 dX12_word_75 rfl ?_
      refine x_iadd dX12_word_77 ?_
      rw [nI_add]
      first | have hal := (hm2 k hk).1 | have hal : a + ml i < tx.length := Nat.not_le.mp fun q => c64 (nI_le q (by omega))
      refine x_ialdn dX12_word_78 (by with_reducible repeat first | assumption | exact mH_0 ok | exact mH_1 | exact hset_s | refine mH_o (by first | assumption | exact nA ok (by omega) (by omega) (by omega)) (by first | assumption | exact nA ok (by omega) (by omega) (by omega)) ?_ | refine hget_n (by first | assumption | exact Ne.symm (by assumption) | exact nA ok (by omega) (by omega) (by omega)) ?_) (by omega) (by first | decide | omega) ?_
      rw [hT _ hal]
      refine x_ldcS rfl (fun s hS => hS.2.2.2.2.2.1) dX12_word_79 ?_
      refine x_iload_n 2 dX12_word_81 rfl rfl ?_
      refine x_cS1 (As := [.int _]) (ct_begin (w := 5 + i) (by omega)) vX12_219 rfl rfl ⟨ble rfl, ble rfl⟩ (ble rfl) dX12_word_82 rfl ?_
      refine x_iload 0 dX12_word_85 rfl ?_
      refine x_iadd dX12_word_87 ?_
      rw [nI_add]
      refine x_cV1 (As := [.int _]) (ct_J0_charAt_5068e (k := 11) (by omega) (by rw [ts11]; first | omega | (have z := Nat.not_le.mp (fun q => c50 (nI_le q (by omega))); omega))) vX12_224 rfl (x_recvO (zT_obj (k := 11) (by omega))) rfl ⟨ble rfl, ble rfl⟩ (ble rfl) dX12_word_88 rfl ?_
      refine x_icmp_ne 100 dX12_word_91 (by decide) (fun z => by first | exact absurd z (fun z => z (hm2 k hk).2) | exact absurd (fun z => z (hm2 k hk).2) z) (fun _ => ?_)
      refine x_iinc (L' := [(5, _), (4, _), (3, _), (2, _), (1, _), (0, _)]) (j := 0) (nI (_ + 1)) dX12_word_94 rfl (nI_1 _) (ble rfl) rfl ?_
      refine x_goto 46 dX12_word_97 (by decide) ?_
      refine x_locs (L' := [(5, _), (4, _), (3, _), (2, _), (1, _), (0, _)]) [0, 1, 2, 3, 4, 5] rfl ?_
      exact ihk
set_option maxRecDepth 100000 in
set_option maxHeartbeats 1000000 in
theorem ct_word_n {l : Launch} {G : Gl} {h : Hp} {sv rem typ err lin why wha beh its tol : Int32} {N : Nat → Int32} (ok : Ok G) {tv : Nat → Int32} (htext : h (Ad G 27) = some (eI G 60 tv)) {tx : List Int32} {a : Nat} (hT : ∀ i, i < tx.length → tv i = tx.getD i 0) (h60 : tx.length ≤ 60) (ha60 : a ≤ 60) {ml : Nat → Nat} (hml : MlP tx a ml) (hnf : ∀ u, u < 6 → ml u ≠ wl u) : CtR l G mX12_word 6 [.ref (Ad G 20)] (mH G h (eMd G sv rem typ err lin why wha beh its (nI tx.length) (nI (a)) (-1) tol) N) (some (.int 5)) (mH G h (eMd G sv rem typ err lin why wha beh its (nI tx.length) (nI (a)) (nI (faF ml a 6)) tol) N) := by
  refine Ct.of (L := [(0, _)]) (by decide) (ble rfl) rfl ?_
  first | refine x_aload_n 0 dX12_word_0 rfl rfl ?_ | refine x_aload_nN 0 dX12_word_0 rfl rfl ?_
  refine x_get fX12_248 rfl dX12_word_1 (by with_reducible repeat first | assumption | exact mH_0 ok | exact mH_1 | exact hset_s | refine mH_o (by first | assumption | exact nA ok (by omega) (by omega) (by omega)) (by first | assumption | exact nA ok (by omega) (by omega) (by omega)) ?_ | refine hget_n (by first | assumption | exact Ne.symm (by assumption) | exact nA ok (by omega) (by omega) (by omega)) ?_) (by rfl) ?_
  refine x_iconst (v := -1) dX12_word_4 rfl ?_
  refine x_icmp_eq 10 dX12_word_5 (by decide) (fun _ => ?_) (fun z => by first | exact absurd (rfl) z | exact absurd z (rfl))
  first | refine x_aload_n 0 dX12_word_10 rfl rfl ?_ | refine x_aload_nN 0 dX12_word_10 rfl rfl ?_
  refine x_get fX12_242 rfl dX12_word_11 (by with_reducible repeat first | assumption | exact mH_0 ok | exact mH_1 | exact hset_s | refine mH_o (by first | assumption | exact nA ok (by omega) (by omega) (by omega)) (by first | assumption | exact nA ok (by omega) (by omega) (by omega)) ?_ | refine hget_n (by first | assumption | exact Ne.symm (by assumption) | exact nA ok (by omega) (by omega) (by omega)) ?_) (by rfl) ?_
  refine x_istore_n (L' := [(1, _), (0, _)]) dX12_word_14 rfl (ble rfl) rfl ?_
  refine x_iconst (v := -1) dX12_word_15 rfl ?_
  refine x_istore_n (L' := [(2, _), (1, _), (0, _)]) dX12_word_16 rfl (ble rfl) rfl ?_
  refine x_iconst (v := 5) dX12_word_17 rfl ?_
  refine x_istore_n (L' := [(3, _), (2, _), (1, _), (0, _)]) dX12_word_18 rfl (ble rfl) rfl ?_
  refine x_locs (L' := [(3, _), (2, _), (1, _), (0, _)]) [0, 1, 2, 3] rfl ?_
  refine dn (P := fun i => XX l G mX12_word (Rm 6 0 0) (KQ G (Rm 6 0 0) (fun w h' => w = some (.int 5) ∧ h' = (mH G h (eMd G sv rem typ err lin why wha beh its (nI tx.length) (nI (a)) (nI (faF ml a 6)) tol) N))) 0 0 19 [(3, .int (nI (5 + i))), (2, .int (fdW ml i)), (1, .int (nI (faF ml a i))), (0, .ref (Ad G 20))] [] (mH G h (eMd G sv rem typ err lin why wha beh its (nI tx.length) (nI (a)) (-1) tol) N)) (n := 6) ?_ (fun i hi ihi => ?_)
  · have hfn : fdW ml 6 = -1 := if_neg (hnf 5 (by omega))
    refine x_iload_n 0 dX12_word_19 rfl rfl ?_
    refine x_bipush (v := 10) dX12_word_20 rfl ?_
    refine x_icmp_gt 131 dX12_word_22 (by decide) (fun _ => ?_) (fun z => by first | exact absurd (show nI 10 < nI (5 + 6) by decide) z | exact absurd z (show nI 10 < nI (5 + 6) by decide))
    first | refine x_aload_n 3 dX12_word_131 rfl rfl ?_ | refine x_aload_nN 3 dX12_word_131 rfl rfl ?_
    refine x_iload_n 1 dX12_word_132 rfl rfl ?_
    refine x_iconst (v := -1) dX12_word_133 rfl ?_
    refine x_icmp_ne 141 dX12_word_134 (by decide) (fun z => by first | exact absurd z (fun z => z hfn) | exact absurd (fun z => z hfn) z) (fun _ => ?_)
    refine x_iload_n 2 dX12_word_137 rfl rfl ?_
    refine x_goto 145 dX12_word_138 (by decide) ?_
    refine x_mput ok fX12_248 rfl rfl rfl rfl dX12_word_145 (by exact ble rfl) ?_
    first | refine x_aload_n 3 dX12_word_148 rfl rfl ?_ | refine x_aload_nN 3 dX12_word_148 rfl rfl ?_
    refine x_dup dX12_word_149 rfl ?_
    refine x_get fX12_242 rfl dX12_word_150 (by with_reducible repeat first | assumption | exact mH_0 ok | exact mH_1 | exact hset_s | refine mH_o (by first | assumption | exact nA ok (by omega) (by omega) (by omega)) (by first | assumption | exact nA ok (by omega) (by omega) (by omega)) ?_ | refine hget_n (by first | assumption | exact Ne.symm (by assumption) | exact nA ok (by omega) (by omega) (by omega)) ?_) (by rfl) ?_
    refine x_iload_n 1 dX12_word_153 rfl rfl ?_
    refine x_iconst (v := -1) dX12_word_154 rfl ?_
    refine x_icmp_ne 162 dX12_word_155 (by decide) (fun z => by first | exact absurd z (fun z => z hfn) | exact absurd (fun z => z hfn) z) (fun _ => ?_)
    refine x_iconst (v := 0) dX12_word_158 rfl ?_
    refine x_goto 173 dX12_word_159 (by decide) ?_
    refine x_iadd dX12_word_173 ?_
    rw [Int32.add_zero]
    refine x_mput ok fX12_242 rfl rfl rfl rfl dX12_word_174 (by exact ble rfl) ?_
    refine x_iload_n 1 dX12_word_177 rfl rfl ?_
    refine x_iconst (v := -1) dX12_word_178 rfl ?_
    refine x_icmp_ne 186 dX12_word_179 (by decide) (fun z => by first | exact absurd z (fun z => z hfn) | exact absurd (fun z => z hfn) z) (fun _ => ?_)
    refine x_iconst (v := 5) dX12_word_182 rfl ?_
    refine x_goto 187 dX12_word_183 (by decide) ?_
    refine x_iret rfl dX12_word_187 ?_
    exact ⟨rfl, rfl⟩
  · have hfi := fdW_n (ml := ml) (n := 6) (by intro u hu; exact hnf u (by omega)) i hi
    obtain ⟨w1, w2, w3, w4, w5, w6, w7⟩ := wl_t i (by omega)
    obtain ⟨hm1, hm2, hm3⟩ := hml i (by omega)
    have hfl := faF_le (ml := ml) ha60 i (fun u hu => by have := (hml u (by omega)).1; have := (wl_t u (by omega)).2.2.2.1; omega)
    have hwl : bg (5 + i) + wl i = bg (5 + i + 1) := by unfold wl; omega
    refine x_iload_n 0 dX12_word_19 rfl rfl ?_
    refine x_bipush (v := 10) dX12_word_20 rfl ?_
    refine x_icmp_gt 131 dX12_word_22 (by decide) (fun z => by first | exact absurd z (nI_nlt (a := 10) (b := 5 + i) (by omega) (by omega)) | exact absurd (nI_nlt (a := 10) (b := 5 + i) (by omega) (by omega)) z) (fun _ => ?_)
    refine x_iload_n 1 dX12_word_25 rfl rfl ?_
    refine x_iconst (v := -1) dX12_word_26 rfl ?_
    refine x_icmp_ne 131 dX12_word_27 (by decide) (fun z => by first | exact absurd z (fun z => z hfi) | exact absurd (fun z => z hfi) z) (fun _ => ?_)
    refine x_iload_n 0 dX12_word_30 rfl rfl ?_
    refine x_iconst (v := 1) dX12_word_31 rfl ?_
    refine x_iadd dX12_word_32 ?_
    rw [nI_1]
    refine x_cS1 (As := [.int _]) (ct_begin (w := 5 + i + 1) (by omega)) vX12_219 rfl rfl ⟨ble rfl, ble rfl⟩ (ble rfl) dX12_word_33 rfl ?_
    refine x_iload_n 0 dX12_word_36 rfl rfl ?_
    refine x_cS1 (As := [.int _]) (ct_begin (w := 5 + i) (by omega)) vX12_219 rfl rfl ⟨ble rfl, ble rfl⟩ (ble rfl) dX12_word_37 rfl ?_
    refine x_isub dX12_word_40 ?_
    rw [nI_sub' w1]
    refine x_istore (L' := [(4, _), (3, _), (2, _), (1, _), (0, _)]) dX12_word_41 (ble rfl) rfl ?_
    refine x_iconst (v := 0) dX12_word_43 rfl ?_
    refine x_istore (L' := [(5, _), (4, _), (3, _), (2, _), (1, _), (0, _)]) dX12_word_44 (ble rfl) rfl ?_
    refine x_locs (L' := [(5, _), (4, _), (3, _), (2, _), (1, _), (0, _)]) [0, 1, 2, 3, 4, 5] rfl ?_
    refine dn (P := fun k => XX l G mX12_word (Rm 6 0 0) (KQ G (Rm 6 0 0) (fun w h' => w = some (.int 5) ∧ h' = (mH G h (eMd G sv rem typ err lin why wha beh its (nI tx.length) (nI (a)) (nI (faF ml a 6)) tol) N))) 0 0 46 [(5, .int (nI k)), (4, .int (nI (wl i))), (3, .int (nI (5 + i))), (2, .int (fdW ml i)), (1, .int (nI (faF ml a i))), (0, .ref (Ad G 20))] [] (mH G h (eMd G sv rem typ err lin why wha beh its (nI tx.length) (nI (a)) (-1) tol) N)) (n := (ml i)) ?_ (fun k hk ihk => ?_)
    · refine x_iload 0 dX12_word_46 rfl ?_
      refine x_iload 1 dX12_word_48 rfl ?_
      refine x_icmp_ge 100 dX12_word_50 (by decide) (fun c50 => ?_) (fun c50 => ?_)
      · refine x_iload_n 4 dX12_word_100 rfl rfl ?_
        first | refine x_aload_n 5 dX12_word_101 rfl rfl ?_ | refine x_aload_nN 5 dX12_word_101 rfl rfl ?_
        refine x_get fX12_242 rfl dX12_word_102 (by with_reducible repeat first | assumption | exact mH_0 ok | exact mH_1 | exact hset_s | refine mH_o (by first | assumption | exact nA ok (by omega) (by omega) (by omega)) (by first | assumption | exact nA ok (by omega) (by omega) (by omega)) ?_ | refine hget_n (by first | assumption | exact Ne.symm (by assumption) | exact nA ok (by omega) (by omega) (by omega)) ?_) (by rfl) ?_
        refine x_iload 0 dX12_word_105 rfl ?_
        refine x_iadd dX12_word_107 ?_
        rw [nI_add]
        refine x_mmax rfl wX12_108 wMmax2 wMath3 wMmax4 (ble rfl) (ble rfl) dX12_word_108 ?_
        rw [mxI2 (by omega) (by omega)]
        refine x_istore_n (L' := [(1, _), (5, _), (4, _), (3, _), (2, _), (0, _)]) dX12_word_111 rfl (ble rfl) rfl ?_
        refine x_iload 1 dX12_word_112 rfl ?_
        refine x_iload 2 dX12_word_114 rfl ?_
        refine x_icmp_ne 123 dX12_word_116 (by decide) (fun c116 => ?_) (fun c116 => ?_)
        · refine x_iload_n 4 dX12_word_123 rfl rfl ?_
          refine x_istore_n (L' := [(2, _), (1, _), (5, _), (4, _), (3, _), (0, _)]) dX12_word_124 rfl (ble rfl) rfl ?_
          refine x_iinc (L' := [(3, _), (2, _), (1, _), (5, _), (4, _), (0, _)]) (j := 4) (nI (_ + 1)) dX12_word_125 rfl (nI_1 _) (ble rfl) rfl ?_
          refine x_goto 19 dX12_word_128 (by decide) ?_
          refine x_locs (L' := [(3, _), (2, _), (1, _), (0, _)]) [0, 1, 2, 5] rfl ?_
          refine x_eqL ?_ ihi
          rw [show fdW ml (i + 1) = if ml i = wl i then nI (5 + i) else -1 from rfl]
          first | (rw [if_neg (fun z => c116 (by rw [z])), hfi] <;> rfl) | (rw [if_pos ((nI_eq (by omega) (by omega)).mp c116)] <;> rfl)
        · refine x_iload_n 3 dX12_word_119 rfl rfl ?_
          refine x_goto 124 dX12_word_120 (by decide) ?_
          refine x_istore_n (L' := [(2, _), (1, _), (5, _), (4, _), (3, _), (0, _)]) dX12_word_124 rfl (ble rfl) rfl ?_
          refine x_iinc (L' := [(3, _), (2, _), (1, _), (5, _), (4, _), (0, _)]) (j := 4) (nI (_ + 1)) dX12_word_125 rfl (nI_1 _) (ble rfl) rfl ?_
          refine x_goto 19 dX12_word_128 (by decide) ?_
          refine x_locs (L' := [(3, _), (2, _), (1, _), (0, _)]) [0, 1, 2, 5] rfl ?_
          refine x_eqL ?_ ihi
          rw [show fdW ml (i + 1) = if ml i = wl i then nI (5 + i) else -1 from rfl]
          first | (rw [if_neg (fun z => c116 (by rw [z])), hfi] <;> rfl) | (rw [if_pos ((nI_eq (by omega) (by omega)).mp c116)] <;> rfl)
      · first | refine x_aload_n 5 dX12_word_53 rfl rfl ?_ | refine x_aload_nN 5 dX12_word_53 rfl rfl ?_
        refine x_get fX12_242 rfl dX12_word_54 (by with_reducible repeat first | assumption | exact mH_0 ok | exact mH_1 | exact hset_s | refine mH_o (by first | assumption | exact nA ok (by omega) (by omega) (by omega)) (by first | assumption | exact nA ok (by omega) (by omega) (by omega)) ?_ | refine hget_n (by first | assumption | exact Ne.symm (by assumption) | exact nA ok (by omega) (by omega) (by omega)) ?_) (by rfl) ?_
        refine x_iload 0 dX12_word_57 rfl ?_
        refine x_iadd dX12_word_59 ?_
        rw [nI_add]
        first | refine x_aload_n 5 dX12_word_60 rfl rfl ?_ | refine x_aload_nN 5 dX12_word_60 rfl rfl ?_
        refine x_get fX12_245 rfl dX12_word_61 (by with_reducible repeat first | assumption | exact mH_0 ok | exact mH_1 | exact hset_s | refine mH_o (by first | assumption | exact nA ok (by omega) (by omega) (by omega)) (by first | assumption | exact nA ok (by omega) (by omega) (by omega)) ?_ | refine hget_n (by first | assumption | exact Ne.symm (by assumption) | exact nA ok (by omega) (by omega) (by omega)) ?_) (by rfl) ?_
        refine x_icmp_ge 100 dX12_word_64 (by decide) (fun c64 => ?_) (fun c64 => ?_)
        · refine x_iload_n 4 dX12_word_100 rfl rfl ?_
          first | refine x_aload_n 5 dX12_word_101 rfl rfl ?_ | refine x_aload_nN 5 dX12_word_101 rfl rfl ?_
          refine x_get fX12_242 rfl dX12_word_102 (by with_reducible repeat first | assumption | exact mH_0 ok | exact mH_1 | exact hset_s | refine mH_o (by first | assumption | exact nA ok (by omega) (by omega) (by omega)) (by first | assumption | exact nA ok (by omega) (by omega) (by omega)) ?_ | refine hget_n (by first | assumption | exact Ne.symm (by assumption) | exact nA ok (by omega) (by omega) (by omega)) ?_) (by rfl) ?_
          refine x_iload 0 dX12_word_105 rfl ?_
          refine x_iadd dX12_word_107 ?_
          rw [nI_add]
          refine x_mmax rfl wX12_108 wMmax2 wMath3 wMmax4 (ble rfl) (ble rfl) dX12_word_108 ?_
          rw [mxI2 (by omega) (by omega)]
          refine x_istore_n (L' := [(1, _), (5, _), (4, _), (3, _), (2, _), (0, _)]) dX12_word_111 rfl (ble rfl) rfl ?_
          refine x_iload 1 dX12_word_112 rfl ?_
          refine x_iload 2 dX12_word_114 rfl ?_
          refine x_icmp_ne 123 dX12_word_116 (by decide) (fun c116 => ?_) (fun c116 => ?_)
          · refine x_iload_n 4 dX12_word_123 rfl rfl ?_
            refine x_istore_n (L' := [(2, _), (1, _), (5, _), (4, _), (3, _), (0, _)]) dX12_word_124 rfl (ble rfl) rfl ?_
            refine x_iinc (L' := [(3, _), (2, _), (1, _), (5, _), (4, _), (0, _)]) (j := 4) (nI (_ + 1)) dX12_word_125 rfl (nI_1 _) (ble rfl) rfl ?_
            refine x_goto 19 dX12_word_128 (by decide) ?_
            refine x_locs (L' := [(3, _), (2, _), (1, _), (0, _)]) [0, 1, 2, 5] rfl ?_
            refine x_eqL ?_ ihi
            rw [show fdW ml (i + 1) = if ml i = wl i then nI (5 + i) else -1 from rfl]
            first | (rw [if_neg (fun z => c116 (by rw [z])), hfi] <;> rfl) | (rw [if_pos ((nI_eq (by omega) (by omega)).mp c116)] <;> rfl)
          · refine x_iload_n 3 dX12_word_119 rfl rfl ?_
            refine x_goto 124 dX12_word_120 (by decide) ?_
            refine x_istore_n (L' := [(2, _), (1, _), (5, _), (4, _), (3, _), (0, _)]) dX12_word_124 rfl (ble rfl) rfl ?_
            refine x_iinc (L' := [(3, _), (2, _), (1, _), (5, _), (4, _), (0, _)]) (j := 4) (nI (_ + 1)) dX12_word_125 rfl (nI_1 _) (ble rfl) rfl ?_
            refine x_goto 19 dX12_word_128 (by decide) ?_
            refine x_locs (L' := [(3, _), (2, _), (1, _), (0, _)]) [0, 1, 2, 5] rfl ?_
            refine x_eqL ?_ ihi
            rw [show fdW ml (i + 1) = if ml i = wl i then nI (5 + i) else -1 from rfl]
            first | (rw [if_neg (fun z => c116 (by rw [z])), hfi] <;> rfl) | (rw [if_pos ((nI_eq (by omega) (by omega)).mp c116)] <;> rfl)
        · first | refine x_aload_n 5 dX12_word_67 rfl rfl ?_ | refine x_aload_nN 5 dX12_word_67 rfl rfl ?_
          refine x_get fX12_28 rfl dX12_word_68 (by with_reducible repeat first | assumption | exact mH_0 ok | exact mH_1 | exact hset_s | refine mH_o (by first | assumption | exact nA ok (by omega) (by omega) (by omega)) (by first | assumption | exact nA ok (by omega) (by omega) (by omega)) ?_ | refine hget_n (by first | assumption | exact Ne.symm (by assumption) | exact nA ok (by omega) (by omega) (by omega)) ?_) (by rfl) ?_
          first | refine x_aload_n 5 dX12_word_71 rfl rfl ?_ | refine x_aload_nN 5 dX12_word_71 rfl rfl ?_
          refine x_get fX12_242 rfl dX12_word_72 (by with_reducible repeat first | assumption | exact mH_0 ok | exact mH_1 | exact hset_s | refine mH_o (by first | assumption | exact nA ok (by omega) (by omega) (by omega)) (by first | assumption | exact nA ok (by omega) (by omega) (by omega)) ?_ | refine hget_n (by first | assumption | exact Ne.symm (by assumption) | exact nA ok (by omega) (by omega) (by omega)) ?_) (by rfl) ?_
          refine x_iload 0 dX12_word_75 rfl ?_
          refine x_iadd dX12_word_77 ?_
          rw [nI_add]
          first | have hal := (hm2 k hk).1 | have hal : a + ml i < tx.length := Nat.not_le.mp fun q => c64 (nI_le q (by omega))
          refine x_ialdn dX12_word_78 (by with_reducible repeat first | assumption | exact mH_0 ok | exact mH_1 | exact hset_s | refine mH_o (by first | assumption | exact nA ok (by omega) (by omega) (by omega)) (by first | assumption | exact nA ok (by omega) (by omega) (by omega)) ?_ | refine hget_n (by first | assumption | exact Ne.symm (by assumption) | exact nA ok (by omega) (by omega) (by omega)) ?_) (by omega) (by first | decide | omega) ?_
          rw [hT _ hal]
          refine x_ldcS rfl (fun s hS => hS.2.2.2.2.2.1) dX12_word_79 ?_
          refine x_iload_n 2 dX12_word_81 rfl rfl ?_
          refine x_cS1 (As := [.int _]) (ct_begin (w := 5 + i) (by omega)) vX12_219 rfl rfl ⟨ble rfl, ble rfl⟩ (ble rfl) dX12_word_82 rfl ?_
          refine x_iload 0 dX12_word_85 rfl ?_
          refine x_iadd dX12_word_87 ?_
          rw [nI_add]
          refine x_cV1 (As := [.int _]) (ct_J0_charAt_5068e (k := 11) (by omega) (by rw [ts11]; first | omega | (have z := Nat.not_le.mp (fun q => c50 (nI_le q (by omega))); omega))) vX12_224 rfl (x_recvO (zT_obj (k := 11) (by omega))) rfl ⟨ble rfl, ble rfl⟩ (ble rfl) dX12_word_88 rfl ?_
          refine x_icmp_ne 100 dX12_word_91 (by decide) (fun c91 => ?_) (fun c91 => ?_)
          · refine x_iload_n 4 dX12_word_100 rfl rfl ?_
            first | refine x_aload_n 5 dX12_word_101 rfl rfl ?_ | refine x_aload_nN 5 dX12_word_101 rfl rfl ?_
            refine x_get fX12_242 rfl dX12_word_102 (by with_reducible repeat first | assumption | exact mH_0 ok | exact mH_1 | exact hset_s | refine mH_o (by first | assumption | exact nA ok (by omega) (by omega) (by omega)) (by first | assumption | exact nA ok (by omega) (by omega) (by omega)) ?_ | refine hget_n (by first | assumption | exact Ne.symm (by assumption) | exact nA ok (by omega) (by omega) (by omega)) ?_) (by rfl) ?_
            refine x_iload 0 dX12_word_105 rfl ?_
            refine x_iadd dX12_word_107 ?_
            rw [nI_add]
            refine x_mmax rfl wX12_108 wMmax2 wMath3 wMmax4 (ble rfl) (ble rfl) dX12_word_108 ?_
            rw [mxI2 (by omega) (by omega)]
            refine x_istore_n (L' := [(1, _), (5, _), (4, _), (3, _), (2, _), (0, _)]) dX12_word_111 rfl (ble rfl) rfl ?_
            refine x_iload 1 dX12_word_112 rfl ?_
            refine x_iload 2 dX12_word_114 rfl ?_
            refine x_icmp_ne 123 dX12_word_116 (by decide) (fun c116 => ?_) (fun c116 => ?_)
            · refine x_iload_n 4 dX12_word_123 rfl rfl ?_
              refine x_istore_n (L' := [(2, _), (1, _), (5, _), (4, _), (3, _), (0, _)]) dX12_word_124 rfl (ble rfl) rfl ?_
              refine x_iinc (L' := [(3, _), (2, _), (1, _), (5, _), (4, _), (0, _)]) (j := 4) (nI (_ + 1)) dX12_word_125 rfl (nI_1 _) (ble rfl) rfl ?_
              refine x_goto 19 dX12_word_128 (by decide) ?_
              refine x_locs (L' := [(3, _), (2, _), (1, _), (0, _)]) [0, 1, 2, 5] rfl ?_
              refine x_eqL ?_ ihi
              rw [show fdW ml (i + 1) = if ml i = wl i then nI (5 + i) else -1 from rfl]
              first | (rw [if_neg (fun z => c116 (by rw [z])), hfi] <;> rfl) | (rw [if_pos ((nI_eq (by omega) (by omega)).mp c116)] <;> rfl)
            · refine x_iload_n 3 dX12_word_119 rfl rfl ?_
              refine x_goto 124 dX12_word_120 (by decide) ?_
              refine x_istore_n (L' := [(2, _), (1, _), (5, _), (4, _), (3, _), (0, _)]) dX12_word_124 rfl (ble rfl) rfl ?_
              refine x_iinc (L' := [(3, _), (2, _), (1, _), (5, _), (4, _), (0, _)]) (j := 4) (nI (_ + 1)) dX12_word_125 rfl (nI_1 _) (ble rfl) rfl ?_
              refine x_goto 19 dX12_word_128 (by decide) ?_
              refine x_locs (L' := [(3, _), (2, _), (1, _), (0, _)]) [0, 1, 2, 5] rfl ?_
              refine x_eqL ?_ ihi
              rw [show fdW ml (i + 1) = if ml i = wl i then nI (5 + i) else -1 from rfl]
              first | (rw [if_neg (fun z => c116 (by rw [z])), hfi] <;> rfl) | (rw [if_pos ((nI_eq (by omega) (by omega)).mp c116)] <;> rfl)
          · exfalso
            exact hm3.elim (fun z => c50 (by rw [z]; exact Int32.le_refl _)) (fun z => z ⟨Nat.not_le.mp fun q => c64 (nI_le q (by omega)), c91⟩)
    · refine x_iload 0 dX12_word_46 rfl ?_
      refine x_iload 1 dX12_word_48 rfl ?_
      refine x_icmp_ge 100 dX12_word_50 (by decide) (fun z => by first | exact absurd z (nI_ge (by omega) (by omega)) | exact absurd (nI_ge (by omega) (by omega)) z) (fun _ => ?_)
      first | refine x_aload_n 5 dX12_word_53 rfl rfl ?_ | refine x_aload_nN 5 dX12_word_53 rfl rfl ?_
      refine x_get fX12_242 rfl dX12_word_54 (by with_reducible repeat first | assumption | exact mH_0 ok | exact mH_1 | exact hset_s | refine mH_o (by first | assumption | exact nA ok (by omega) (by omega) (by omega)) (by first | assumption | exact nA ok (by omega) (by omega) (by omega)) ?_ | refine hget_n (by first | assumption | exact Ne.symm (by assumption) | exact nA ok (by omega) (by omega) (by omega)) ?_) (by rfl) ?_
      refine x_iload 0 dX12_word_57 rfl ?_
      refine x_iadd dX12_word_59 ?_
      rw [nI_add]
      first | refine x_aload_n 5 dX12_word_60 rfl rfl ?_ | refine x_aload_nN 5 dX12_word_60 rfl rfl ?_
      refine x_get fX12_245 rfl dX12_word_61 (by with_reducible repeat first | assumption | exact mH_0 ok | exact mH_1 | exact hset_s | refine mH_o (by first | assumption | exact nA ok (by omega) (by omega) (by omega)) (by first | assumption | exact nA ok (by omega) (by omega) (by omega)) ?_ | refine hget_n (by first | assumption | exact Ne.symm (by assumption) | exact nA ok (by omega) (by omega) (by omega)) ?_) (by rfl) ?_
      refine x_icmp_ge 100 dX12_word_64 (by decide) (fun z => by first | exact absurd z (nI_ge (hm2 k hk).1 (by omega)) | exact absurd (nI_ge (hm2 k hk).1 (by omega)) z) (fun _ => ?_)
      first | refine x_aload_n 5 dX12_word_67 rfl rfl ?_ | refine x_aload_nN 5 dX12_word_67 rfl rfl ?_
      refine x_get fX12_28 rfl dX12_word_68 (by with_reducible repeat first | assumption | exact mH_0 ok | exact mH_1 | exact hset_s | refine mH_o (by first | assumption | exact nA ok (by omega) (by omega) (by omega)) (by first | assumption | exact nA ok (by omega) (by omega) (by omega)) ?_ | refine hget_n (by first | assumption | exact Ne.symm (by assumption) | exact nA ok (by omega) (by omega) (by omega)) ?_) (by rfl) ?_
      first | refine x_aload_n 5 dX12_word_71 rfl rfl ?_ | refine x_aload_nN 5 dX12_word_71 rfl rfl ?_
      refine x_get fX12_242 rfl dX12_word_72 (by with_reducible repeat first | assumption | exact mH_0 ok | exact mH_1 | exact hset_s | refine mH_o (by first | assumption | exact nA ok (by omega) (by omega) (by omega)) (by first | assumption | exact nA ok (by omega) (by omega) (by omega)) ?_ | refine hget_n (by first | assumption | exact Ne.symm (by assumption) | exact nA ok (by omega) (by omega) (by omega)) ?_) (by rfl) ?_
      refine x_iload 0 dX12_word_75 rfl ?_
      refine x_iadd dX12_word_77 ?_
      rw [nI_add]
      first | have hal := (hm2 k hk).1 | have hal : a + ml i < tx.length := Nat.not_le.mp fun q => c64 (nI_le q (by omega))
      refine x_ialdn dX12_word_78 (by with_reducible repeat first | assumption | exact mH_0 ok | exact mH_1 | exact hset_s | refine mH_o (by first | assumption | exact nA ok (by omega) (by omega) (by omega)) (by first | assumption | exact nA ok (by omega) (by omega) (by omega)) ?_ | refine hget_n (by first | assumption | exact Ne.symm (by assumption) | exact nA ok (by omega) (by omega) (by omega)) ?_) (by omega) (by first | decide | omega) ?_
      rw [hT _ hal]
      refine x_ldcS rfl (fun s hS => hS.2.2.2.2.2.1) dX12_word_79 ?_
      refine x_iload_n 2 dX12_word_81 rfl rfl ?_
      refine x_cS1 (As := [.int _]) (ct_begin (w := 5 + i) (by omega)) vX12_219 rfl rfl ⟨ble rfl, ble rfl⟩ (ble rfl) dX12_word_82 rfl ?_
      refine x_iload 0 dX12_word_85 rfl ?_
      refine x_iadd dX12_word_87 ?_
      rw [nI_add]
      refine x_cV1 (As := [.int _]) (ct_J0_charAt_5068e (k := 11) (by omega) (by rw [ts11]; first | omega | (have z := Nat.not_le.mp (fun q => c50 (nI_le q (by omega))); omega))) vX12_224 rfl (x_recvO (zT_obj (k := 11) (by omega))) rfl ⟨ble rfl, ble rfl⟩ (ble rfl) dX12_word_88 rfl ?_
      refine x_icmp_ne 100 dX12_word_91 (by decide) (fun z => by first | exact absurd z (fun z => z (hm2 k hk).2) | exact absurd (fun z => z (hm2 k hk).2) z) (fun _ => ?_)
      refine x_iinc (L' := [(5, _), (4, _), (3, _), (2, _), (1, _), (0, _)]) (j := 0) (nI (_ + 1)) dX12_word_94 rfl (nI_1 _) (ble rfl) rfl ?_
      refine x_goto 46 dX12_word_97 (by decide) ?_
      refine x_locs (L' := [(5, _), (4, _), (3, _), (2, _), (1, _), (0, _)]) [0, 1, 2, 3, 4, 5] rfl ?_
      exact ihk
