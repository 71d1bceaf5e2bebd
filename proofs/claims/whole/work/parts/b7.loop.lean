theorem sub_4 {n i : Nat} (hn : n ≤ 2048) (hi : i < 2 ^ 30) (h : ¬ nI n - nI 4 < nI i) : i + 4 ≤ n := by
  by_cases q : 4 ≤ n
  · have e : nI n - nI 4 = nI (n - 4) := by
      have := nI_add (n - 4) 4
      rw [show n - 4 + 4 = n by omega] at this
      rw [← this, Int32.add_sub_cancel]
    rw [e] at h
    have := Nat.not_lt.mp (fun z : n - 4 < i => h (nI_lt z (by omega)))
    omega
  · exfalso
    refine h (Int32.lt_of_lt_of_le (b := 0) ?_ (le0 (by omega)))
    rcases (show n = 0 ∨ n = 1 ∨ n = 2 ∨ n = 3 by omega) with rfl | rfl | rfl | rfl <;> decide
/-- the answer of the law -/
def QT : Option Value → Hp → Prop := fun w _ => w = some (.int 1)
set_option maxRecDepth 100000 in
theorem law_loop {l : Launch} {G : Gl} {b n : Nat} {xs : Nat → Int32} {q : String} (ok : Ok G) (nb : ¬ G.2.2.1 b) (hn : n ≤ 2048) : ∀ (m i : Nat) (h : Hp), n < i + 4 * (m + 1) → i < 2 ^ 20 → Rel G h → XS (Scr b n xs) l G (mL q) RmL (KQ G RmL QT) (10 * m) (1300 * m) 18 [(3, .int (nI i)), (2, .ref (Ad G 20)), (1, .ref (Ad G 0)), (0, .ref b)] [] h
  | 0, i, h, hm, hi, R => by
    have hn31 : n < 2 ^ 31 := by omega
    refine y_iload_n 0 dL_law_18 rfl rfl ?_
    refine y_aload_n 3 dL_law_19 rfl rfl ?_
    refine y_slen nb dL_law_20 ?_
    refine y_iconst (v := nI 4) dL_law_21 (by decide) ?_
    refine y_isub dL_law_22 ?_
    refine y_icmp_gt 1321 dL_law_23 (by decide) (fun _ => ?_) (fun z => ?_)
    · refine y_iconst (v := 1) dL_law_1321 (by decide) ?_
      exact y_zret rfl rfl dL_law_1322 rfl
    · have := sub_4 hn (by omega) z
      omega
  | m + 1, i, h, hm, hi, R => by
    have hn31 : n < 2 ^ 31 := by omega
    refine y_iload_n 0 dL_law_18 rfl rfl ?_
    refine y_aload_n 3 dL_law_19 rfl rfl ?_
    refine y_slen nb dL_law_20 ?_
    refine y_iconst (v := nI 4) dL_law_21 (by decide) ?_
    refine y_isub dL_law_22 ?_
    refine y_icmp_gt 1321 dL_law_23 (by decide) (fun _ => ?_) (fun z => ?_)
    · refine y_iconst (v := 1) dL_law_1321 (by decide) ?_
      exact y_zret rfl rfl dL_law_1322 rfl
    · have h4 := sub_4 hn (by omega) z
      have kk : ∀ h', Rel G h' → XS (Scr b n xs) l G (mL q) RmL (KQ G RmL QT) (10 * m) (1300 * m) 1315 [(3, .int (nI i)), (2, .ref (Ad G 20)), (1, .ref (Ad G 0)), (0, .ref b)] [] h' := fun h' R' => by
        refine y_iinc (j := 0) (nI (i + 4)) dL_law_1315 rfl (by rw [← nI_add]; rfl) (ble rfl) rfl ?_
        refine y_goto 18 dL_law_1318 (by decide) ?_
        exact law_loop ok nb hn m (i + 4) h' (by omega) (by omega) R'
      have hm' : 10 + 10 * m ≤ 10 * (m + 1) ∧ 1300 + 1300 * m ≤ 1300 * (m + 1) := ⟨by omega, by omega⟩
      refine y_aload_n 3 dL_law_26 rfl rfl ?_
      refine y_iload_n 0 dL_law_27 rfl rfl ?_
      refine y_sld nb (show i < n by omega) hn31 dL_law_28 ?_
      refine y_bipush (v := 63) dL_law_29 (by decide) ?_
      refine y_iand dL_law_31 ?_
      obtain ⟨w, hw, e⟩ := and63 (xs i)
      refine y_eqS (st' := [.int (nI w)]) (by rw [e]) ?_
      by_cases hw2 : w ≤ 42
      · rcases (show w = 0 ∨ w = 1 ∨ w = 2 ∨ w = 3 ∨ w = 4 ∨ w = 5 ∨ w = 6 ∨ w = 7 ∨ w = 8 ∨ w = 9 ∨ w = 10 ∨ w = 11 ∨ w = 12 ∨ w = 13 ∨ w = 14 ∨ w = 15 ∨ w = 16 ∨ w = 17 ∨ w = 18 ∨ w = 19 ∨ w = 20 ∨ w = 21 ∨ w = 22 ∨ w = 23 ∨ w = 24 ∨ w = 25 ∨ w = 26 ∨ w = 27 ∨ w = 28 ∨ w = 29 ∨ w = 30 ∨ w = 31 ∨ w = 32 ∨ w = 33 ∨ w = 34 ∨ w = 35 ∨ w = 36 ∨ w = 37 ∨ w = 38 ∨ w = 39 ∨ w = 40 ∨ w = 41 ∨ w = 42 by omega) with rfl | rfl | rfl | rfl | rfl | rfl | rfl | rfl | rfl | rfl | rfl | rfl | rfl | rfl | rfl | rfl | rfl | rfl | rfl | rfl | rfl | rfl | rfl | rfl | rfl | rfl | rfl | rfl | rfl | rfl | rfl | rfl | rfl | rfl | rfl | rfl | rfl | rfl | rfl | rfl | rfl | rfl | rfl
        · exact y_tableIn 220 dL_law_32 (by decide) (by decide) (by rfl) (by decide) (lc_0 ok R nb (by omega) hn31 hm' kk)
        · exact y_tableIn 233 dL_law_32 (by decide) (by decide) (by rfl) (by decide) (lc_1 ok R nb (by omega) hn31 hm' kk)
        · exact y_tableIn 258 dL_law_32 (by decide) (by decide) (by rfl) (by decide) (lc_2 ok R nb (by omega) hn31 hm' kk)
        · exact y_tableIn 291 dL_law_32 (by decide) (by decide) (by rfl) (by decide) (lc_3 ok R nb (by omega) hn31 hm' kk)
        · exact y_tableIn 324 dL_law_32 (by decide) (by decide) (by rfl) (by decide) (lc_4 ok R nb (by omega) hn31 hm' kk)
        · exact y_tableIn 357 dL_law_32 (by decide) (by decide) (by rfl) (by decide) (lc_5 ok R nb (by omega) hn31 hm' kk)
        · exact y_tableIn 380 dL_law_32 (by decide) (by decide) (by rfl) (by decide) (lc_6 ok R nb (by omega) hn31 hm' kk)
        · exact y_tableIn 413 dL_law_32 (by decide) (by decide) (by rfl) (by decide) (lc_7 ok R nb (by omega) hn31 hm' kk)
        · exact y_tableIn 446 dL_law_32 (by decide) (by decide) (by rfl) (by decide) (lc_8 ok R nb (by omega) hn31 hm' kk)
        · exact y_tableIn 489 dL_law_32 (by decide) (by decide) (by rfl) (by decide) (lc_9 ok R nb (by omega) hn31 hm' kk)
        · exact y_tableIn 522 dL_law_32 (by decide) (by decide) (by rfl) (by decide) (lc_10 ok R nb (by omega) hn31 hm' kk)
        · exact y_tableIn 535 dL_law_32 (by decide) (by decide) (by rfl) (by decide) (lc_11 ok R nb (by omega) hn31 hm' kk)
        · exact y_tableIn 548 dL_law_32 (by decide) (by decide) (by rfl) (by decide) (lc_12 ok R nb (by omega) hn31 hm' kk)
        · exact y_tableIn 597 dL_law_32 (by decide) (by decide) (by rfl) (by decide) (lc_13 ok R nb (by omega) hn31 hm' kk)
        · exact y_tableIn 630 dL_law_32 (by decide) (by decide) (by rfl) (by decide) (lc_14 ok R nb (by omega) hn31 hm' kk)
        · exact y_tableIn 663 dL_law_32 (by decide) (by decide) (by rfl) (by decide) (lc_15 ok R nb (by omega) hn31 hm' kk)
        · exact y_tableIn 696 dL_law_32 (by decide) (by decide) (by rfl) (by decide) (lc_16 ok R nb (by omega) hn31 hm' kk)
        · exact y_tableIn 719 dL_law_32 (by decide) (by decide) (by rfl) (by decide) (lc_17 ok R nb (by omega) hn31 hm' kk)
        · exact y_tableIn 742 dL_law_32 (by decide) (by decide) (by rfl) (by decide) (lc_18 ok R nb (by omega) hn31 hm' kk)
        · exact y_tableIn 775 dL_law_32 (by decide) (by decide) (by rfl) (by decide) (lc_19 ok R nb (by omega) hn31 hm' kk)
        · exact y_tableIn 788 dL_law_32 (by decide) (by decide) (by rfl) (by decide) (lc_20 ok R nb (by omega) hn31 hm' kk)
        · exact y_tableIn 811 dL_law_32 (by decide) (by decide) (by rfl) (by decide) (lc_21 ok R nb (by omega) hn31 hm' kk)
        · exact y_tableIn 834 dL_law_32 (by decide) (by decide) (by rfl) (by decide) (lc_22 ok R nb (by omega) hn31 hm' kk)
        · exact y_tableIn 857 dL_law_32 (by decide) (by decide) (by rfl) (by decide) (lc_23 ok R nb (by omega) hn31 hm' kk)
        · exact y_tableIn 900 dL_law_32 (by decide) (by decide) (by rfl) (by decide) (lc_24 ok R nb (by omega) hn31 hm' kk)
        · exact y_tableIn 933 dL_law_32 (by decide) (by decide) (by rfl) (by decide) (lc_25 ok R nb (by omega) hn31 hm' kk)
        · exact y_tableIn 956 dL_law_32 (by decide) (by decide) (by rfl) (by decide) (lc_26 ok R nb (by omega) hn31 hm' kk)
        · exact y_tableIn 989 dL_law_32 (by decide) (by decide) (by rfl) (by decide) (lc_27 ok R nb (by omega) hn31 hm' kk)
        · exact y_tableIn 1022 dL_law_32 (by decide) (by decide) (by rfl) (by decide) (lc_28 ok R nb (by omega) hn31 hm' kk)
        · exact y_tableIn 1045 dL_law_32 (by decide) (by decide) (by rfl) (by decide) (lc_29 ok R nb (by omega) hn31 hm' kk)
        · exact y_tableIn 1058 dL_law_32 (by decide) (by decide) (by rfl) (by decide) (lc_30 ok R nb (by omega) hn31 hm' kk)
        · exact y_tableIn 1071 dL_law_32 (by decide) (by decide) (by rfl) (by decide) (lc_31 ok R nb (by omega) hn31 hm' kk)
        · exact y_tableIn 1084 dL_law_32 (by decide) (by decide) (by rfl) (by decide) (lc_32 ok R nb (by omega) hn31 hm' kk)
        · exact y_tableIn 1097 dL_law_32 (by decide) (by decide) (by rfl) (by decide) (lc_33 ok R nb (by omega) hn31 hm' kk)
        · exact y_tableIn 1110 dL_law_32 (by decide) (by decide) (by rfl) (by decide) (lc_34 ok R nb (by omega) hn31 hm' kk)
        · exact y_tableIn 1123 dL_law_32 (by decide) (by decide) (by rfl) (by decide) (lc_35 ok R nb (by omega) hn31 hm' kk)
        · exact y_tableIn 1146 dL_law_32 (by decide) (by decide) (by rfl) (by decide) (lc_36 ok R nb (by omega) hn31 hm' kk)
        · exact y_tableIn 1169 dL_law_32 (by decide) (by decide) (by rfl) (by decide) (lc_37 ok R nb (by omega) hn31 hm' kk)
        · exact y_tableIn 1212 dL_law_32 (by decide) (by decide) (by rfl) (by decide) (lc_38 ok R nb (by omega) hn31 hm' kk)
        · exact y_tableIn 1253 dL_law_32 (by decide) (by decide) (by rfl) (by decide) (lc_39 ok R nb (by omega) hn31 hm' kk)
        · exact y_tableIn 1276 dL_law_32 (by decide) (by decide) (by rfl) (by decide) (lc_40 ok R nb (by omega) hn31 hm' kk)
        · exact y_tableIn 1289 dL_law_32 (by decide) (by decide) (by rfl) (by decide) (lc_41 ok R nb (by omega) hn31 hm' kk)
        · exact y_tableIn 1302 dL_law_32 (by decide) (by decide) (by rfl) (by decide) (lc_42 ok R nb (by omega) hn31 hm' kk)
      · refine y_tableOut 1315 dL_law_32 (Or.inr ?_) (by decide) (y_bud (by omega) (by omega) (kk h R))
        rw [nI_toInt (by omega)]
        omega
