def cpN (f g : Nat → Int32) (at0 into n : Nat) : Nat → Int32 := fun q => if into ≤ q ∧ q < into + n then f (at0 + (q - into)) else g q
theorem cpN_0 (f g : Nat → Int32) (a b : Nat) : cpN f g a b 0 = g := by funext q; unfold cpN; rw [if_neg (by omega)]
theorem cpN_s (f g : Nat → Int32) (a b n : Nat) : upd (cpN f g a b n) (b + n) (f (a + n)) = cpN f g a b (n + 1) := by
  funext q
  unfold upd cpN
  by_cases h : q = b + n
  · subst h; rw [if_pos rfl, if_pos (by omega), show a + (b + n - b) = a + n by omega]
  · rw [if_neg h]
    by_cases h2 : b ≤ q ∧ q < b + n
    · rw [if_pos h2, if_pos (by omega)]
    · rw [if_neg h2, if_neg (by omega)]
def shN (f : Nat → Int32) (n : Nat) : Nat → Int32 := fun q => if q < n then f (q + 228) else f q
theorem shN_0 (f : Nat → Int32) : shN f 0 = f := by funext q; unfold shN; rw [if_neg (Nat.not_lt_zero q)]
theorem shN_s (f : Nat → Int32) (n : Nat) : upd (shN f n) n (shN f n (n + 228)) = shN f (n + 1) := by
  funext q
  unfold upd shN
  by_cases h : q = n
  · subst h; rw [if_pos rfl, if_neg (by omega), if_pos (by omega)]
  · rw [if_neg h]
    by_cases h2 : q < n
    · rw [if_pos h2, if_pos (by omega)]
    · rw [if_neg h2, if_neg (by omega)]
set_option maxRecDepth 100000 in
set_option maxHeartbeats 4000000 in
theorem ct_X12_copies {l : Launch} {G : Gl} {h : Hp} {a b na nb at0 into0 : Nat} {f g : Nat → Int32} (ha : h a = some (eI G na f)) (hb : h b = some (eI G nb g)) (hab : a ≠ b) (h1 : at0 + 228 ≤ na) (h2 : into0 + 228 ≤ nb) (hn1 : na ≤ 5000) (hn2 : nb ≤ 5000) (hA : G.2.2.1 b) : CtR l G mX12_copies 1 [.ref a, .int (nI at0), .ref b, .int (nI into0)] h (none) (hset h b (eI G nb (cpN f g at0 into0 228))) := by
  refine Ct.of (L := [(0, _), (1, _), (2, _), (3, _)]) (by decide) (ble rfl) rfl ?_
  refine x_iconst (v := 0) dX12_copies_0 rfl ?_
  refine x_istore (L' := [(4, _), (0, _), (1, _), (2, _), (3, _)]) dX12_copies_1 (ble rfl) rfl ?_
  refine x_eqH (h' := hset h b (eI G nb (cpN f g at0 into0 0))) (by rw [cpN_0, hset_self hb]) ?_
  refine x_locs (L' := [(4, _), (0, _), (1, _), (2, _), (3, _)]) [0, 1, 2, 3, 4] rfl ?_
  refine dn (P := fun i => XX l G mX12_copies (Rm 1 0 0) (KQ G (Rm 1 0 0) (fun w h' => w = none ∧ h' = (hset h b (eI G nb (cpN f g at0 into0 228))))) 0 0 3 [(4, .int (nI i)), (0, .ref a), (1, .int (nI at0)), (2, .ref b), (3, .int (nI into0))] [] (hset h b (eI G nb (cpN f g at0 into0 i)))) (n := 228) ?_ (fun i hi ihi => ?_)
  · refine x_iload 0 dX12_copies_3 rfl ?_
    refine x_sipush (v := 228) dX12_copies_5 rfl ?_
    refine x_icmp_ge 29 dX12_copies_8 (by decide) (fun _ => ?_) (fun z => by first | exact absurd (Int32.le_refl _) z | exact absurd z (Int32.le_refl _))
    refine x_vret rfl dX12_copies_29 ?_
    exact ⟨rfl, rfl⟩
  · have ha1 : hset h b (eI G nb (cpN f g at0 into0 i)) a = some (eI G na f) := hget_n hab ha
    refine x_iload 0 dX12_copies_3 rfl ?_
    refine x_sipush (v := 228) dX12_copies_5 rfl ?_
    refine x_icmp_ge 29 dX12_copies_8 (by decide) (fun z => by first | exact absurd z (show ¬ nI 228 ≤ nI i from nI_ge hi (by omega)) | exact absurd (show ¬ nI 228 ≤ nI i from nI_ge hi (by omega)) z) (fun _ => ?_)
    first | refine x_aload_n 3 dX12_copies_11 rfl rfl ?_ | refine x_aload_nN 3 dX12_copies_11 rfl rfl ?_
    refine x_iload_n 4 dX12_copies_12 rfl rfl ?_
    refine x_iload 0 dX12_copies_13 rfl ?_
    refine x_iadd dX12_copies_15 ?_
    rw [nI_add]
    first | refine x_aload_n 1 dX12_copies_16 rfl rfl ?_ | refine x_aload_nN 1 dX12_copies_16 rfl rfl ?_
    refine x_iload_n 2 dX12_copies_17 rfl rfl ?_
    refine x_iload 0 dX12_copies_18 rfl ?_
    refine x_iadd dX12_copies_20 ?_
    rw [nI_add]
    refine x_ialdn dX12_copies_21 (by with_reducible repeat first | assumption | exact mH_0 ok | exact mH_1 | exact hset_s | refine mH_o (by first | assumption | exact nA ok (by omega) (by omega) (by omega)) (by first | assumption | exact nA ok (by omega) (by omega) (by omega)) ?_ | refine hget_n (by first | assumption | exact Ne.symm (by assumption) | exact nA ok (by omega) (by omega) (by omega)) ?_) (by omega) (by first | decide | omega) ?_
    refine x_iastn dX12_copies_22 (by with_reducible repeat first | assumption | exact mH_0 ok | exact mH_1 | exact hset_s | refine mH_o (by first | assumption | exact nA ok (by omega) (by omega) (by omega)) (by first | assumption | exact nA ok (by omega) (by omega) (by omega)) ?_ | refine hget_n (by first | assumption | exact Ne.symm (by assumption) | exact nA ok (by omega) (by omega) (by omega)) ?_) (by omega) (by first | decide | omega) (by first | assumption | exact aA (by assumption) (by omega)) ?_
    refine x_iinc (L' := [(4, _), (0, _), (1, _), (2, _), (3, _)]) (j := 0) (nI (_ + 1)) dX12_copies_23 rfl (nI_1 _) (ble rfl) rfl ?_
    refine x_goto 3 dX12_copies_26 (by decide) ?_
    refine x_locs (L' := [(4, _), (0, _), (1, _), (2, _), (3, _)]) [0, 1, 2, 3, 4] rfl ?_
    rw [hset_2, cpN_s]
    exact ihi
set_option maxRecDepth 100000 in
set_option maxHeartbeats 4000000 in
theorem ct_X12_begins {l : Launch} {G : Gl} {h : Hp} {sv rem typ err lin why wha beh its siz att wro tol : Int32} {N : Nat → Int32} (ok : Ok G) {Bf : Nat → Int32} (hbefore : h (Ad G 22) = some (eI G 228 Bf)) : CtR l G mX12_begins 2 [.ref (Ad G 20)] (mH G h (eMd G sv rem typ err lin why wha beh its siz att wro tol) N) (none) (mH G (hset h (Ad G 22) (eI G 228 (cpN N Bf 0 0 228))) (eMd G sv rem typ err lin 0 wha 0 its siz att wro tol) N) := by
  have n2 : ∀ i, 21 < i → i < 32 → Ad G i ≠ Ad G 20 ∧ Ad G i ≠ Ad G 21 := fun i h1 h2 => ⟨nA ok (by omega) (by omega) (by omega), nA ok (by omega) (by omega) (by omega)⟩
  obtain ⟨m20, m21⟩ := n2 22 (by omega) (by omega)
  refine Ct.of (L := [(0, _)]) (by decide) (ble rfl) rfl ?_
  first | refine x_aload_n 0 dX12_begins_0 rfl rfl ?_ | refine x_aload_nN 0 dX12_begins_0 rfl rfl ?_
  refine x_get fX12_9 rfl dX12_begins_1 (by with_reducible repeat first | assumption | exact mH_0 ok | exact mH_1 | exact hset_s | refine mH_o (by first | assumption | exact nA ok (by omega) (by omega) (by omega)) (by first | assumption | exact nA ok (by omega) (by omega) (by omega)) ?_ | refine hget_n (by first | assumption | exact Ne.symm (by assumption) | exact nA ok (by omega) (by omega) (by omega)) ?_) (by rfl) ?_
  refine x_iconst (v := 0) dX12_begins_4 rfl ?_
  first | refine x_aload_n 0 dX12_begins_5 rfl rfl ?_ | refine x_aload_nN 0 dX12_begins_5 rfl rfl ?_
  refine x_get fX12_13 rfl dX12_begins_6 (by with_reducible repeat first | assumption | exact mH_0 ok | exact mH_1 | exact hset_s | refine mH_o (by first | assumption | exact nA ok (by omega) (by omega) (by omega)) (by first | assumption | exact nA ok (by omega) (by omega) (by omega)) ?_ | refine hget_n (by first | assumption | exact Ne.symm (by assumption) | exact nA ok (by omega) (by omega) (by omega)) ?_) (by rfl) ?_
  refine x_iconst (v := 0) dX12_begins_9 rfl ?_
  refine x_cS0 (As := [.ref _, .int _, .ref _, .int _]) (ct_X12_copies (at0 := 0) (into0 := 0) mH_1 (mH_o m20 m21 hbefore) (Ne.symm m21) (by omega) (by omega) (by omega) (by omega) (aA ok (by omega))) vX12_57 rfl rfl ⟨ble rfl, ble rfl⟩ (ble rfl) dX12_begins_10 rfl ?_
  refine x_eqH (mH_c m20 m21) ?_
  first | refine x_aload_n 0 dX12_begins_13 rfl rfl ?_ | refine x_aload_nN 0 dX12_begins_13 rfl rfl ?_
  refine x_iconst (v := 0) dX12_begins_14 rfl ?_
  refine x_mput ok fX12_51 rfl rfl rfl rfl dX12_begins_15 (by exact ble rfl) ?_
  first | refine x_aload_n 0 dX12_begins_18 rfl rfl ?_ | refine x_aload_nN 0 dX12_begins_18 rfl rfl ?_
  refine x_iconst (v := 0) dX12_begins_19 rfl ?_
  refine x_mput ok fX12_61 rfl rfl rfl rfl dX12_begins_20 (by exact ble rfl) ?_
  refine x_vret rfl dX12_begins_23 ?_
  exact ⟨rfl, rfl⟩
set_option maxRecDepth 100000 in
set_option maxHeartbeats 4000000 in
theorem ct_X12_keeps {l : Launch} {G : Gl} {h : Hp} {sv rem typ err lin why wha beh its siz att wro tol : Int32} {N : Nat → Int32} (ok : Ok G) {rs ds : Nat → Int32} (hreasons : h (Ad G 25) = some (eI G 3 rs)) (hdetails : h (Ad G 26) = some (eI G 3 ds)) {i : Nat} (hi : i < 3) (x y : Int32) : CtR l G mX12_keeps 1 [.ref (Ad G 20), .int (nI i), .int x, .int y] (mH G h (eMd G sv rem typ err lin why wha beh its siz att wro tol) N) (none) (mH G (hset (hset h (Ad G 25) (eI G 3 (upd rs i x))) (Ad G 26) (eI G 3 (upd ds i y))) (eMd G sv rem typ err lin why wha beh its siz att wro tol) N) := by
  have n2 : ∀ i, 21 < i → i < 32 → Ad G i ≠ Ad G 20 ∧ Ad G i ≠ Ad G 21 := fun i h1 h2 => ⟨nA ok (by omega) (by omega) (by omega), nA ok (by omega) (by omega) (by omega)⟩
  obtain ⟨m20, m21⟩ := n2 25 (by omega) (by omega)
  obtain ⟨m30, m31⟩ := n2 26 (by omega) (by omega)
  have m56 := nA ok (show 25 < 3000 by omega) (show 26 < 3000 by omega) (by omega)
  refine Ct.of (L := [(0, _), (1, _), (2, _), (3, _)]) (by decide) (ble rfl) rfl ?_
  first | refine x_aload_n 0 dX12_keeps_0 rfl rfl ?_ | refine x_aload_nN 0 dX12_keeps_0 rfl rfl ?_
  refine x_get fX12_22 rfl dX12_keeps_1 (by with_reducible repeat first | assumption | exact mH_0 ok | exact mH_1 | exact hset_s | refine mH_o (by first | assumption | exact nA ok (by omega) (by omega) (by omega)) (by first | assumption | exact nA ok (by omega) (by omega) (by omega)) ?_ | refine hget_n (by first | assumption | exact Ne.symm (by assumption) | exact nA ok (by omega) (by omega) (by omega)) ?_) (by rfl) ?_
  refine x_iload_n 1 dX12_keeps_4 rfl rfl ?_
  refine x_iload_n 2 dX12_keeps_5 rfl rfl ?_
  refine x_iastn dX12_keeps_6 (by with_reducible repeat first | assumption | exact mH_0 ok | exact mH_1 | exact hset_s | refine mH_o (by first | assumption | exact nA ok (by omega) (by omega) (by omega)) (by first | assumption | exact nA ok (by omega) (by omega) (by omega)) ?_ | refine hget_n (by first | assumption | exact Ne.symm (by assumption) | exact nA ok (by omega) (by omega) (by omega)) ?_) (by omega) (by first | decide | omega) (by first | assumption | exact aA (by assumption) (by omega)) ?_
  refine x_eqH (mH_c m20 m21) ?_
  first | refine x_aload_n 0 dX12_keeps_7 rfl rfl ?_ | refine x_aload_nN 0 dX12_keeps_7 rfl rfl ?_
  refine x_get fX12_25 rfl dX12_keeps_8 (by with_reducible repeat first | assumption | exact mH_0 ok | exact mH_1 | exact hset_s | refine mH_o (by first | assumption | exact nA ok (by omega) (by omega) (by omega)) (by first | assumption | exact nA ok (by omega) (by omega) (by omega)) ?_ | refine hget_n (by first | assumption | exact Ne.symm (by assumption) | exact nA ok (by omega) (by omega) (by omega)) ?_) (by rfl) ?_
  refine x_iload_n 1 dX12_keeps_11 rfl rfl ?_
  refine x_iload_n 3 dX12_keeps_12 rfl rfl ?_
  refine x_iastn dX12_keeps_13 (by with_reducible repeat first | assumption | exact mH_0 ok | exact mH_1 | exact hset_s | refine mH_o (by first | assumption | exact nA ok (by omega) (by omega) (by omega)) (by first | assumption | exact nA ok (by omega) (by omega) (by omega)) ?_ | refine hget_n (by first | assumption | exact Ne.symm (by assumption) | exact nA ok (by omega) (by omega) (by omega)) ?_) (by omega) (by first | decide | omega) (by first | assumption | exact aA (by assumption) (by omega)) ?_
  refine x_eqH (mH_c m30 m31) ?_
  refine x_vret rfl dX12_keeps_14 ?_
  exact ⟨rfl, rfl⟩
set_option maxRecDepth 100000 in
set_option maxHeartbeats 4000000 in
theorem ct_X12_rem_lt {l : Launch} {G : Gl} {h : Hp} {sv typ err lin why wha beh its siz att wro tol : Int32} {N : Nat → Int32} (ok : Ok G) {Bf Hf : Nat → Int32} {k : Nat} (hbefore : h (Ad G 22) = some (eI G 228 Bf)) (hhistory : h (Ad G 24) = some (eI G 1824 Hf)) (hk : k < 8) : CtR l G mX12_remembers 2 [.ref (Ad G 20)] (mH G h (eMd G sv (nI k) typ err lin why wha beh its siz att wro tol) N) (none) (mH G (hset h (Ad G 24) (eI G 1824 (cpN Bf Hf 0 (k * 228) 228))) (eMd G sv (nI (k + 1)) typ err lin why wha beh its siz att wro tol) N) := by
  have n2 : ∀ i, 21 < i → i < 32 → Ad G i ≠ Ad G 20 ∧ Ad G i ≠ Ad G 21 := fun i h1 h2 => ⟨nA ok (by omega) (by omega) (by omega), nA ok (by omega) (by omega) (by omega)⟩
  obtain ⟨m20, m21⟩ := n2 22 (by omega) (by omega)
  obtain ⟨m30, m31⟩ := n2 24 (by omega) (by omega)
  have m24 := nA ok (show 22 < 3000 by omega) (show 24 < 3000 by omega) (by omega)
  refine Ct.of (L := [(0, _)]) (by decide) (ble rfl) rfl ?_
  first | refine x_aload_n 0 dX12_remembers_0 rfl rfl ?_ | refine x_aload_nN 0 dX12_remembers_0 rfl rfl ?_
  refine x_get fX12_48 rfl dX12_remembers_1 (by with_reducible repeat first | assumption | exact mH_0 ok | exact mH_1 | exact hset_s | refine mH_o (by first | assumption | exact nA ok (by omega) (by omega) (by omega)) (by first | assumption | exact nA ok (by omega) (by omega) (by omega)) ?_ | refine hget_n (by first | assumption | exact Ne.symm (by assumption) | exact nA ok (by omega) (by omega) (by omega)) ?_) (by rfl) ?_
  refine x_bipush (v := 8) dX12_remembers_4 rfl ?_
  refine x_icmp_ne 50 dX12_remembers_6 (by decide) (fun _ => ?_) (fun z => by first | exact absurd (show ¬ nI k = nI 8 from fun z => by have := (nI_eq (by omega) (by omega)).mp z; omega) z | exact absurd z (show ¬ nI k = nI 8 from fun z => by have := (nI_eq (by omega) (by omega)).mp z; omega))
  first | refine x_aload_n 0 dX12_remembers_50 rfl rfl ?_ | refine x_aload_nN 0 dX12_remembers_50 rfl rfl ?_
  refine x_get fX12_13 rfl dX12_remembers_51 (by with_reducible repeat first | assumption | exact mH_0 ok | exact mH_1 | exact hset_s | refine mH_o (by first | assumption | exact nA ok (by omega) (by omega) (by omega)) (by first | assumption | exact nA ok (by omega) (by omega) (by omega)) ?_ | refine hget_n (by first | assumption | exact Ne.symm (by assumption) | exact nA ok (by omega) (by omega) (by omega)) ?_) (by rfl) ?_
  refine x_iconst (v := 0) dX12_remembers_54 rfl ?_
  first | refine x_aload_n 0 dX12_remembers_55 rfl rfl ?_ | refine x_aload_nN 0 dX12_remembers_55 rfl rfl ?_
  refine x_get fX12_19 rfl dX12_remembers_56 (by with_reducible repeat first | assumption | exact mH_0 ok | exact mH_1 | exact hset_s | refine mH_o (by first | assumption | exact nA ok (by omega) (by omega) (by omega)) (by first | assumption | exact nA ok (by omega) (by omega) (by omega)) ?_ | refine hget_n (by first | assumption | exact Ne.symm (by assumption) | exact nA ok (by omega) (by omega) (by omega)) ?_) (by rfl) ?_
  first | refine x_aload_n 0 dX12_remembers_59 rfl rfl ?_ | refine x_aload_nN 0 dX12_remembers_59 rfl rfl ?_
  refine x_get fX12_48 rfl dX12_remembers_60 (by with_reducible repeat first | assumption | exact mH_0 ok | exact mH_1 | exact hset_s | refine mH_o (by first | assumption | exact nA ok (by omega) (by omega) (by omega)) (by first | assumption | exact nA ok (by omega) (by omega) (by omega)) ?_ | refine hget_n (by first | assumption | exact Ne.symm (by assumption) | exact nA ok (by omega) (by omega) (by omega)) ?_) (by rfl) ?_
  refine x_sipush (v := 228) dX12_remembers_63 rfl ?_
  refine x_imul dX12_remembers_66 ?_
  rw [show (228 : Int32) = nI 228 from rfl, pk_mul]
  refine x_cS0 (As := [.ref _, .int _, .ref _, .int _]) (ct_X12_copies (at0 := 0) (into0 := k * 228) (mH_o m20 m21 hbefore) (mH_o m30 m31 hhistory) m24 (by omega) (by omega) (by omega) (by omega) (aA ok (by omega))) vX12_57 rfl rfl ⟨ble rfl, ble rfl⟩ (ble rfl) dX12_remembers_67 rfl ?_
  refine x_eqH (mH_c m30 m31) ?_
  first | refine x_aload_n 0 dX12_remembers_70 rfl rfl ?_ | refine x_aload_nN 0 dX12_remembers_70 rfl rfl ?_
  refine x_dup dX12_remembers_71 rfl ?_
  refine x_get fX12_48 rfl dX12_remembers_72 (by with_reducible repeat first | assumption | exact mH_0 ok | exact mH_1 | exact hset_s | refine mH_o (by first | assumption | exact nA ok (by omega) (by omega) (by omega)) (by first | assumption | exact nA ok (by omega) (by omega) (by omega)) ?_ | refine hget_n (by first | assumption | exact Ne.symm (by assumption) | exact nA ok (by omega) (by omega) (by omega)) ?_) (by rfl) ?_
  refine x_iconst (v := 1) dX12_remembers_75 rfl ?_
  refine x_iadd dX12_remembers_76 ?_
  rw [nI_1]
  refine x_mput ok fX12_48 rfl rfl rfl rfl dX12_remembers_77 (by exact ble rfl) ?_
  refine x_vret rfl dX12_remembers_80 ?_
  exact ⟨rfl, rfl⟩
set_option maxRecDepth 100000 in
set_option maxHeartbeats 4000000 in
theorem ct_X12_rem_8 {l : Launch} {G : Gl} {h : Hp} {sv typ err lin why wha beh its siz att wro tol : Int32} {N : Nat → Int32} (ok : Ok G) {Bf Hf : Nat → Int32} (hbefore : h (Ad G 22) = some (eI G 228 Bf)) (hhistory : h (Ad G 24) = some (eI G 1824 Hf)) : CtR l G mX12_remembers 2 [.ref (Ad G 20)] (mH G h (eMd G sv (nI 8) typ err lin why wha beh its siz att wro tol) N) (none) (mH G (hset h (Ad G 24) (eI G 1824 (cpN Bf (shN Hf 1596) 0 1596 228))) (eMd G sv (nI 8) typ err lin why wha beh its siz att wro tol) N) := by
  have n2 : ∀ i, 21 < i → i < 32 → Ad G i ≠ Ad G 20 ∧ Ad G i ≠ Ad G 21 := fun i h1 h2 => ⟨nA ok (by omega) (by omega) (by omega), nA ok (by omega) (by omega) (by omega)⟩
  obtain ⟨m20, m21⟩ := n2 22 (by omega) (by omega)
  obtain ⟨m30, m31⟩ := n2 24 (by omega) (by omega)
  have m24 := nA ok (show 22 < 3000 by omega) (show 24 < 3000 by omega) (by omega)
  refine Ct.of (L := [(0, _)]) (by decide) (ble rfl) rfl ?_
  first | refine x_aload_n 0 dX12_remembers_0 rfl rfl ?_ | refine x_aload_nN 0 dX12_remembers_0 rfl rfl ?_
  refine x_get fX12_48 rfl dX12_remembers_1 (by with_reducible repeat first | assumption | exact mH_0 ok | exact mH_1 | exact hset_s | refine mH_o (by first | assumption | exact nA ok (by omega) (by omega) (by omega)) (by first | assumption | exact nA ok (by omega) (by omega) (by omega)) ?_ | refine hget_n (by first | assumption | exact Ne.symm (by assumption) | exact nA ok (by omega) (by omega) (by omega)) ?_) (by rfl) ?_
  refine x_bipush (v := 8) dX12_remembers_4 rfl ?_
  refine x_icmp_ne 50 dX12_remembers_6 (by decide) (fun z => by first | exact absurd z (show ¬ ¬ nI 8 = nI 8 from fun z => z rfl) | exact absurd (show ¬ ¬ nI 8 = nI 8 from fun z => z rfl) z) (fun _ => ?_)
  refine x_iconst (v := 0) dX12_remembers_9 rfl ?_
  refine x_istore_n (L' := [(1, _), (0, _)]) dX12_remembers_10 rfl (ble rfl) rfl ?_
  refine x_eqH (h' := mH G (hset h (Ad G 24) (eI G 1824 (shN Hf 0))) (eMd G sv (nI 8) typ err lin why wha beh its siz att wro tol) N) (by rw [shN_0, hset_self hhistory]) ?_
  refine x_locs (L' := [(1, _), (0, _)]) [0, 1] rfl ?_
  refine dn (P := fun i => XX l G mX12_remembers (Rm 2 0 0) (KQ G (Rm 2 0 0) (fun w h' => w = none ∧ h' = (mH G (hset h (Ad G 24) (eI G 1824 (cpN Bf (shN Hf 1596) 0 1596 228))) (eMd G sv (nI 8) typ err lin why wha beh its siz att wro tol) N))) 0 0 11 [(1, .int (nI i)), (0, .ref (Ad G 20))] [] (mH G (hset h (Ad G 24) (eI G 1824 (shN Hf i))) (eMd G sv (nI 8) typ err lin why wha beh its siz att wro tol) N)) (n := 1596) ?_ (fun i hi ihi => ?_)
  · refine x_iload_n 0 dX12_remembers_11 rfl rfl ?_
    refine x_sipush (v := 1596) dX12_remembers_12 rfl ?_
    refine x_icmp_ge 40 dX12_remembers_15 (by decide) (fun _ => ?_) (fun z => by first | exact absurd (Int32.le_refl _) z | exact absurd z (Int32.le_refl _))
    first | refine x_aload_n 1 dX12_remembers_40 rfl rfl ?_ | refine x_aload_nN 1 dX12_remembers_40 rfl rfl ?_
    refine x_dup dX12_remembers_41 rfl ?_
    refine x_get fX12_48 rfl dX12_remembers_42 (by with_reducible repeat first | assumption | exact mH_0 ok | exact mH_1 | exact hset_s | refine mH_o (by first | assumption | exact nA ok (by omega) (by omega) (by omega)) (by first | assumption | exact nA ok (by omega) (by omega) (by omega)) ?_ | refine hget_n (by first | assumption | exact Ne.symm (by assumption) | exact nA ok (by omega) (by omega) (by omega)) ?_) (by rfl) ?_
    refine x_iconst (v := 1) dX12_remembers_45 rfl ?_
    refine x_isub dX12_remembers_46 ?_
    refine x_mput ok fX12_48 rfl rfl rfl rfl dX12_remembers_47 (by exact ble rfl) ?_
    first | refine x_aload_n 1 dX12_remembers_50 rfl rfl ?_ | refine x_aload_nN 1 dX12_remembers_50 rfl rfl ?_
    refine x_get fX12_13 rfl dX12_remembers_51 (by with_reducible repeat first | assumption | exact mH_0 ok | exact mH_1 | exact hset_s | refine mH_o (by first | assumption | exact nA ok (by omega) (by omega) (by omega)) (by first | assumption | exact nA ok (by omega) (by omega) (by omega)) ?_ | refine hget_n (by first | assumption | exact Ne.symm (by assumption) | exact nA ok (by omega) (by omega) (by omega)) ?_) (by rfl) ?_
    refine x_iconst (v := 0) dX12_remembers_54 rfl ?_
    first | refine x_aload_n 1 dX12_remembers_55 rfl rfl ?_ | refine x_aload_nN 1 dX12_remembers_55 rfl rfl ?_
    refine x_get fX12_19 rfl dX12_remembers_56 (by with_reducible repeat first | assumption | exact mH_0 ok | exact mH_1 | exact hset_s | refine mH_o (by first | assumption | exact nA ok (by omega) (by omega) (by omega)) (by first | assumption | exact nA ok (by omega) (by omega) (by omega)) ?_ | refine hget_n (by first | assumption | exact Ne.symm (by assumption) | exact nA ok (by omega) (by omega) (by omega)) ?_) (by rfl) ?_
    first | refine x_aload_n 1 dX12_remembers_59 rfl rfl ?_ | refine x_aload_nN 1 dX12_remembers_59 rfl rfl ?_
    refine x_get fX12_48 rfl dX12_remembers_60 (by with_reducible repeat first | assumption | exact mH_0 ok | exact mH_1 | exact hset_s | refine mH_o (by first | assumption | exact nA ok (by omega) (by omega) (by omega)) (by first | assumption | exact nA ok (by omega) (by omega) (by omega)) ?_ | refine hget_n (by first | assumption | exact Ne.symm (by assumption) | exact nA ok (by omega) (by omega) (by omega)) ?_) (by rfl) ?_
    refine x_sipush (v := 228) dX12_remembers_63 rfl ?_
    refine x_imul dX12_remembers_66 ?_
    refine x_cS0 (As := [.ref _, .int _, .ref _, .int _]) (ct_X12_copies (at0 := 0) (into0 := 1596) (mH_o m20 m21 (hget_n m24 hbefore)) (mH_o m30 m31 hset_s) m24 (by omega) (by omega) (by omega) (by omega) (aA ok (by omega))) vX12_57 rfl rfl ⟨ble rfl, ble rfl⟩ (ble rfl) dX12_remembers_67 rfl ?_
    refine x_eqH (mH_c m30 m31) ?_
    rw [hset_2]
    first | refine x_aload_n 1 dX12_remembers_70 rfl rfl ?_ | refine x_aload_nN 1 dX12_remembers_70 rfl rfl ?_
    refine x_dup dX12_remembers_71 rfl ?_
    refine x_get fX12_48 rfl dX12_remembers_72 (by with_reducible repeat first | assumption | exact mH_0 ok | exact mH_1 | exact hset_s | refine mH_o (by first | assumption | exact nA ok (by omega) (by omega) (by omega)) (by first | assumption | exact nA ok (by omega) (by omega) (by omega)) ?_ | refine hget_n (by first | assumption | exact Ne.symm (by assumption) | exact nA ok (by omega) (by omega) (by omega)) ?_) (by rfl) ?_
    refine x_iconst (v := 1) dX12_remembers_75 rfl ?_
    refine x_iadd dX12_remembers_76 ?_
    refine x_mput ok fX12_48 rfl rfl rfl rfl dX12_remembers_77 (by exact ble rfl) ?_
    refine x_vret rfl dX12_remembers_80 ?_
    exact ⟨rfl, rfl⟩
  · have hhi := mH_o (e := (eMd G sv (nI 8) typ err lin why wha beh its siz att wro tol)) (N := N) m30 m31 (hset_s (h := h) (a := Ad G 24) (e := eI G 1824 (shN Hf i)))
    refine x_iload_n 0 dX12_remembers_11 rfl rfl ?_
    refine x_sipush (v := 1596) dX12_remembers_12 rfl ?_
    refine x_icmp_ge 40 dX12_remembers_15 (by decide) (fun z => by first | exact absurd z (show ¬ nI 1596 ≤ nI i from nI_ge hi (by omega)) | exact absurd (show ¬ nI 1596 ≤ nI i from nI_ge hi (by omega)) z) (fun _ => ?_)
    first | refine x_aload_n 1 dX12_remembers_18 rfl rfl ?_ | refine x_aload_nN 1 dX12_remembers_18 rfl rfl ?_
    refine x_get fX12_19 rfl dX12_remembers_19 (by with_reducible repeat first | assumption | exact mH_0 ok | exact mH_1 | exact hset_s | refine mH_o (by first | assumption | exact nA ok (by omega) (by omega) (by omega)) (by first | assumption | exact nA ok (by omega) (by omega) (by omega)) ?_ | refine hget_n (by first | assumption | exact Ne.symm (by assumption) | exact nA ok (by omega) (by omega) (by omega)) ?_) (by rfl) ?_
    refine x_iload_n 0 dX12_remembers_22 rfl rfl ?_
    first | refine x_aload_n 1 dX12_remembers_23 rfl rfl ?_ | refine x_aload_nN 1 dX12_remembers_23 rfl rfl ?_
    refine x_get fX12_19 rfl dX12_remembers_24 (by with_reducible repeat first | assumption | exact mH_0 ok | exact mH_1 | exact hset_s | refine mH_o (by first | assumption | exact nA ok (by omega) (by omega) (by omega)) (by first | assumption | exact nA ok (by omega) (by omega) (by omega)) ?_ | refine hget_n (by first | assumption | exact Ne.symm (by assumption) | exact nA ok (by omega) (by omega) (by omega)) ?_) (by rfl) ?_
    refine x_iload_n 0 dX12_remembers_27 rfl rfl ?_
    refine x_sipush (v := 228) dX12_remembers_28 rfl ?_
    refine x_iadd dX12_remembers_31 ?_
    rw [show (228 : Int32) = nI 228 from rfl, nI_add]
    refine x_ialdn dX12_remembers_32 (by with_reducible repeat first | assumption | exact mH_0 ok | exact mH_1 | exact hset_s | refine mH_o (by first | assumption | exact nA ok (by omega) (by omega) (by omega)) (by first | assumption | exact nA ok (by omega) (by omega) (by omega)) ?_ | refine hget_n (by first | assumption | exact Ne.symm (by assumption) | exact nA ok (by omega) (by omega) (by omega)) ?_) (by omega) (by first | decide | omega) ?_
    refine x_iastn dX12_remembers_33 (by with_reducible repeat first | assumption | exact mH_0 ok | exact mH_1 | exact hset_s | refine mH_o (by first | assumption | exact nA ok (by omega) (by omega) (by omega)) (by first | assumption | exact nA ok (by omega) (by omega) (by omega)) ?_ | refine hget_n (by first | assumption | exact Ne.symm (by assumption) | exact nA ok (by omega) (by omega) (by omega)) ?_) (by omega) (by first | decide | omega) (by first | assumption | exact aA (by assumption) (by omega)) ?_
    refine x_iinc (L' := [(1, _), (0, _)]) (j := 0) (nI (_ + 1)) dX12_remembers_34 rfl (nI_1 _) (ble rfl) rfl ?_
    refine x_goto 11 dX12_remembers_37 (by decide) ?_
    refine x_locs (L' := [(1, _), (0, _)]) [0, 1] rfl ?_
    refine x_eqH ((mH_c m30 m31).trans (by rw [hset_2, shN_s])) ihi
theorem ct_X12_rem {l : Launch} {G : Gl} {h : Hp} {sv typ err lin why wha beh its siz att wro tol : Int32} {N : Nat → Int32} (ok : Ok G) {Bf Hf : Nat → Int32} {k : Nat} (hbefore : h (Ad G 22) = some (eI G 228 Bf)) (hhistory : h (Ad G 24) = some (eI G 1824 Hf)) (hk : k ≤ 8) : CtR l G mX12_remembers 2 [.ref (Ad G 20)] (mH G h (eMd G sv (nI k) typ err lin why wha beh its siz att wro tol) N) none (mH G (hset h (Ad G 24) (eI G 1824 (cpN Bf (if k = 8 then shN Hf 1596 else Hf) 0 (min k 7 * 228) 228))) (eMd G sv (nI (min (k + 1) 8)) typ err lin why wha beh its siz att wro tol) N) := by
  by_cases q : k = 8
  · subst q
    exact (ct_X12_rem_8 ok hbefore hhistory).cg rfl rfl
  · rw [if_neg q, show min k 7 = k by omega, show min (k + 1) 8 = k + 1 by omega]
    exact ct_X12_rem_lt ok hbefore hhistory (by omega)
set_option maxRecDepth 100000 in
set_option maxHeartbeats 4000000 in
theorem ct_X12_ends_r {l : Launch} {G : Gl} {h : Hp} {sv typ err lin why wha beh its siz att wro tol : Int32} {N : Nat → Int32} (ok : Ok G) {Bf Hf : Nat → Int32} {k : Nat} (hbefore : h (Ad G 22) = some (eI G 228 Bf)) (hhistory : h (Ad G 24) = some (eI G 1824 Hf)) {rs ds : Nat → Int32} (hreasons : h (Ad G 25) = some (eI G 3 rs)) (hdetails : h (Ad G 26) = some (eI G 3 ds)) (hk : k ≤ 8) (hw : ¬ why = 0) (x : Int32) : CtR l G mX12_ends 3 [.ref (Ad G 20), .int x] (mH G h (eMd G sv (nI k) typ err lin why wha beh its siz att wro tol) N) (some (.int (-3))) (mH G (hset (hset h (Ad G 25) (eI G 3 (upd (upd (upd rs 0 why) 1 beh) 2 0))) (Ad G 26) (eI G 3 (upd (upd (upd ds 0 wha) 1 its) 2 0))) (eMd G sv (nI k) typ err lin why wha beh its siz att wro tol) (cpN Bf N 0 0 228)) := by
  have n2 : ∀ i, 21 < i → i < 32 → Ad G i ≠ Ad G 20 ∧ Ad G i ≠ Ad G 21 := fun i h1 h2 => ⟨nA ok (by omega) (by omega) (by omega), nA ok (by omega) (by omega) (by omega)⟩
  obtain ⟨m20, m21⟩ := n2 22 (by omega) (by omega)
  obtain ⟨m30, m31⟩ := n2 24 (by omega) (by omega)
  have m24 := nA ok (show 22 < 3000 by omega) (show 24 < 3000 by omega) (by omega)
  obtain ⟨p20, p21⟩ := n2 25 (by omega) (by omega)
  obtain ⟨q20, q21⟩ := n2 26 (by omega) (by omega)
  have m56 := nA ok (show 25 < 3000 by omega) (show 26 < 3000 by omega) (by omega)
  have m2256 := nA ok (show 22 < 3000 by omega) (show 25 < 3000 by omega) (by omega)
  have m2266 := nA ok (show 22 < 3000 by omega) (show 26 < 3000 by omega) (by omega)
  have hee : hset (hset (hset (hset (hset (hset h (Ad G 25) (eI G 3 (upd rs 0 why))) (Ad G 26) (eI G 3 (upd ds 0 wha))) (Ad G 25) (eI G 3 (upd (upd rs 0 why) 1 beh))) (Ad G 26) (eI G 3 (upd (upd ds 0 wha) 1 its))) (Ad G 25) (eI G 3 (upd (upd (upd rs 0 why) 1 beh) 2 0))) (Ad G 26) (eI G 3 (upd (upd (upd ds 0 wha) 1 its) 2 0)) = (hset (hset h (Ad G 25) (eI G 3 (upd (upd (upd rs 0 why) 1 beh) 2 0))) (Ad G 26) (eI G 3 (upd (upd (upd ds 0 wha) 1 its) 2 0))) := by
    funext q
    unfold hset
    by_cases q1 : q = Ad G 26
    · simp [q1]
    · by_cases q2 : q = Ad G 25
      · simp [q2, m56]
      · simp [q1, q2]
  refine Ct.of (L := [(0, _), (1, _)]) (by decide) (ble rfl) rfl ?_
  first | refine x_aload_n 0 dX12_ends_0 rfl rfl ?_ | refine x_aload_nN 0 dX12_ends_0 rfl rfl ?_
  refine x_get fX12_51 rfl dX12_ends_1 (by with_reducible repeat first | assumption | exact mH_0 ok | exact mH_1 | exact hset_s | refine mH_o (by first | assumption | exact nA ok (by omega) (by omega) (by omega)) (by first | assumption | exact nA ok (by omega) (by omega) (by omega)) ?_ | refine hget_n (by first | assumption | exact Ne.symm (by assumption) | exact nA ok (by omega) (by omega) (by omega)) ?_) (by rfl) ?_
  refine x_if_eq 40 dX12_ends_4 (by decide) (fun z => by first | exact absurd z (hw) | exact absurd (hw) z) (fun _ => ?_)
  first | refine x_aload_n 0 dX12_ends_7 rfl rfl ?_ | refine x_aload_nN 0 dX12_ends_7 rfl rfl ?_
  refine x_iconst (v := 0) dX12_ends_8 rfl ?_
  first | refine x_aload_n 0 dX12_ends_9 rfl rfl ?_ | refine x_aload_nN 0 dX12_ends_9 rfl rfl ?_
  refine x_get fX12_51 rfl dX12_ends_10 (by with_reducible repeat first | assumption | exact mH_0 ok | exact mH_1 | exact hset_s | refine mH_o (by first | assumption | exact nA ok (by omega) (by omega) (by omega)) (by first | assumption | exact nA ok (by omega) (by omega) (by omega)) ?_ | refine hget_n (by first | assumption | exact Ne.symm (by assumption) | exact nA ok (by omega) (by omega) (by omega)) ?_) (by rfl) ?_
  first | refine x_aload_n 0 dX12_ends_13 rfl rfl ?_ | refine x_aload_nN 0 dX12_ends_13 rfl rfl ?_
  refine x_get fX12_54 rfl dX12_ends_14 (by with_reducible repeat first | assumption | exact mH_0 ok | exact mH_1 | exact hset_s | refine mH_o (by first | assumption | exact nA ok (by omega) (by omega) (by omega)) (by first | assumption | exact nA ok (by omega) (by omega) (by omega)) ?_ | refine hget_n (by first | assumption | exact Ne.symm (by assumption) | exact nA ok (by omega) (by omega) (by omega)) ?_) (by rfl) ?_
  refine x_cV0 (As := [.int _, .int _, .int _]) (ct_X12_keeps ok (by with_reducible repeat first | assumption | exact mH_0 ok | exact mH_1 | exact hset_s | refine mH_o (by first | assumption | exact nA ok (by omega) (by omega) (by omega)) (by first | assumption | exact nA ok (by omega) (by omega) (by omega)) ?_ | refine hget_n (by first | assumption | exact Ne.symm (by assumption) | exact nA ok (by omega) (by omega) (by omega)) ?_) (by with_reducible repeat first | assumption | exact mH_0 ok | exact mH_1 | exact hset_s | refine mH_o (by first | assumption | exact nA ok (by omega) (by omega) (by omega)) (by first | assumption | exact nA ok (by omega) (by omega) (by omega)) ?_ | refine hget_n (by first | assumption | exact Ne.symm (by assumption) | exact nA ok (by omega) (by omega) (by omega)) ?_) (i := 0) (by omega) _ _) vX12_64 rfl (x_recv (by with_reducible repeat first | assumption | exact mH_0 ok | exact mH_1 | exact hset_s | refine mH_o (by first | assumption | exact nA ok (by omega) (by omega) (by omega)) (by first | assumption | exact nA ok (by omega) (by omega) (by omega)) ?_ | refine hget_n (by first | assumption | exact Ne.symm (by assumption) | exact nA ok (by omega) (by omega) (by omega)) ?_) rfl) rfl ⟨ble rfl, ble rfl⟩ (ble rfl) dX12_ends_17 rfl ?_
  first | refine x_aload_n 0 dX12_ends_20 rfl rfl ?_ | refine x_aload_nN 0 dX12_ends_20 rfl rfl ?_
  refine x_iconst (v := 1) dX12_ends_21 rfl ?_
  first | refine x_aload_n 0 dX12_ends_22 rfl rfl ?_ | refine x_aload_nN 0 dX12_ends_22 rfl rfl ?_
  refine x_get fX12_61 rfl dX12_ends_23 (by with_reducible repeat first | assumption | exact mH_0 ok | exact mH_1 | exact hset_s | refine mH_o (by first | assumption | exact nA ok (by omega) (by omega) (by omega)) (by first | assumption | exact nA ok (by omega) (by omega) (by omega)) ?_ | refine hget_n (by first | assumption | exact Ne.symm (by assumption) | exact nA ok (by omega) (by omega) (by omega)) ?_) (by rfl) ?_
  first | refine x_aload_n 0 dX12_ends_26 rfl rfl ?_ | refine x_aload_nN 0 dX12_ends_26 rfl rfl ?_
  refine x_get fX12_68 rfl dX12_ends_27 (by with_reducible repeat first | assumption | exact mH_0 ok | exact mH_1 | exact hset_s | refine mH_o (by first | assumption | exact nA ok (by omega) (by omega) (by omega)) (by first | assumption | exact nA ok (by omega) (by omega) (by omega)) ?_ | refine hget_n (by first | assumption | exact Ne.symm (by assumption) | exact nA ok (by omega) (by omega) (by omega)) ?_) (by rfl) ?_
  refine x_cV0 (As := [.int _, .int _, .int _]) (ct_X12_keeps ok (by with_reducible repeat first | assumption | exact mH_0 ok | exact mH_1 | exact hset_s | refine mH_o (by first | assumption | exact nA ok (by omega) (by omega) (by omega)) (by first | assumption | exact nA ok (by omega) (by omega) (by omega)) ?_ | refine hget_n (by first | assumption | exact Ne.symm (by assumption) | exact nA ok (by omega) (by omega) (by omega)) ?_) (by with_reducible repeat first | assumption | exact mH_0 ok | exact mH_1 | exact hset_s | refine mH_o (by first | assumption | exact nA ok (by omega) (by omega) (by omega)) (by first | assumption | exact nA ok (by omega) (by omega) (by omega)) ?_ | refine hget_n (by first | assumption | exact Ne.symm (by assumption) | exact nA ok (by omega) (by omega) (by omega)) ?_) (i := 1) (by omega) _ _) vX12_64 rfl (x_recv (by with_reducible repeat first | assumption | exact mH_0 ok | exact mH_1 | exact hset_s | refine mH_o (by first | assumption | exact nA ok (by omega) (by omega) (by omega)) (by first | assumption | exact nA ok (by omega) (by omega) (by omega)) ?_ | refine hget_n (by first | assumption | exact Ne.symm (by assumption) | exact nA ok (by omega) (by omega) (by omega)) ?_) rfl) rfl ⟨ble rfl, ble rfl⟩ (ble rfl) dX12_ends_30 rfl ?_
  first | refine x_aload_n 0 dX12_ends_33 rfl rfl ?_ | refine x_aload_nN 0 dX12_ends_33 rfl rfl ?_
  refine x_iconst (v := 2) dX12_ends_34 rfl ?_
  refine x_iconst (v := 0) dX12_ends_35 rfl ?_
  refine x_iconst (v := 0) dX12_ends_36 rfl ?_
  refine x_cV0 (As := [.int _, .int _, .int _]) (ct_X12_keeps ok (by with_reducible repeat first | assumption | exact mH_0 ok | exact mH_1 | exact hset_s | refine mH_o (by first | assumption | exact nA ok (by omega) (by omega) (by omega)) (by first | assumption | exact nA ok (by omega) (by omega) (by omega)) ?_ | refine hget_n (by first | assumption | exact Ne.symm (by assumption) | exact nA ok (by omega) (by omega) (by omega)) ?_) (by with_reducible repeat first | assumption | exact mH_0 ok | exact mH_1 | exact hset_s | refine mH_o (by first | assumption | exact nA ok (by omega) (by omega) (by omega)) (by first | assumption | exact nA ok (by omega) (by omega) (by omega)) ?_ | refine hget_n (by first | assumption | exact Ne.symm (by assumption) | exact nA ok (by omega) (by omega) (by omega)) ?_) (i := 2) (by omega) _ _) vX12_64 rfl (x_recv (by with_reducible repeat first | assumption | exact mH_0 ok | exact mH_1 | exact hset_s | refine mH_o (by first | assumption | exact nA ok (by omega) (by omega) (by omega)) (by first | assumption | exact nA ok (by omega) (by omega) (by omega)) ?_ | refine hget_n (by first | assumption | exact Ne.symm (by assumption) | exact nA ok (by omega) (by omega) (by omega)) ?_) rfl) rfl ⟨ble rfl, ble rfl⟩ (ble rfl) dX12_ends_37 rfl ?_
  rw [hee]
  first | refine x_aload_n 0 dX12_ends_40 rfl rfl ?_ | refine x_aload_nN 0 dX12_ends_40 rfl rfl ?_
  refine x_get fX12_51 rfl dX12_ends_41 (by with_reducible repeat first | assumption | exact mH_0 ok | exact mH_1 | exact hset_s | refine mH_o (by first | assumption | exact nA ok (by omega) (by omega) (by omega)) (by first | assumption | exact nA ok (by omega) (by omega) (by omega)) ?_ | refine hget_n (by first | assumption | exact Ne.symm (by assumption) | exact nA ok (by omega) (by omega) (by omega)) ?_) (by rfl) ?_
  refine x_if_ne 51 dX12_ends_44 (by decide) (fun _ => ?_) (fun z => by first | exact absurd (hw) z | exact absurd z (hw))
  first | refine x_aload_n 0 dX12_ends_51 rfl rfl ?_ | refine x_aload_nN 0 dX12_ends_51 rfl rfl ?_
  refine x_get fX12_13 rfl dX12_ends_52 (by with_reducible repeat first | assumption | exact mH_0 ok | exact mH_1 | exact hset_s | refine mH_o (by first | assumption | exact nA ok (by omega) (by omega) (by omega)) (by first | assumption | exact nA ok (by omega) (by omega) (by omega)) ?_ | refine hget_n (by first | assumption | exact Ne.symm (by assumption) | exact nA ok (by omega) (by omega) (by omega)) ?_) (by rfl) ?_
  refine x_iconst (v := 0) dX12_ends_55 rfl ?_
  first | refine x_aload_n 0 dX12_ends_56 rfl rfl ?_ | refine x_aload_nN 0 dX12_ends_56 rfl rfl ?_
  refine x_get fX12_9 rfl dX12_ends_57 (by with_reducible repeat first | assumption | exact mH_0 ok | exact mH_1 | exact hset_s | refine mH_o (by first | assumption | exact nA ok (by omega) (by omega) (by omega)) (by first | assumption | exact nA ok (by omega) (by omega) (by omega)) ?_ | refine hget_n (by first | assumption | exact Ne.symm (by assumption) | exact nA ok (by omega) (by omega) (by omega)) ?_) (by rfl) ?_
  refine x_iconst (v := 0) dX12_ends_60 rfl ?_
  refine x_cS0 (As := [.ref _, .int _, .ref _, .int _]) (ct_X12_copies (at0 := 0) (into0 := 0) (by with_reducible repeat first | assumption | exact mH_0 ok | exact mH_1 | exact hset_s | refine mH_o (by first | assumption | exact nA ok (by omega) (by omega) (by omega)) (by first | assumption | exact nA ok (by omega) (by omega) (by omega)) ?_ | refine hget_n (by first | assumption | exact Ne.symm (by assumption) | exact nA ok (by omega) (by omega) (by omega)) ?_) mH_1 m21 (by omega) (by omega) (by omega) (by omega) (aA ok (by omega))) vX12_57 rfl rfl ⟨ble rfl, ble rfl⟩ (ble rfl) dX12_ends_61 rfl ?_
  refine x_eqH mH_p1 ?_
  first | refine x_aload_n 0 dX12_ends_64 rfl rfl ?_ | refine x_aload_nN 0 dX12_ends_64 rfl rfl ?_
  refine x_get fX12_51 rfl dX12_ends_65 (by with_reducible repeat first | assumption | exact mH_0 ok | exact mH_1 | exact hset_s | refine mH_o (by first | assumption | exact nA ok (by omega) (by omega) (by omega)) (by first | assumption | exact nA ok (by omega) (by omega) (by omega)) ?_ | refine hget_n (by first | assumption | exact Ne.symm (by assumption) | exact nA ok (by omega) (by omega) (by omega)) ?_) (by rfl) ?_
  refine x_if_eq 76 dX12_ends_68 (by decide) (fun z => by first | exact absurd z (hw) | exact absurd (hw) z) (fun _ => ?_)
  refine x_bipush (v := -3) dX12_ends_71 rfl ?_
  refine x_goto 77 dX12_ends_73 (by decide) ?_
  refine x_iret rfl dX12_ends_77 ?_
  exact ⟨rfl, rfl⟩
set_option maxRecDepth 100000 in
set_option maxHeartbeats 4000000 in
theorem ct_X12_ends_c {l : Launch} {G : Gl} {h : Hp} {sv typ err lin wha beh its siz att wro tol : Int32} {N : Nat → Int32} (ok : Ok G) {Bf Hf : Nat → Int32} {k : Nat} (hbefore : h (Ad G 22) = some (eI G 228 Bf)) (hhistory : h (Ad G 24) = some (eI G 1824 Hf)) {rs ds : Nat → Int32} (hreasons : h (Ad G 25) = some (eI G 3 rs)) (hdetails : h (Ad G 26) = some (eI G 3 ds)) (hk : k ≤ 8) {x : Int32} (hx : x < 0) : CtR l G mX12_ends 3 [.ref (Ad G 20), .int x] (mH G h (eMd G sv (nI k) typ err lin 0 wha beh its siz att wro tol) N) (some (.int x)) (mH G h (eMd G sv (nI k) typ err lin 0 wha beh its siz att wro tol) (cpN Bf N 0 0 228)) := by
  have n2 : ∀ i, 21 < i → i < 32 → Ad G i ≠ Ad G 20 ∧ Ad G i ≠ Ad G 21 := fun i h1 h2 => ⟨nA ok (by omega) (by omega) (by omega), nA ok (by omega) (by omega) (by omega)⟩
  obtain ⟨m20, m21⟩ := n2 22 (by omega) (by omega)
  obtain ⟨m30, m31⟩ := n2 24 (by omega) (by omega)
  have m24 := nA ok (show 22 < 3000 by omega) (show 24 < 3000 by omega) (by omega)
  obtain ⟨p20, p21⟩ := n2 25 (by omega) (by omega)
  obtain ⟨q20, q21⟩ := n2 26 (by omega) (by omega)
  refine Ct.of (L := [(0, _), (1, _)]) (by decide) (ble rfl) rfl ?_
  first | refine x_aload_n 0 dX12_ends_0 rfl rfl ?_ | refine x_aload_nN 0 dX12_ends_0 rfl rfl ?_
  refine x_get fX12_51 rfl dX12_ends_1 (by with_reducible repeat first | assumption | exact mH_0 ok | exact mH_1 | exact hset_s | refine mH_o (by first | assumption | exact nA ok (by omega) (by omega) (by omega)) (by first | assumption | exact nA ok (by omega) (by omega) (by omega)) ?_ | refine hget_n (by first | assumption | exact Ne.symm (by assumption) | exact nA ok (by omega) (by omega) (by omega)) ?_) (by rfl) ?_
  refine x_if_eq 40 dX12_ends_4 (by decide) (fun _ => ?_) (fun z => by first | exact absurd (rfl) z | exact absurd z (rfl))
  first | refine x_aload_n 0 dX12_ends_40 rfl rfl ?_ | refine x_aload_nN 0 dX12_ends_40 rfl rfl ?_
  refine x_get fX12_51 rfl dX12_ends_41 (by with_reducible repeat first | assumption | exact mH_0 ok | exact mH_1 | exact hset_s | refine mH_o (by first | assumption | exact nA ok (by omega) (by omega) (by omega)) (by first | assumption | exact nA ok (by omega) (by omega) (by omega)) ?_ | refine hget_n (by first | assumption | exact Ne.symm (by assumption) | exact nA ok (by omega) (by omega) (by omega)) ?_) (by rfl) ?_
  refine x_if_ne 51 dX12_ends_44 (by decide) (fun z => by first | exact absurd z (fun z => z rfl) | exact absurd (fun z => z rfl) z) (fun _ => ?_)
  refine x_iload_n 1 dX12_ends_47 rfl rfl ?_
  refine x_if_ge 78 dX12_ends_48 (by decide) (fun z => by first | exact absurd z (Int32.not_le.mpr hx) | exact absurd (Int32.not_le.mpr hx) z) (fun _ => ?_)
  first | refine x_aload_n 0 dX12_ends_51 rfl rfl ?_ | refine x_aload_nN 0 dX12_ends_51 rfl rfl ?_
  refine x_get fX12_13 rfl dX12_ends_52 (by with_reducible repeat first | assumption | exact mH_0 ok | exact mH_1 | exact hset_s | refine mH_o (by first | assumption | exact nA ok (by omega) (by omega) (by omega)) (by first | assumption | exact nA ok (by omega) (by omega) (by omega)) ?_ | refine hget_n (by first | assumption | exact Ne.symm (by assumption) | exact nA ok (by omega) (by omega) (by omega)) ?_) (by rfl) ?_
  refine x_iconst (v := 0) dX12_ends_55 rfl ?_
  first | refine x_aload_n 0 dX12_ends_56 rfl rfl ?_ | refine x_aload_nN 0 dX12_ends_56 rfl rfl ?_
  refine x_get fX12_9 rfl dX12_ends_57 (by with_reducible repeat first | assumption | exact mH_0 ok | exact mH_1 | exact hset_s | refine mH_o (by first | assumption | exact nA ok (by omega) (by omega) (by omega)) (by first | assumption | exact nA ok (by omega) (by omega) (by omega)) ?_ | refine hget_n (by first | assumption | exact Ne.symm (by assumption) | exact nA ok (by omega) (by omega) (by omega)) ?_) (by rfl) ?_
  refine x_iconst (v := 0) dX12_ends_60 rfl ?_
  refine x_cS0 (As := [.ref _, .int _, .ref _, .int _]) (ct_X12_copies (at0 := 0) (into0 := 0) (by with_reducible repeat first | assumption | exact mH_0 ok | exact mH_1 | exact hset_s | refine mH_o (by first | assumption | exact nA ok (by omega) (by omega) (by omega)) (by first | assumption | exact nA ok (by omega) (by omega) (by omega)) ?_ | refine hget_n (by first | assumption | exact Ne.symm (by assumption) | exact nA ok (by omega) (by omega) (by omega)) ?_) mH_1 m21 (by omega) (by omega) (by omega) (by omega) (aA ok (by omega))) vX12_57 rfl rfl ⟨ble rfl, ble rfl⟩ (ble rfl) dX12_ends_61 rfl ?_
  refine x_eqH mH_p1 ?_
  first | refine x_aload_n 0 dX12_ends_64 rfl rfl ?_ | refine x_aload_nN 0 dX12_ends_64 rfl rfl ?_
  refine x_get fX12_51 rfl dX12_ends_65 (by with_reducible repeat first | assumption | exact mH_0 ok | exact mH_1 | exact hset_s | refine mH_o (by first | assumption | exact nA ok (by omega) (by omega) (by omega)) (by first | assumption | exact nA ok (by omega) (by omega) (by omega)) ?_ | refine hget_n (by first | assumption | exact Ne.symm (by assumption) | exact nA ok (by omega) (by omega) (by omega)) ?_) (by rfl) ?_
  refine x_if_eq 76 dX12_ends_68 (by decide) (fun _ => ?_) (fun z => by first | exact absurd (rfl) z | exact absurd z (rfl))
  refine x_iload_n 1 dX12_ends_76 rfl rfl ?_
  refine x_iret rfl dX12_ends_77 ?_
  exact ⟨rfl, rfl⟩
set_option maxRecDepth 100000 in
set_option maxHeartbeats 4000000 in
theorem ct_X12_ends_o {l : Launch} {G : Gl} {h : Hp} {sv typ err lin wha beh its siz att wro tol : Int32} {N : Nat → Int32} (ok : Ok G) {Bf Hf : Nat → Int32} {k : Nat} (hbefore : h (Ad G 22) = some (eI G 228 Bf)) (hhistory : h (Ad G 24) = some (eI G 1824 Hf)) {rs ds : Nat → Int32} (hreasons : h (Ad G 25) = some (eI G 3 rs)) (hdetails : h (Ad G 26) = some (eI G 3 ds)) (hk : k ≤ 8) {x : Int32} (hx : 0 ≤ x) : CtR l G mX12_ends 3 [.ref (Ad G 20), .int x] (mH G h (eMd G sv (nI k) typ err lin 0 wha beh its siz att wro tol) N) (some (.int x)) (mH G (hset h (Ad G 24) (eI G 1824 (cpN Bf (if k = 8 then shN Hf 1596 else Hf) 0 (min k 7 * 228) 228))) (eMd G sv (nI (min (k + 1) 8)) typ err lin 0 wha beh its siz att wro tol) N) := by
  have n2 : ∀ i, 21 < i → i < 32 → Ad G i ≠ Ad G 20 ∧ Ad G i ≠ Ad G 21 := fun i h1 h2 => ⟨nA ok (by omega) (by omega) (by omega), nA ok (by omega) (by omega) (by omega)⟩
  obtain ⟨m20, m21⟩ := n2 22 (by omega) (by omega)
  obtain ⟨m30, m31⟩ := n2 24 (by omega) (by omega)
  have m24 := nA ok (show 22 < 3000 by omega) (show 24 < 3000 by omega) (by omega)
  obtain ⟨p20, p21⟩ := n2 25 (by omega) (by omega)
  obtain ⟨q20, q21⟩ := n2 26 (by omega) (by omega)
  refine Ct.of (L := [(0, _), (1, _)]) (by decide) (ble rfl) rfl ?_
  first | refine x_aload_n 0 dX12_ends_0 rfl rfl ?_ | refine x_aload_nN 0 dX12_ends_0 rfl rfl ?_
  refine x_get fX12_51 rfl dX12_ends_1 (by with_reducible repeat first | assumption | exact mH_0 ok | exact mH_1 | exact hset_s | refine mH_o (by first | assumption | exact nA ok (by omega) (by omega) (by omega)) (by first | assumption | exact nA ok (by omega) (by omega) (by omega)) ?_ | refine hget_n (by first | assumption | exact Ne.symm (by assumption) | exact nA ok (by omega) (by omega) (by omega)) ?_) (by rfl) ?_
  refine x_if_eq 40 dX12_ends_4 (by decide) (fun _ => ?_) (fun z => by first | exact absurd (rfl) z | exact absurd z (rfl))
  first | refine x_aload_n 0 dX12_ends_40 rfl rfl ?_ | refine x_aload_nN 0 dX12_ends_40 rfl rfl ?_
  refine x_get fX12_51 rfl dX12_ends_41 (by with_reducible repeat first | assumption | exact mH_0 ok | exact mH_1 | exact hset_s | refine mH_o (by first | assumption | exact nA ok (by omega) (by omega) (by omega)) (by first | assumption | exact nA ok (by omega) (by omega) (by omega)) ?_ | refine hget_n (by first | assumption | exact Ne.symm (by assumption) | exact nA ok (by omega) (by omega) (by omega)) ?_) (by rfl) ?_
  refine x_if_ne 51 dX12_ends_44 (by decide) (fun z => by first | exact absurd z (fun z => z rfl) | exact absurd (fun z => z rfl) z) (fun _ => ?_)
  refine x_iload_n 1 dX12_ends_47 rfl rfl ?_
  refine x_if_ge 78 dX12_ends_48 (by decide) (fun _ => ?_) (fun z => by first | exact absurd (hx) z | exact absurd z (hx))
  first | refine x_aload_n 0 dX12_ends_78 rfl rfl ?_ | refine x_aload_nN 0 dX12_ends_78 rfl rfl ?_
  refine x_cV0 (As := []) (ct_X12_rem ok hbefore hhistory hk) vX12_71 rfl (x_recv (by with_reducible repeat first | assumption | exact mH_0 ok | exact mH_1 | exact hset_s | refine mH_o (by first | assumption | exact nA ok (by omega) (by omega) (by omega)) (by first | assumption | exact nA ok (by omega) (by omega) (by omega)) ?_ | refine hget_n (by first | assumption | exact Ne.symm (by assumption) | exact nA ok (by omega) (by omega) (by omega)) ?_) rfl) rfl ⟨ble rfl, ble rfl⟩ (ble rfl) dX12_ends_79 rfl ?_
  refine x_iload_n 1 dX12_ends_82 rfl rfl ?_
  refine x_iret rfl dX12_ends_83 ?_
  exact ⟨rfl, rfl⟩
