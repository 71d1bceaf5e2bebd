def apL (lv : Nat → Int32) (tx : List Int32) : Nat → Int32 := fun q => if q < tx.length then tx.getD q 0 else lv q
theorem apL_0 (lv : Nat → Int32) : apL lv [] = lv := by funext q; unfold apL; exact if_neg (Nat.not_lt_zero q)
theorem apL_s (lv : Nat → Int32) (tx : List Int32) (c : Int32) : upd (apL lv tx) tx.length c = apL lv (tx ++ [c]) := by
  funext q
  unfold upd apL
  rw [List.length_append, List.length_singleton]
  by_cases h : q = tx.length
  · subst h; rw [if_pos rfl, if_pos (show tx.length < tx.length + 1 from Nat.lt_succ_self _), List.getD_eq_getElem?_getD, List.getElem?_append_right (Nat.le_refl _), Nat.sub_self]; rfl
  · rw [if_neg h]
    by_cases h2 : q < tx.length
    · rw [if_pos h2, if_pos (show q < tx.length + 1 by omega), List.getD_eq_getElem?_getD, List.getD_eq_getElem?_getD, List.getElem?_append_left h2]
    · rw [if_neg h2, if_neg (show ¬ q < tx.length + 1 by omega)]
def bg (w : Nat) : Nat := ([0, 6, 9, 17, 22, 27, 32, 35, 38, 42, 46, 50] : List Nat).getD w 0
def wdL (w : Nat) : List Int32 := if w < 3 then tsL w else tsL (w + 6)
theorem wd_t : ∀ w, w < 5 → bg (w + 1) = bg w + (wdL w).length ∧ (wdL w).length ≤ 8 ∧ bg (w + 1) ≤ 50 ∧ ∀ i, i < (wdL w).length → tsC 11 (bg w + i) = (wdL w).getD i 0 := by decide +kernel
theorem ts11 : tsLen 11 = 50 := by decide +kernel
theorem tk_s {l : List Int32} {i : Nat} (h : i < l.length) : l.take (i + 1) = l.take i ++ [l.getD i 0] := by
  rw [List.take_succ, List.getD_eq_getElem?_getD]
  rw [List.getElem?_eq_getElem h]
  rfl
set_option maxRecDepth 100000 in
set_option maxHeartbeats 1000000 in
theorem ct_begin_0 {l : Launch} {G : Gl} {h : Hp}  : CtR l G mX12_begin 1 [.int (nI 0)] h (some (.int (nI 0))) h := by
  refine Ct.of (L := [(0, _)]) (by decide) (ble rfl) rfl ?_
  refine x_iload_n 0 dX12_begin_0 rfl rfl ?_
  refine x_tableIn 60 dX12_begin_1 (by decide) (by decide) (by rfl) (by decide) ?_
  refine x_iconst (v := 0) dX12_begin_60 rfl ?_
  refine x_iret rfl dX12_begin_61 ?_
  exact ⟨rfl, rfl⟩
set_option maxRecDepth 100000 in
set_option maxHeartbeats 1000000 in
theorem ct_begin_1 {l : Launch} {G : Gl} {h : Hp}  : CtR l G mX12_begin 1 [.int (nI 1)] h (some (.int (nI 6))) h := by
  refine Ct.of (L := [(0, _)]) (by decide) (ble rfl) rfl ?_
  refine x_iload_n 0 dX12_begin_0 rfl rfl ?_
  refine x_tableIn 62 dX12_begin_1 (by decide) (by decide) (by rfl) (by decide) ?_
  refine x_bipush (v := 6) dX12_begin_62 rfl ?_
  refine x_iret rfl dX12_begin_64 ?_
  exact ⟨rfl, rfl⟩
set_option maxRecDepth 100000 in
set_option maxHeartbeats 1000000 in
theorem ct_begin_2 {l : Launch} {G : Gl} {h : Hp}  : CtR l G mX12_begin 1 [.int (nI 2)] h (some (.int (nI 9))) h := by
  refine Ct.of (L := [(0, _)]) (by decide) (ble rfl) rfl ?_
  refine x_iload_n 0 dX12_begin_0 rfl rfl ?_
  refine x_tableIn 65 dX12_begin_1 (by decide) (by decide) (by rfl) (by decide) ?_
  refine x_bipush (v := 9) dX12_begin_65 rfl ?_
  refine x_iret rfl dX12_begin_67 ?_
  exact ⟨rfl, rfl⟩
set_option maxRecDepth 100000 in
set_option maxHeartbeats 1000000 in
theorem ct_begin_3 {l : Launch} {G : Gl} {h : Hp}  : CtR l G mX12_begin 1 [.int (nI 3)] h (some (.int (nI 17))) h := by
  refine Ct.of (L := [(0, _)]) (by decide) (ble rfl) rfl ?_
  refine x_iload_n 0 dX12_begin_0 rfl rfl ?_
  refine x_tableIn 68 dX12_begin_1 (by decide) (by decide) (by rfl) (by decide) ?_
  refine x_bipush (v := 17) dX12_begin_68 rfl ?_
  refine x_iret rfl dX12_begin_70 ?_
  exact ⟨rfl, rfl⟩
set_option maxRecDepth 100000 in
set_option maxHeartbeats 1000000 in
theorem ct_begin_4 {l : Launch} {G : Gl} {h : Hp}  : CtR l G mX12_begin 1 [.int (nI 4)] h (some (.int (nI 22))) h := by
  refine Ct.of (L := [(0, _)]) (by decide) (ble rfl) rfl ?_
  refine x_iload_n 0 dX12_begin_0 rfl rfl ?_
  refine x_tableIn 71 dX12_begin_1 (by decide) (by decide) (by rfl) (by decide) ?_
  refine x_bipush (v := 22) dX12_begin_71 rfl ?_
  refine x_iret rfl dX12_begin_73 ?_
  exact ⟨rfl, rfl⟩
set_option maxRecDepth 100000 in
set_option maxHeartbeats 1000000 in
theorem ct_begin_5 {l : Launch} {G : Gl} {h : Hp}  : CtR l G mX12_begin 1 [.int (nI 5)] h (some (.int (nI 27))) h := by
  refine Ct.of (L := [(0, _)]) (by decide) (ble rfl) rfl ?_
  refine x_iload_n 0 dX12_begin_0 rfl rfl ?_
  refine x_tableIn 74 dX12_begin_1 (by decide) (by decide) (by rfl) (by decide) ?_
  refine x_bipush (v := 27) dX12_begin_74 rfl ?_
  refine x_iret rfl dX12_begin_76 ?_
  exact ⟨rfl, rfl⟩
set_option maxRecDepth 100000 in
set_option maxHeartbeats 1000000 in
theorem ct_begin_6 {l : Launch} {G : Gl} {h : Hp}  : CtR l G mX12_begin 1 [.int (nI 6)] h (some (.int (nI 32))) h := by
  refine Ct.of (L := [(0, _)]) (by decide) (ble rfl) rfl ?_
  refine x_iload_n 0 dX12_begin_0 rfl rfl ?_
  refine x_tableIn 77 dX12_begin_1 (by decide) (by decide) (by rfl) (by decide) ?_
  refine x_bipush (v := 32) dX12_begin_77 rfl ?_
  refine x_iret rfl dX12_begin_79 ?_
  exact ⟨rfl, rfl⟩
set_option maxRecDepth 100000 in
set_option maxHeartbeats 1000000 in
theorem ct_begin_7 {l : Launch} {G : Gl} {h : Hp}  : CtR l G mX12_begin 1 [.int (nI 7)] h (some (.int (nI 35))) h := by
  refine Ct.of (L := [(0, _)]) (by decide) (ble rfl) rfl ?_
  refine x_iload_n 0 dX12_begin_0 rfl rfl ?_
  refine x_tableIn 80 dX12_begin_1 (by decide) (by decide) (by rfl) (by decide) ?_
  refine x_bipush (v := 35) dX12_begin_80 rfl ?_
  refine x_iret rfl dX12_begin_82 ?_
  exact ⟨rfl, rfl⟩
set_option maxRecDepth 100000 in
set_option maxHeartbeats 1000000 in
theorem ct_begin_8 {l : Launch} {G : Gl} {h : Hp}  : CtR l G mX12_begin 1 [.int (nI 8)] h (some (.int (nI 38))) h := by
  refine Ct.of (L := [(0, _)]) (by decide) (ble rfl) rfl ?_
  refine x_iload_n 0 dX12_begin_0 rfl rfl ?_
  refine x_tableIn 83 dX12_begin_1 (by decide) (by decide) (by rfl) (by decide) ?_
  refine x_bipush (v := 38) dX12_begin_83 rfl ?_
  refine x_iret rfl dX12_begin_85 ?_
  exact ⟨rfl, rfl⟩
set_option maxRecDepth 100000 in
set_option maxHeartbeats 1000000 in
theorem ct_begin_9 {l : Launch} {G : Gl} {h : Hp}  : CtR l G mX12_begin 1 [.int (nI 9)] h (some (.int (nI 42))) h := by
  refine Ct.of (L := [(0, _)]) (by decide) (ble rfl) rfl ?_
  refine x_iload_n 0 dX12_begin_0 rfl rfl ?_
  refine x_tableIn 86 dX12_begin_1 (by decide) (by decide) (by rfl) (by decide) ?_
  refine x_bipush (v := 42) dX12_begin_86 rfl ?_
  refine x_iret rfl dX12_begin_88 ?_
  exact ⟨rfl, rfl⟩
set_option maxRecDepth 100000 in
set_option maxHeartbeats 1000000 in
theorem ct_begin_10 {l : Launch} {G : Gl} {h : Hp}  : CtR l G mX12_begin 1 [.int (nI 10)] h (some (.int (nI 46))) h := by
  refine Ct.of (L := [(0, _)]) (by decide) (ble rfl) rfl ?_
  refine x_iload_n 0 dX12_begin_0 rfl rfl ?_
  refine x_tableIn 89 dX12_begin_1 (by decide) (by decide) (by rfl) (by decide) ?_
  refine x_bipush (v := 46) dX12_begin_89 rfl ?_
  refine x_iret rfl dX12_begin_91 ?_
  exact ⟨rfl, rfl⟩
set_option maxRecDepth 100000 in
set_option maxHeartbeats 1000000 in
theorem ct_begin_11 {l : Launch} {G : Gl} {h : Hp}  : CtR l G mX12_begin 1 [.int (nI 11)] h (some (.int (nI 50))) h := by
  refine Ct.of (L := [(0, _)]) (by decide) (ble rfl) rfl ?_
  refine x_iload_n 0 dX12_begin_0 rfl rfl ?_
  refine x_tableOut 92 dX12_begin_1 (by decide) (by decide) ?_
  refine x_bipush (v := 50) dX12_begin_92 rfl ?_
  refine x_iret rfl dX12_begin_94 ?_
  exact ⟨rfl, rfl⟩
theorem ct_begin {l : Launch} {G : Gl} {h : Hp} {w : Nat} (hw : w < 12) : CtR l G mX12_begin 1 [.int (nI w)] h (some (.int (nI (bg w)))) h := by
  rcases (show w = 0 ∨ w = 1 ∨ w = 2 ∨ w = 3 ∨ w = 4 ∨ w = 5 ∨ w = 6 ∨ w = 7 ∨ w = 8 ∨ w = 9 ∨ w = 10 ∨ w = 11 by omega) with rfl | rfl | rfl | rfl | rfl | rfl | rfl | rfl | rfl | rfl | rfl | rfl
  · exact ct_begin_0
  · exact ct_begin_1
  · exact ct_begin_2
  · exact ct_begin_3
  · exact ct_begin_4
  · exact ct_begin_5
  · exact ct_begin_6
  · exact ct_begin_7
  · exact ct_begin_8
  · exact ct_begin_9
  · exact ct_begin_10
  · exact ct_begin_11
set_option maxRecDepth 100000 in
set_option maxHeartbeats 1000000 in
theorem ct_X12_put {l : Launch} {G : Gl} {h : Hp} {sv rem typ err lin why wha beh its siz att wro tol : Int32} {N : Nat → Int32} (ok : Ok G) {lv : Nat → Int32} {tx : List Int32} (ht : tx.length < 60) (c : Int32) : CtR l G mX12_put 2 [.ref (Ad G 20), .int (nI tx.length), .int c] (mH G (hset h (Ad G 28) (eI G 60 (apL lv (tx)))) (eMd G sv rem typ err lin why wha beh its siz att wro tol) N) (some (.int (nI (tx ++ [c]).length))) (mH G (hset h (Ad G 28) (eI G 60 (apL lv (tx ++ [c])))) (eMd G sv rem typ err lin why wha beh its siz att wro tol) N) := by
  have m28 : Ad G 28 ≠ Ad G 20 ∧ Ad G 28 ≠ Ad G 21 := ⟨nA ok (by omega) (by omega) (by omega), nA ok (by omega) (by omega) (by omega)⟩
  have hl : (tx ++ [c]).length = tx.length + 1 := by rw [List.length_append]; rfl
  refine Ct.of (L := [(0, _), (1, _), (2, _)]) (by decide) (ble rfl) rfl ?_
  first | refine x_aload_n 0 dX12_put_0 rfl rfl ?_ | refine x_aload_nN 0 dX12_put_0 rfl rfl ?_
  refine x_get fX12_35 rfl dX12_put_1 (by with_reducible repeat first | assumption | exact mH_0 ok | exact mH_1 | exact hset_s | refine mH_o (by first | assumption | exact nA ok (by omega) (by omega) (by omega)) (by first | assumption | exact nA ok (by omega) (by omega) (by omega)) ?_ | refine hget_n (by first | assumption | exact Ne.symm (by assumption) | exact nA ok (by omega) (by omega) (by omega)) ?_) (by rfl) ?_
  refine x_iload_n 1 dX12_put_4 rfl rfl ?_
  refine x_iload_n 2 dX12_put_5 rfl rfl ?_
  refine x_iastn dX12_put_6 (by with_reducible repeat first | assumption | exact mH_0 ok | exact mH_1 | exact hset_s | refine mH_o (by first | assumption | exact nA ok (by omega) (by omega) (by omega)) (by first | assumption | exact nA ok (by omega) (by omega) (by omega)) ?_ | refine hget_n (by first | assumption | exact Ne.symm (by assumption) | exact nA ok (by omega) (by omega) (by omega)) ?_) (by omega) (by first | decide | omega) (by first | assumption | exact aA (by assumption) (by omega)) ?_
  refine x_eqH (h' := (mH G (hset h (Ad G 28) (eI G 60 (apL lv (tx ++ [c])))) (eMd G sv rem typ err lin why wha beh its siz att wro tol) N)) ((mH_c m28.1 m28.2).trans (by rw [hset_2, apL_s])) ?_
  refine x_iload_n 1 dX12_put_7 rfl rfl ?_
  refine x_iconst (v := 1) dX12_put_8 rfl ?_
  refine x_iadd dX12_put_9 ?_
  refine x_iret rfl dX12_put_10 ?_
  exact ⟨by rw [hl, nI_1], rfl⟩
set_option maxRecDepth 100000 in
set_option maxHeartbeats 1000000 in
theorem ct_X12_writesWord {l : Launch} {G : Gl} {h : Hp} {sv rem typ err lin why wha beh its siz att wro tol : Int32} {N : Nat → Int32} (ok : Ok G) {lv : Nat → Int32} {tx : List Int32} {wi : Nat} (hw : wi < 5) (ht : tx.length + 8 ≤ 60) : CtR l G mX12_writesWord 6 [.ref (Ad G 20), .int (nI tx.length), .int (nI wi)] (mH G (hset h (Ad G 28) (eI G 60 (apL lv (tx)))) (eMd G sv rem typ err lin why wha beh its siz att wro tol) N) (some (.int (nI (tx ++ wdL wi).length))) (mH G (hset h (Ad G 28) (eI G 60 (apL lv (tx ++ wdL wi)))) (eMd G sv rem typ err lin why wha beh its siz att wro tol) N) := by
  obtain ⟨t1, t2, t3, t4⟩ := wd_t wi hw
  have tkl : ∀ i, i ≤ (wdL wi).length → (tx ++ (wdL wi).take i).length = tx.length + i := fun i hi => by rw [List.length_append, List.length_take, Nat.min_eq_left hi]
  have h50 := ts11
  refine Ct.of (L := [(0, _), (1, _), (2, _)]) (by decide) (ble rfl) rfl ?_
  refine x_iload_n 1 dX12_writesWord_0 rfl rfl ?_
  refine x_istore_n (L' := [(3, _), (0, _), (1, _), (2, _)]) dX12_writesWord_1 rfl (ble rfl) rfl ?_
  refine x_iload_n 3 dX12_writesWord_2 rfl rfl ?_
  refine x_cS1 (As := [.int _]) (ct_begin (by omega)) vX12_219 rfl rfl ⟨ble rfl, ble rfl⟩ (ble rfl) dX12_writesWord_3 rfl ?_
  refine x_istore (L' := [(4, _), (3, _), (0, _), (1, _), (2, _)]) dX12_writesWord_6 (ble rfl) rfl ?_
  refine x_eqL (L' := [(4, .int (nI (bg wi + 0))), (3, .int (nI (tx ++ (wdL wi).take 0).length)), (0, .ref (Ad G 20)), (1, .int (nI tx.length)), (2, .int (nI wi))]) (by rw [List.take_zero, List.append_nil]; rfl) ?_
  refine x_eqH (h' := (mH G (hset h (Ad G 28) (eI G 60 (apL lv (tx ++ (wdL wi).take 0)))) (eMd G sv rem typ err lin why wha beh its siz att wro tol) N)) (by rw [List.take_zero, List.append_nil]) ?_
  refine x_locs (L' := [(4, _), (3, _), (0, _), (1, _), (2, _)]) [0, 1, 2, 3, 4] rfl ?_
  refine dn (P := fun i => XX l G mX12_writesWord (Rm 6 0 0) (KQ G (Rm 6 0 0) (fun w h' => w = some (.int (nI (tx ++ wdL wi).length)) ∧ h' = (mH G (hset h (Ad G 28) (eI G 60 (apL lv (tx ++ wdL wi)))) (eMd G sv rem typ err lin why wha beh its siz att wro tol) N))) 0 0 8 [(4, .int (nI (bg wi + i))), (3, .int (nI (tx ++ (wdL wi).take i).length)), (0, .ref (Ad G 20)), (1, .int (nI tx.length)), (2, .int (nI wi))] [] (mH G (hset h (Ad G 28) (eI G 60 (apL lv (tx ++ (wdL wi).take i)))) (eMd G sv rem typ err lin why wha beh its siz att wro tol) N)) (n := (wdL wi).length) ?_ (fun i hi ihi => ?_)
  · refine x_iload 0 dX12_writesWord_8 rfl ?_
    refine x_iload_n 4 dX12_writesWord_10 rfl rfl ?_
    refine x_iconst (v := 1) dX12_writesWord_11 rfl ?_
    refine x_iadd dX12_writesWord_12 ?_
    rw [nI_1]
    refine x_cS1 (As := [.int _]) (ct_begin (by omega)) vX12_219 rfl rfl ⟨ble rfl, ble rfl⟩ (ble rfl) dX12_writesWord_13 rfl ?_
    rw [t1]
    refine x_icmp_ge 38 dX12_writesWord_16 (by decide) (fun _ => ?_) (fun z => by first | exact absurd (Int32.le_refl _) z | exact absurd z (Int32.le_refl _))
    refine x_iload_n 1 dX12_writesWord_38 rfl rfl ?_
    refine x_iret rfl dX12_writesWord_39 ?_
    rw [List.take_length]
    exact ⟨rfl, rfl⟩
  · refine x_iload 0 dX12_writesWord_8 rfl ?_
    refine x_iload_n 4 dX12_writesWord_10 rfl rfl ?_
    refine x_iconst (v := 1) dX12_writesWord_11 rfl ?_
    refine x_iadd dX12_writesWord_12 ?_
    rw [nI_1]
    refine x_cS1 (As := [.int _]) (ct_begin (by omega)) vX12_219 rfl rfl ⟨ble rfl, ble rfl⟩ (ble rfl) dX12_writesWord_13 rfl ?_
    rw [t1]
    refine x_icmp_ge 38 dX12_writesWord_16 (by decide) (fun z => by first | exact absurd z (nI_ge (by omega) (by omega)) | exact absurd (nI_ge (by omega) (by omega)) z) (fun _ => ?_)
    first | refine x_aload_n 2 dX12_writesWord_19 rfl rfl ?_ | refine x_aload_nN 2 dX12_writesWord_19 rfl rfl ?_
    refine x_iload_n 1 dX12_writesWord_20 rfl rfl ?_
    refine x_ldcS rfl (fun s hS => hS.2.2.2.2.2.1) dX12_writesWord_21 ?_
    refine x_iload 0 dX12_writesWord_23 rfl ?_
    refine x_cV1 (As := [.int _]) (ct_J0_charAt_5068e (k := 11) (by omega) (by omega)) vX12_224 rfl (x_recvO (zT_obj (k := 11) (by omega))) rfl ⟨ble rfl, ble rfl⟩ (ble rfl) dX12_writesWord_25 rfl ?_
    refine x_cV1 (As := [.int _, .int _]) (ct_X12_put ok (by rw [tkl i (by omega)]; omega) _) vX12_230 rfl (x_recv (by with_reducible repeat first | assumption | exact mH_0 ok | exact mH_1 | exact hset_s | refine mH_o (by first | assumption | exact nA ok (by omega) (by omega) (by omega)) (by first | assumption | exact nA ok (by omega) (by omega) (by omega)) ?_ | refine hget_n (by first | assumption | exact Ne.symm (by assumption) | exact nA ok (by omega) (by omega) (by omega)) ?_) rfl) rfl ⟨ble rfl, ble rfl⟩ (ble rfl) dX12_writesWord_28 rfl ?_
    refine x_istore_n (L' := [(3, _), (4, _), (0, _), (1, _), (2, _)]) dX12_writesWord_31 rfl (ble rfl) rfl ?_
    refine x_iinc (L' := [(4, _), (3, _), (0, _), (1, _), (2, _)]) (j := 1) (nI (_ + 1)) dX12_writesWord_32 rfl (nI_1 _) (ble rfl) rfl ?_
    refine x_goto 8 dX12_writesWord_35 (by decide) ?_
    refine x_locs (L' := [(4, _), (3, _), (0, _), (1, _), (2, _)]) [0, 1, 2, 3, 4] rfl ?_
    rw [tk_s hi, ← t4 i hi, ← List.append_assoc] at ihi
    exact ihi
set_option maxRecDepth 100000 in
set_option maxHeartbeats 1000000 in
theorem ct_wn_1 {l : Launch} {G : Gl} {h : Hp} {sv rem typ err lin why wha beh its siz att wro tol : Int32} {N : Nat → Int32} (ok : Ok G) {lv : Nat → Int32} {tx : List Int32} {n : Nat} (hn : n < 10) (ht : tx.length + 2 ≤ 60) : CtR l G mX12_writesNumber 6 [.ref (Ad G 20), .int (nI tx.length), .int (nI n)] (mH G (hset h (Ad G 28) (eI G 60 (apL lv (tx)))) (eMd G sv rem typ err lin why wha beh its siz att wro tol) N) (some (.int (nI (tx ++ dgs n).length))) (mH G (hset h (Ad G 28) (eI G 60 (apL lv (tx ++ dgs n)))) (eMd G sv rem typ err lin why wha beh its siz att wro tol) N) := by
  have hd : dgs n = [nI (48 + n % 10)] := by unfold dgs; rw [if_pos hn, Nat.mod_eq_of_lt hn]
  refine Ct.of (L := [(0, _), (1, _), (2, _)]) (by decide) (ble rfl) rfl ?_
  refine x_iload_n 2 dX12_writesNumber_0 rfl rfl ?_
  refine x_bipush (v := 10) dX12_writesNumber_1 rfl ?_
  refine x_icmp_ge 10 dX12_writesNumber_3 (by decide) (fun z => by first | exact absurd z (show ¬ (10 : Int32) ≤ nI n from nI_ge (b := 10) hn (by omega)) | exact absurd (show ¬ (10 : Int32) ≤ nI n from nI_ge (b := 10) hn (by omega)) z) (fun _ => ?_)
  refine x_iload_n 1 dX12_writesNumber_6 rfl rfl ?_
  refine x_goto 22 dX12_writesNumber_7 (by decide) ?_
  refine x_istore_n (L' := [(3, _), (0, _), (1, _), (2, _)]) dX12_writesNumber_22 rfl (ble rfl) rfl ?_
  first | refine x_aload_n 1 dX12_writesNumber_23 rfl rfl ?_ | refine x_aload_nN 1 dX12_writesNumber_23 rfl rfl ?_
  refine x_iload_n 0 dX12_writesNumber_24 rfl rfl ?_
  refine x_bipush (v := 48) dX12_writesNumber_25 rfl ?_
  refine x_iload_n 3 dX12_writesNumber_27 rfl rfl ?_
  refine x_bipush (v := 10) dX12_writesNumber_28 rfl ?_
  refine x_irem dX12_writesNumber_30 (by first | decide | assumption) ?_
  rw [show (10 : Int32) = nI 10 from rfl, pk_rem (by omega) (by omega) (by omega)]
  refine x_iadd dX12_writesNumber_31 ?_
  rw [show (48 : Int32) = nI 48 from rfl, nI_add]
  refine x_cV1 (As := [.int _, .int _]) (ct_X12_put ok (by omega) _) vX12_230 rfl (x_recv (by with_reducible repeat first | assumption | exact mH_0 ok | exact mH_1 | exact hset_s | refine mH_o (by first | assumption | exact nA ok (by omega) (by omega) (by omega)) (by first | assumption | exact nA ok (by omega) (by omega) (by omega)) ?_ | refine hget_n (by first | assumption | exact Ne.symm (by assumption) | exact nA ok (by omega) (by omega) (by omega)) ?_) rfl) rfl ⟨ble rfl, ble rfl⟩ (ble rfl) dX12_writesNumber_32 rfl ?_
  refine x_iret rfl dX12_writesNumber_35 ?_
  rw [hd]
  exact ⟨rfl, rfl⟩
set_option maxRecDepth 100000 in
set_option maxHeartbeats 1000000 in
theorem ct_wn_2 {l : Launch} {G : Gl} {h : Hp} {sv rem typ err lin why wha beh its siz att wro tol : Int32} {N : Nat → Int32} (ok : Ok G) {lv : Nat → Int32} {tx : List Int32} {n : Nat} (hn : n < 100) (h10 : 10 ≤ n) (ht : tx.length + 2 ≤ 60) : CtR l G mX12_writesNumber 6 [.ref (Ad G 20), .int (nI tx.length), .int (nI n)] (mH G (hset h (Ad G 28) (eI G 60 (apL lv (tx)))) (eMd G sv rem typ err lin why wha beh its siz att wro tol) N) (some (.int (nI (tx ++ dgs n).length))) (mH G (hset h (Ad G 28) (eI G 60 (apL lv (tx ++ dgs n)))) (eMd G sv rem typ err lin why wha beh its siz att wro tol) N) := by
  have hd : dgs n = [nI (48 + n / 10)] ++ [nI (48 + n % 10)] := by unfold dgs; rw [if_neg (by omega)]; rfl
  have hl2 : (tx ++ [nI (48 + n / 10)]).length = tx.length + 1 := by rw [List.length_append]; rfl
  refine Ct.of (L := [(0, _), (1, _), (2, _)]) (by decide) (ble rfl) rfl ?_
  refine x_iload_n 2 dX12_writesNumber_0 rfl rfl ?_
  refine x_bipush (v := 10) dX12_writesNumber_1 rfl ?_
  refine x_icmp_ge 10 dX12_writesNumber_3 (by decide) (fun _ => ?_) (fun z => by first | exact absurd (show (10 : Int32) ≤ nI n from nI_le (a := 10) h10 (by omega)) z | exact absurd z (show (10 : Int32) ≤ nI n from nI_le (a := 10) h10 (by omega)))
  first | refine x_aload_n 0 dX12_writesNumber_10 rfl rfl ?_ | refine x_aload_nN 0 dX12_writesNumber_10 rfl rfl ?_
  refine x_iload_n 1 dX12_writesNumber_11 rfl rfl ?_
  refine x_bipush (v := 48) dX12_writesNumber_12 rfl ?_
  refine x_iload_n 2 dX12_writesNumber_14 rfl rfl ?_
  refine x_bipush (v := 10) dX12_writesNumber_15 rfl ?_
  refine x_idiv dX12_writesNumber_17 (by first | decide | assumption) ?_
  rw [show (10 : Int32) = nI 10 from rfl, pk_div (by omega) (by omega) (by omega)]
  refine x_iadd dX12_writesNumber_18 ?_
  rw [show (48 : Int32) = nI 48 from rfl, nI_add]
  refine x_cV1 (As := [.int _, .int _]) (ct_X12_put ok (by omega) _) vX12_230 rfl (x_recv (by with_reducible repeat first | assumption | exact mH_0 ok | exact mH_1 | exact hset_s | refine mH_o (by first | assumption | exact nA ok (by omega) (by omega) (by omega)) (by first | assumption | exact nA ok (by omega) (by omega) (by omega)) ?_ | refine hget_n (by first | assumption | exact Ne.symm (by assumption) | exact nA ok (by omega) (by omega) (by omega)) ?_) rfl) rfl ⟨ble rfl, ble rfl⟩ (ble rfl) dX12_writesNumber_19 rfl ?_
  refine x_istore_n (L' := [(3, _), (0, _), (1, _), (2, _)]) dX12_writesNumber_22 rfl (ble rfl) rfl ?_
  first | refine x_aload_n 1 dX12_writesNumber_23 rfl rfl ?_ | refine x_aload_nN 1 dX12_writesNumber_23 rfl rfl ?_
  refine x_iload_n 0 dX12_writesNumber_24 rfl rfl ?_
  refine x_bipush (v := 48) dX12_writesNumber_25 rfl ?_
  refine x_iload_n 3 dX12_writesNumber_27 rfl rfl ?_
  refine x_bipush (v := 10) dX12_writesNumber_28 rfl ?_
  refine x_irem dX12_writesNumber_30 (by first | decide | assumption) ?_
  rw [show (10 : Int32) = nI 10 from rfl, pk_rem (by omega) (by omega) (by omega)]
  refine x_iadd dX12_writesNumber_31 ?_
  rw [show (48 : Int32) = nI 48 from rfl, nI_add]
  refine x_cV1 (As := [.int _, .int _]) (ct_X12_put ok (by omega) _) vX12_230 rfl (x_recv (by with_reducible repeat first | assumption | exact mH_0 ok | exact mH_1 | exact hset_s | refine mH_o (by first | assumption | exact nA ok (by omega) (by omega) (by omega)) (by first | assumption | exact nA ok (by omega) (by omega) (by omega)) ?_ | refine hget_n (by first | assumption | exact Ne.symm (by assumption) | exact nA ok (by omega) (by omega) (by omega)) ?_) rfl) rfl ⟨ble rfl, ble rfl⟩ (ble rfl) dX12_writesNumber_32 rfl ?_
  refine x_iret rfl dX12_writesNumber_35 ?_
  rw [hd]
  rw [← List.append_assoc]
  exact ⟨rfl, rfl⟩
theorem ct_wn {l : Launch} {G : Gl} {h : Hp} {sv rem typ err lin why wha beh its siz att wro tol : Int32} {N : Nat → Int32} (ok : Ok G) {lv : Nat → Int32} {tx : List Int32} {n : Nat} (hn : n < 100) (ht : tx.length + 2 ≤ 60) : CtR l G mX12_writesNumber 6 [.ref (Ad G 20), .int (nI tx.length), .int (nI n)] (mH G (hset h (Ad G 28) (eI G 60 (apL lv (tx)))) (eMd G sv rem typ err lin why wha beh its siz att wro tol) N) (some (.int (nI (tx ++ dgs n).length))) (mH G (hset h (Ad G 28) (eI G 60 (apL lv (tx ++ dgs n)))) (eMd G sv rem typ err lin why wha beh its siz att wro tol) N) := by
  by_cases q : n < 10
  · exact ct_wn_1 ok q ht
  · exact ct_wn_2 ok hn (by omega) ht
set_option maxRecDepth 100000 in
set_option maxHeartbeats 1000000 in
set_option maxRecDepth 100000 in
set_option maxHeartbeats 1000000 in
theorem ct_describe_in {l : Launch} {G : Gl} {h : Hp} {sv rem typ err lin why wha beh its siz att wro tol : Int32} {N : Nat → Int32} (ok : Ok G) {ns np no : Nat} (A : RowA N ns np no) {lv : Nat → Int32} {i th t : Nat} (hi : i < np) (hth : thickK (kOf (N (60 + 8 * i))) (N (61 + 8 * i)) (N (62 + 8 * i)) = nI th) (hth9 : th ≤ 9) (ht : (N (63 + 8 * i)) = nI t) (ht9 : t ≤ 9) : CtR l G mX12_describe 9 [.ref (Ad G 20), .int (nI i)] (mH G (hset h (Ad G 28) (eI G 60 (apL lv ([])))) (eMd G sv rem typ err lin why wha beh its siz att wro tol) N) (some (.int (nI (lnF (kOf (N (60 + 8 * i))) i th (N (62 + 8 * i)) t (N (61 + 8 * i)) (N (64 + 8 * i)) (N (66 + 8 * i))).length))) (mH G (hset h (Ad G 28) (eI G 60 (apL lv (lnF (kOf (N (60 + 8 * i))) i th (N (62 + 8 * i)) t (N (61 + 8 * i)) (N (64 + 8 * i)) (N (66 + 8 * i)))))) (eMd G sv rem typ err (nI (lnF (kOf (N (60 + 8 * i))) i th (N (62 + 8 * i)) t (N (61 + 8 * i)) (N (64 + 8 * i)) (N (66 + 8 * i))).length) why wha beh its siz att wro tol) N) := by
  obtain ⟨a2, a3, a4, b2, b3, b4, AP, AO⟩ := A
  have P := AP i hi
  obtain ⟨hK, -, ⟨b, hb, hb2⟩, -⟩ := id P
  have hq := mis_e _ hK.2 b (by omega)
  rw [← hb] at hq
  have hq0 := mis0 hK.2 hq
  have hkl := (tsL_le _ hK.2).1
  have hwd : wdL (kOf (N (60 + 8 * i))) = tsL (kOf (N (60 + 8 * i))) := if_pos hK.2
  have d1 := dgs_le i
  have d2 := dgs_le th
  have d3 := dgs_le t
  refine Ct.of (L := [(0, _), (1, _)]) (by decide) (ble rfl) rfl ?_
  first | refine x_aload_n 0 dX12_describe_0 rfl rfl ?_ | refine x_aload_nN 0 dX12_describe_0 rfl rfl ?_
  refine x_iload_n 1 dX12_describe_1 rfl rfl ?_
  refine x_cV1 (As := [.int _]) (ct_isPot_in ok a3 b3 hi) vX12_129 rfl (x_recv (by with_reducible repeat first | assumption | exact mH_0 ok | exact mH_1 | exact hset_s | refine mH_o (by first | assumption | exact nA ok (by omega) (by omega) (by omega)) (by first | assumption | exact nA ok (by omega) (by omega) (by omega)) ?_ | refine hget_n (by first | assumption | exact Ne.symm (by assumption) | exact nA ok (by omega) (by omega) (by omega)) ?_) rfl) rfl ⟨ble rfl, ble rfl⟩ (ble rfl) dX12_describe_2 rfl ?_
  refine x_if_ne 10 dX12_describe_5 (by decide) (fun _ => ?_) (fun z => by first | exact absurd (show ¬ (1 : Int32) = 0 by decide) z | exact absurd z (show ¬ (1 : Int32) = 0 by decide))
  first | refine x_aload_n 0 dX12_describe_10 rfl rfl ?_ | refine x_aload_nN 0 dX12_describe_10 rfl rfl ?_
  first | refine x_aload_n 0 dX12_describe_11 rfl rfl ?_ | refine x_aload_nN 0 dX12_describe_11 rfl rfl ?_
  first | refine x_aload_n 0 dX12_describe_12 rfl rfl ?_ | refine x_aload_nN 0 dX12_describe_12 rfl rfl ?_
  refine x_iconst (v := 0) dX12_describe_13 rfl ?_
  first | refine x_aload_n 0 dX12_describe_14 rfl rfl ?_ | refine x_aload_nN 0 dX12_describe_14 rfl rfl ?_
  refine x_iload_n 1 dX12_describe_15 rfl rfl ?_
  refine x_iconst (v := 0) dX12_describe_16 rfl ?_
  refine x_cV1 (As := [.int _, .int _]) (ct_X12_of_0 ok (by omega)) vX12_101 rfl (x_recv (by with_reducible repeat first | assumption | exact mH_0 ok | exact mH_1 | exact hset_s | refine mH_o (by first | assumption | exact nA ok (by omega) (by omega) (by omega)) (by first | assumption | exact nA ok (by omega) (by omega) (by omega)) ?_ | refine hget_n (by first | assumption | exact Ne.symm (by assumption) | exact nA ok (by omega) (by omega) (by omega)) ?_) rfl) rfl ⟨ble rfl, ble rfl⟩ (ble rfl) dX12_describe_17 rfl ?_
  refine x_eqS (st' := [.int (nI (kOf (N (60 + 8 * i)))), .int (nI ([] : List Int32).length), .ref (Ad G 20), .ref (Ad G 20), .ref (Ad G 20)]) (by rw [← hK.1]; rfl) ?_
  refine x_cV1 (As := [.int _, .int _]) (ct_X12_writesWord ok (tx := []) (wi := (kOf (N (60 + 8 * i)))) (by have := hK.2; omega) (by rw [List.length_nil]; omega)) vX12_233 rfl (x_recv (by with_reducible repeat first | assumption | exact mH_0 ok | exact mH_1 | exact hset_s | refine mH_o (by first | assumption | exact nA ok (by omega) (by omega) (by omega)) (by first | assumption | exact nA ok (by omega) (by omega) (by omega)) ?_ | refine hget_n (by first | assumption | exact Ne.symm (by assumption) | exact nA ok (by omega) (by omega) (by omega)) ?_) rfl) rfl ⟨ble rfl, ble rfl⟩ (ble rfl) dX12_describe_20 rfl ?_
  rw [hwd]
  refine x_iload_n 1 dX12_describe_23 rfl rfl ?_
  refine x_cV1 (As := [.int _, .int _]) (ct_wn ok (tx := [] ++ tsL (kOf (N (60 + 8 * i)))) (n := i) (by omega) (by simp only [List.length_append, List.length_nil]; omega)) vX12_236 rfl (x_recv (by with_reducible repeat first | assumption | exact mH_0 ok | exact mH_1 | exact hset_s | refine mH_o (by first | assumption | exact nA ok (by omega) (by omega) (by omega)) (by first | assumption | exact nA ok (by omega) (by omega) (by omega)) ?_ | refine hget_n (by first | assumption | exact Ne.symm (by assumption) | exact nA ok (by omega) (by omega) (by omega)) ?_) rfl) rfl ⟨ble rfl, ble rfl⟩ (ble rfl) dX12_describe_24 rfl ?_
  refine x_bipush (v := 58) dX12_describe_27 rfl ?_
  refine x_cV1 (As := [.int _, .int _]) (ct_X12_put ok (tx := ([] ++ tsL (kOf (N (60 + 8 * i)))) ++ dgs i) (by simp only [List.length_append, List.length_nil]; omega) _) vX12_230 rfl (x_recv (by with_reducible repeat first | assumption | exact mH_0 ok | exact mH_1 | exact hset_s | refine mH_o (by first | assumption | exact nA ok (by omega) (by omega) (by omega)) (by first | assumption | exact nA ok (by omega) (by omega) (by omega)) ?_ | refine hget_n (by first | assumption | exact Ne.symm (by assumption) | exact nA ok (by omega) (by omega) (by omega)) ?_) rfl) rfl ⟨ble rfl, ble rfl⟩ (ble rfl) dX12_describe_29 rfl ?_
  refine x_istore_n (L' := [(2, _), (0, _), (1, _)]) dX12_describe_32 rfl (ble rfl) rfl ?_
  first | refine x_aload_n 1 dX12_describe_33 rfl rfl ?_ | refine x_aload_nN 1 dX12_describe_33 rfl rfl ?_
  refine x_iload_n 0 dX12_describe_34 rfl rfl ?_
  first | refine x_aload_n 1 dX12_describe_35 rfl rfl ?_ | refine x_aload_nN 1 dX12_describe_35 rfl rfl ?_
  refine x_iload_n 2 dX12_describe_36 rfl rfl ?_
  refine x_cV1 (As := [.int _]) (ct_X12_thickness ok (by omega) hK) vX12_117 rfl (x_recv (by with_reducible repeat first | assumption | exact mH_0 ok | exact mH_1 | exact hset_s | refine mH_o (by first | assumption | exact nA ok (by omega) (by omega) (by omega)) (by first | assumption | exact nA ok (by omega) (by omega) (by omega)) ?_ | refine hget_n (by first | assumption | exact Ne.symm (by assumption) | exact nA ok (by omega) (by omega) (by omega)) ?_) rfl) rfl ⟨ble rfl, ble rfl⟩ (ble rfl) dX12_describe_37 rfl ?_
  rw [hth]
  refine x_cV1 (As := [.int _, .int _]) (ct_wn ok (tx := (([] ++ tsL (kOf (N (60 + 8 * i)))) ++ dgs i) ++ [58]) (n := th) (by omega) (by simp only [List.length_append, List.length_nil, List.length_singleton]; omega)) vX12_236 rfl (x_recv (by with_reducible repeat first | assumption | exact mH_0 ok | exact mH_1 | exact hset_s | refine mH_o (by first | assumption | exact nA ok (by omega) (by omega) (by omega)) (by first | assumption | exact nA ok (by omega) (by omega) (by omega)) ?_ | refine hget_n (by first | assumption | exact Ne.symm (by assumption) | exact nA ok (by omega) (by omega) (by omega)) ?_) rfl) rfl ⟨ble rfl, ble rfl⟩ (ble rfl) dX12_describe_40 rfl ?_
  refine x_istore_n (L' := [(2, _), (0, _), (1, _)]) dX12_describe_43 rfl (ble rfl) rfl ?_
  refine x_eqL (L' := [(2, .int (nI (lnA (kOf (N (60 + 8 * i))) i th).length)), (0, .ref (Ad G 20)), (1, .int (nI i))]) rfl ?_
  refine x_eqH (h' := (mH G (hset h (Ad G 28) (eI G 60 (apL lv (lnA (kOf (N (60 + 8 * i))) i th)))) (eMd G sv rem typ err lin why wha beh its siz att wro tol) N)) rfl ?_
  first | refine x_aload_n 1 dX12_describe_44 rfl rfl ?_ | refine x_aload_nN 1 dX12_describe_44 rfl rfl ?_
  refine x_iload_n 2 dX12_describe_45 rfl rfl ?_
  refine x_cV1 (As := [.int _]) (ct_X12_missingBlows ok (by omega) hK) vX12_147 rfl (x_recv (by with_reducible repeat first | assumption | exact mH_0 ok | exact mH_1 | exact hset_s | refine mH_o (by first | assumption | exact nA ok (by omega) (by omega) (by omega)) (by first | assumption | exact nA ok (by omega) (by omega) (by omega)) ?_ | refine hget_n (by first | assumption | exact Ne.symm (by assumption) | exact nA ok (by omega) (by omega) (by omega)) ?_) rfl) rfl ⟨ble rfl, ble rfl⟩ (ble rfl) dX12_describe_46 rfl ?_
  have J63 : ∀ w : List Int32, w = lnB (kOf (N (60 + 8 * i))) i th (N (62 + 8 * i)) → XX l G mX12_describe (Rm 9 0 0) (KQ G (Rm 9 0 0) (fun w h' => w = some (.int (nI (lnF (kOf (N (60 + 8 * i))) i th (N (62 + 8 * i)) t (N (61 + 8 * i)) (N (64 + 8 * i)) (N (66 + 8 * i))).length)) ∧ h' = (mH G (hset h (Ad G 28) (eI G 60 (apL lv (lnF (kOf (N (60 + 8 * i))) i th (N (62 + 8 * i)) t (N (61 + 8 * i)) (N (64 + 8 * i)) (N (66 + 8 * i)))))) (eMd G sv rem typ err (nI (lnF (kOf (N (60 + 8 * i))) i th (N (62 + 8 * i)) t (N (61 + 8 * i)) (N (64 + 8 * i)) (N (66 + 8 * i))).length) why wha beh its siz att wro tol) N))) 0 0 63 [(2, .int (nI (lnA (kOf (N (60 + 8 * i))) i th).length)), (0, .ref (Ad G 20)), (1, .int (nI i))] [.int (nI w.length)] (mH G (hset h (Ad G 28) (eI G 60 (apL lv (w)))) (eMd G sv rem typ err lin why wha beh its siz att wro tol) N) := by
    intro w hw
    subst hw
    refine x_istore_n (L' := [(2, _), (0, _), (1, _)]) dX12_describe_63 rfl (ble rfl) rfl ?_
    first | refine x_aload_n 1 dX12_describe_64 rfl rfl ?_ | refine x_aload_nN 1 dX12_describe_64 rfl rfl ?_
    refine x_iload_n 2 dX12_describe_65 rfl rfl ?_
    refine x_iconst (v := 3) dX12_describe_66 rfl ?_
    refine x_cV1 (As := [.int _, .int _]) (ct_X12_of_3 ok (by omega)) vX12_101 rfl (x_recv (by with_reducible repeat first | assumption | exact mH_0 ok | exact mH_1 | exact hset_s | refine mH_o (by first | assumption | exact nA ok (by omega) (by omega) (by omega)) (by first | assumption | exact nA ok (by omega) (by omega) (by omega)) ?_ | refine hget_n (by first | assumption | exact Ne.symm (by assumption) | exact nA ok (by omega) (by omega) (by omega)) ?_) rfl) rfl ⟨ble rfl, ble rfl⟩ (ble rfl) dX12_describe_67 rfl ?_
    rw [ht]
    have J94 : ∀ w : List Int32, w = lnC (kOf (N (60 + 8 * i))) i th (N (62 + 8 * i)) t → XX l G mX12_describe (Rm 9 0 0) (KQ G (Rm 9 0 0) (fun w h' => w = some (.int (nI (lnF (kOf (N (60 + 8 * i))) i th (N (62 + 8 * i)) t (N (61 + 8 * i)) (N (64 + 8 * i)) (N (66 + 8 * i))).length)) ∧ h' = (mH G (hset h (Ad G 28) (eI G 60 (apL lv (lnF (kOf (N (60 + 8 * i))) i th (N (62 + 8 * i)) t (N (61 + 8 * i)) (N (64 + 8 * i)) (N (66 + 8 * i)))))) (eMd G sv rem typ err (nI (lnF (kOf (N (60 + 8 * i))) i th (N (62 + 8 * i)) t (N (61 + 8 * i)) (N (64 + 8 * i)) (N (66 + 8 * i))).length) why wha beh its siz att wro tol) N))) 0 0 94 [(2, .int (nI (lnB (kOf (N (60 + 8 * i))) i th (N (62 + 8 * i))).length)), (0, .ref (Ad G 20)), (1, .int (nI i))] [.int (nI w.length)] (mH G (hset h (Ad G 28) (eI G 60 (apL lv (w)))) (eMd G sv rem typ err lin why wha beh its siz att wro tol) N) := by
      intro w hw
      subst hw
      refine x_istore_n (L' := [(2, _), (0, _), (1, _)]) dX12_describe_94 rfl (ble rfl) rfl ?_
      first | refine x_aload_n 1 dX12_describe_95 rfl rfl ?_ | refine x_aload_nN 1 dX12_describe_95 rfl rfl ?_
      refine x_iload_n 2 dX12_describe_96 rfl rfl ?_
      refine x_cV1 (As := [.int _]) (ct_X12_isCracked ok (by omega) P) vX12_135 rfl (x_recv (by with_reducible repeat first | assumption | exact mH_0 ok | exact mH_1 | exact hset_s | refine mH_o (by first | assumption | exact nA ok (by omega) (by omega) (by omega)) (by first | assumption | exact nA ok (by omega) (by omega) (by omega)) ?_ | refine hget_n (by first | assumption | exact Ne.symm (by assumption) | exact nA ok (by omega) (by omega) (by omega)) ?_) rfl) rfl ⟨ble rfl, ble rfl⟩ (ble rfl) dX12_describe_97 rfl ?_
      have J114 : ∀ w : List Int32, w = lnD (kOf (N (60 + 8 * i))) i th (N (62 + 8 * i)) t (N (61 + 8 * i)) → XX l G mX12_describe (Rm 9 0 0) (KQ G (Rm 9 0 0) (fun w h' => w = some (.int (nI (lnF (kOf (N (60 + 8 * i))) i th (N (62 + 8 * i)) t (N (61 + 8 * i)) (N (64 + 8 * i)) (N (66 + 8 * i))).length)) ∧ h' = (mH G (hset h (Ad G 28) (eI G 60 (apL lv (lnF (kOf (N (60 + 8 * i))) i th (N (62 + 8 * i)) t (N (61 + 8 * i)) (N (64 + 8 * i)) (N (66 + 8 * i)))))) (eMd G sv rem typ err (nI (lnF (kOf (N (60 + 8 * i))) i th (N (62 + 8 * i)) t (N (61 + 8 * i)) (N (64 + 8 * i)) (N (66 + 8 * i))).length) why wha beh its siz att wro tol) N))) 0 0 114 [(2, .int (nI (lnC (kOf (N (60 + 8 * i))) i th (N (62 + 8 * i)) t).length)), (0, .ref (Ad G 20)), (1, .int (nI i))] [.int (nI w.length)] (mH G (hset h (Ad G 28) (eI G 60 (apL lv (w)))) (eMd G sv rem typ err lin why wha beh its siz att wro tol) N) := by
        intro w hw
        subst hw
        refine x_istore_n (L' := [(2, _), (0, _), (1, _)]) dX12_describe_114 rfl (ble rfl) rfl ?_
        first | refine x_aload_n 1 dX12_describe_115 rfl rfl ?_ | refine x_aload_nN 1 dX12_describe_115 rfl rfl ?_
        refine x_iload_n 2 dX12_describe_116 rfl rfl ?_
        refine x_cV1 (As := [.int _]) (ct_X12_isNew ok (by omega)) vX12_165 rfl (x_recv (by with_reducible repeat first | assumption | exact mH_0 ok | exact mH_1 | exact hset_s | refine mH_o (by first | assumption | exact nA ok (by omega) (by omega) (by omega)) (by first | assumption | exact nA ok (by omega) (by omega) (by omega)) ?_ | refine hget_n (by first | assumption | exact Ne.symm (by assumption) | exact nA ok (by omega) (by omega) (by omega)) ?_) rfl) rfl ⟨ble rfl, ble rfl⟩ (ble rfl) dX12_describe_117 rfl ?_
        have J133 : ∀ w : List Int32, w = lnE (kOf (N (60 + 8 * i))) i th (N (62 + 8 * i)) t (N (61 + 8 * i)) (N (64 + 8 * i)) → XX l G mX12_describe (Rm 9 0 0) (KQ G (Rm 9 0 0) (fun w h' => w = some (.int (nI (lnF (kOf (N (60 + 8 * i))) i th (N (62 + 8 * i)) t (N (61 + 8 * i)) (N (64 + 8 * i)) (N (66 + 8 * i))).length)) ∧ h' = (mH G (hset h (Ad G 28) (eI G 60 (apL lv (lnF (kOf (N (60 + 8 * i))) i th (N (62 + 8 * i)) t (N (61 + 8 * i)) (N (64 + 8 * i)) (N (66 + 8 * i)))))) (eMd G sv rem typ err (nI (lnF (kOf (N (60 + 8 * i))) i th (N (62 + 8 * i)) t (N (61 + 8 * i)) (N (64 + 8 * i)) (N (66 + 8 * i))).length) why wha beh its siz att wro tol) N))) 0 0 133 [(2, .int (nI (lnD (kOf (N (60 + 8 * i))) i th (N (62 + 8 * i)) t (N (61 + 8 * i))).length)), (0, .ref (Ad G 20)), (1, .int (nI i))] [.int (nI w.length)] (mH G (hset h (Ad G 28) (eI G 60 (apL lv (w)))) (eMd G sv rem typ err lin why wha beh its siz att wro tol) N) := by
          intro w hw
          subst hw
          refine x_istore_n (L' := [(2, _), (0, _), (1, _)]) dX12_describe_133 rfl (ble rfl) rfl ?_
          first | refine x_aload_n 1 dX12_describe_134 rfl rfl ?_ | refine x_aload_nN 1 dX12_describe_134 rfl rfl ?_
          refine x_iload_n 2 dX12_describe_135 rfl rfl ?_
          refine x_cV1 (As := [.int _]) (ct_X12_isSold ok (by omega)) vX12_132 rfl (x_recv (by with_reducible repeat first | assumption | exact mH_0 ok | exact mH_1 | exact hset_s | refine mH_o (by first | assumption | exact nA ok (by omega) (by omega) (by omega)) (by first | assumption | exact nA ok (by omega) (by omega) (by omega)) ?_ | refine hget_n (by first | assumption | exact Ne.symm (by assumption) | exact nA ok (by omega) (by omega) (by omega)) ?_) rfl) rfl ⟨ble rfl, ble rfl⟩ (ble rfl) dX12_describe_136 rfl ?_
          have J152 : ∀ w : List Int32, w = lnF (kOf (N (60 + 8 * i))) i th (N (62 + 8 * i)) t (N (61 + 8 * i)) (N (64 + 8 * i)) (N (66 + 8 * i)) → XX l G mX12_describe (Rm 9 0 0) (KQ G (Rm 9 0 0) (fun w h' => w = some (.int (nI (lnF (kOf (N (60 + 8 * i))) i th (N (62 + 8 * i)) t (N (61 + 8 * i)) (N (64 + 8 * i)) (N (66 + 8 * i))).length)) ∧ h' = (mH G (hset h (Ad G 28) (eI G 60 (apL lv (lnF (kOf (N (60 + 8 * i))) i th (N (62 + 8 * i)) t (N (61 + 8 * i)) (N (64 + 8 * i)) (N (66 + 8 * i)))))) (eMd G sv rem typ err (nI (lnF (kOf (N (60 + 8 * i))) i th (N (62 + 8 * i)) t (N (61 + 8 * i)) (N (64 + 8 * i)) (N (66 + 8 * i))).length) why wha beh its siz att wro tol) N))) 0 0 152 [(2, .int (nI (lnE (kOf (N (60 + 8 * i))) i th (N (62 + 8 * i)) t (N (61 + 8 * i)) (N (64 + 8 * i))).length)), (0, .ref (Ad G 20)), (1, .int (nI i))] [.int (nI w.length)] (mH G (hset h (Ad G 28) (eI G 60 (apL lv (w)))) (eMd G sv rem typ err lin why wha beh its siz att wro tol) N) := by
            intro w hw
            subst hw
            refine x_istore_n (L' := [(2, _), (0, _), (1, _)]) dX12_describe_152 rfl (ble rfl) rfl ?_
            first | refine x_aload_n 1 dX12_describe_153 rfl rfl ?_ | refine x_aload_nN 1 dX12_describe_153 rfl rfl ?_
            refine x_iload_n 0 dX12_describe_154 rfl rfl ?_
            refine x_mput ok fX12_239 rfl rfl rfl rfl dX12_describe_155 (by exact ble rfl) ?_
            refine x_iload_n 0 dX12_describe_158 rfl rfl ?_
            refine x_iret rfl dX12_describe_159 ?_
            exact ⟨rfl, rfl⟩
          refine x_if_eq 151 dX12_describe_139 (by decide) (fun c139 => ?_) (fun c139 => ?_)
          · refine x_iload_n 0 dX12_describe_151 rfl rfl ?_
            refine x_locs (L' := [(2, _), (0, _), (1, _)]) [0, 1, 2] rfl ?_
            refine J152 _ ?_
            unfold lnF
            first | (rw [if_neg c139]; rfl) | (rw [if_pos c139, List.append_nil])
          · first | refine x_aload_n 1 dX12_describe_142 rfl rfl ?_ | refine x_aload_nN 1 dX12_describe_142 rfl rfl ?_
            refine x_iload_n 0 dX12_describe_143 rfl rfl ?_
            refine x_iconst (v := 4) dX12_describe_144 rfl ?_
            refine x_cV1 (As := [.int _, .int _]) (ct_X12_writesWord ok (tx := lnE (kOf (N (60 + 8 * i))) i th (N (62 + 8 * i)) t (N (61 + 8 * i)) (N (64 + 8 * i))) (wi := 4) (by omega) (by have := lnE_le (n := i) (th := th) (b := (N (62 + 8 * i))) (t := t) (g := (N (61 + 8 * i))) (m := (N (64 + 8 * i))) hK.2; omega)) vX12_233 rfl (x_recv (by with_reducible repeat first | assumption | exact mH_0 ok | exact mH_1 | exact hset_s | refine mH_o (by first | assumption | exact nA ok (by omega) (by omega) (by omega)) (by first | assumption | exact nA ok (by omega) (by omega) (by omega)) ?_ | refine hget_n (by first | assumption | exact Ne.symm (by assumption) | exact nA ok (by omega) (by omega) (by omega)) ?_) rfl) rfl ⟨ble rfl, ble rfl⟩ (ble rfl) dX12_describe_145 rfl ?_
            refine x_goto 152 dX12_describe_148 (by decide) ?_
            refine x_locs (L' := [(2, _), (0, _), (1, _)]) [0, 1, 2] rfl ?_
            refine J152 _ ?_
            unfold lnF
            first | (rw [if_neg c139]; rfl) | (rw [if_pos c139, List.append_nil])
        refine x_if_eq 127 dX12_describe_120 (by decide) (fun c120 => ?_) (fun c120 => ?_)
        · first | refine x_aload_n 1 dX12_describe_127 rfl rfl ?_ | refine x_aload_nN 1 dX12_describe_127 rfl rfl ?_
          refine x_iload_n 0 dX12_describe_128 rfl rfl ?_
          refine x_iconst (v := 3) dX12_describe_129 rfl ?_
          refine x_cV1 (As := [.int _, .int _]) (ct_X12_writesWord ok (tx := lnD (kOf (N (60 + 8 * i))) i th (N (62 + 8 * i)) t (N (61 + 8 * i))) (wi := 3) (by omega) (by have := lnD_le (n := i) (th := th) (b := (N (62 + 8 * i))) (t := t) (g := (N (61 + 8 * i))) hK.2; omega)) vX12_233 rfl (x_recv (by with_reducible repeat first | assumption | exact mH_0 ok | exact mH_1 | exact hset_s | refine mH_o (by first | assumption | exact nA ok (by omega) (by omega) (by omega)) (by first | assumption | exact nA ok (by omega) (by omega) (by omega)) ?_ | refine hget_n (by first | assumption | exact Ne.symm (by assumption) | exact nA ok (by omega) (by omega) (by omega)) ?_) rfl) rfl ⟨ble rfl, ble rfl⟩ (ble rfl) dX12_describe_130 rfl ?_
          refine x_locs (L' := [(2, _), (0, _), (1, _)]) [0, 1, 2] rfl ?_
          refine J133 _ ?_
          unfold lnE
          first | (rw [if_pos c120]; rfl) | (rw [if_neg c120, List.append_nil])
        · refine x_iload_n 0 dX12_describe_123 rfl rfl ?_
          refine x_goto 133 dX12_describe_124 (by decide) ?_
          refine x_locs (L' := [(2, _), (0, _), (1, _)]) [0, 1, 2] rfl ?_
          refine J133 _ ?_
          unfold lnE
          first | (rw [if_pos c120]; rfl) | (rw [if_neg c120, List.append_nil])
      refine x_if_eq 113 dX12_describe_100 (by decide) (fun c100 => ?_) (fun c100 => ?_)
      · refine x_iload_n 0 dX12_describe_113 rfl rfl ?_
        refine x_locs (L' := [(2, _), (0, _), (1, _)]) [0, 1, 2] rfl ?_
        refine J114 _ ?_
        unfold lnD
        first | (rw [if_neg c100]) | (rw [if_pos c100, List.append_nil])
      · first | refine x_aload_n 1 dX12_describe_103 rfl rfl ?_ | refine x_aload_nN 1 dX12_describe_103 rfl rfl ?_
        refine x_iload_n 0 dX12_describe_104 rfl rfl ?_
        refine x_bipush (v := 33) dX12_describe_105 rfl ?_
        refine x_cV1 (As := [.int _, .int _]) (ct_X12_put ok (tx := lnC (kOf (N (60 + 8 * i))) i th (N (62 + 8 * i)) t) (by have := lnC_le (n := i) (th := th) (b := (N (62 + 8 * i))) (t := t) hK.2; omega) _) vX12_230 rfl (x_recv (by with_reducible repeat first | assumption | exact mH_0 ok | exact mH_1 | exact hset_s | refine mH_o (by first | assumption | exact nA ok (by omega) (by omega) (by omega)) (by first | assumption | exact nA ok (by omega) (by omega) (by omega)) ?_ | refine hget_n (by first | assumption | exact Ne.symm (by assumption) | exact nA ok (by omega) (by omega) (by omega)) ?_) rfl) rfl ⟨ble rfl, ble rfl⟩ (ble rfl) dX12_describe_107 rfl ?_
        refine x_goto 114 dX12_describe_110 (by decide) ?_
        refine x_locs (L' := [(2, _), (0, _), (1, _)]) [0, 1, 2] rfl ?_
        refine J114 _ ?_
        unfold lnD
        first | (rw [if_neg c100]) | (rw [if_pos c100, List.append_nil])
    refine x_if_le 93 dX12_describe_70 (by decide) (fun c70 => ?_) (fun c70 => ?_)
    · refine x_iload_n 0 dX12_describe_93 rfl rfl ?_
      refine x_locs (L' := [(2, _), (0, _), (1, _)]) [0, 1, 2] rfl ?_
      refine J94 _ ?_
      unfold lnC
      first | (rw [if_neg (fun z => c70 (by rw [z]; exact Int32.le_refl _)), ← List.append_assoc]) | (rw [if_pos (Classical.not_not.mp fun z => nI_nle (n := t) (by omega) (by omega) c70), List.append_nil])
    · first | refine x_aload_n 1 dX12_describe_73 rfl rfl ?_ | refine x_aload_nN 1 dX12_describe_73 rfl rfl ?_
      first | refine x_aload_n 1 dX12_describe_74 rfl rfl ?_ | refine x_aload_nN 1 dX12_describe_74 rfl rfl ?_
      refine x_iload_n 0 dX12_describe_75 rfl rfl ?_
      refine x_bipush (v := 43) dX12_describe_76 rfl ?_
      refine x_cV1 (As := [.int _, .int _]) (ct_X12_put ok (tx := lnB (kOf (N (60 + 8 * i))) i th (N (62 + 8 * i))) (by have := lnB_le (n := i) (th := th) (b := (N (62 + 8 * i))) hK.2; omega) _) vX12_230 rfl (x_recv (by with_reducible repeat first | assumption | exact mH_0 ok | exact mH_1 | exact hset_s | refine mH_o (by first | assumption | exact nA ok (by omega) (by omega) (by omega)) (by first | assumption | exact nA ok (by omega) (by omega) (by omega)) ?_ | refine hget_n (by first | assumption | exact Ne.symm (by assumption) | exact nA ok (by omega) (by omega) (by omega)) ?_) rfl) rfl ⟨ble rfl, ble rfl⟩ (ble rfl) dX12_describe_78 rfl ?_
      first | refine x_aload_n 1 dX12_describe_81 rfl rfl ?_ | refine x_aload_nN 1 dX12_describe_81 rfl rfl ?_
      refine x_iload_n 2 dX12_describe_82 rfl rfl ?_
      refine x_iconst (v := 3) dX12_describe_83 rfl ?_
      refine x_cV1 (As := [.int _, .int _]) (ct_X12_of_3 ok (by omega)) vX12_101 rfl (x_recv (by with_reducible repeat first | assumption | exact mH_0 ok | exact mH_1 | exact hset_s | refine mH_o (by first | assumption | exact nA ok (by omega) (by omega) (by omega)) (by first | assumption | exact nA ok (by omega) (by omega) (by omega)) ?_ | refine hget_n (by first | assumption | exact Ne.symm (by assumption) | exact nA ok (by omega) (by omega) (by omega)) ?_) rfl) rfl ⟨ble rfl, ble rfl⟩ (ble rfl) dX12_describe_84 rfl ?_
      rw [ht]
      refine x_cV1 (As := [.int _, .int _]) (ct_wn ok (tx := lnB (kOf (N (60 + 8 * i))) i th (N (62 + 8 * i)) ++ [43]) (n := t) (by omega) (by have := lnB_le (n := i) (th := th) (b := (N (62 + 8 * i))) hK.2; rw [List.length_append, List.length_singleton]; omega)) vX12_236 rfl (x_recv (by with_reducible repeat first | assumption | exact mH_0 ok | exact mH_1 | exact hset_s | refine mH_o (by first | assumption | exact nA ok (by omega) (by omega) (by omega)) (by first | assumption | exact nA ok (by omega) (by omega) (by omega)) ?_ | refine hget_n (by first | assumption | exact Ne.symm (by assumption) | exact nA ok (by omega) (by omega) (by omega)) ?_) rfl) rfl ⟨ble rfl, ble rfl⟩ (ble rfl) dX12_describe_87 rfl ?_
      refine x_goto 94 dX12_describe_90 (by decide) ?_
      refine x_locs (L' := [(2, _), (0, _), (1, _)]) [0, 1, 2] rfl ?_
      refine J94 _ ?_
      unfold lnC
      first | (rw [if_neg (fun z => c70 (by rw [z]; exact Int32.le_refl _)), ← List.append_assoc]) | (rw [if_pos (Classical.not_not.mp fun z => nI_nle (n := t) (by omega) (by omega) c70), List.append_nil])
  refine x_if_ne 62 dX12_describe_49 (by decide) (fun c49 => ?_) (fun c49 => ?_)
  · refine x_iload_n 0 dX12_describe_62 rfl rfl ?_
    refine x_locs (L' := [(2, _), (0, _), (1, _)]) [0, 1, 2] rfl ?_
    refine J63 _ ?_
    unfold lnB
    first | (rw [if_neg (hq0.mp c49)]) | (rw [if_pos (Classical.not_not.mp (fun y => c49 (hq0.mpr y))), List.append_nil])
  · first | refine x_aload_n 1 dX12_describe_52 rfl rfl ?_ | refine x_aload_nN 1 dX12_describe_52 rfl rfl ?_
    refine x_iload_n 0 dX12_describe_53 rfl rfl ?_
    refine x_bipush (v := 42) dX12_describe_54 rfl ?_
    refine x_cV1 (As := [.int _, .int _]) (ct_X12_put ok (tx := lnA (kOf (N (60 + 8 * i))) i th) (by have := lnA_le (n := i) (th := th)  hK.2; omega) _) vX12_230 rfl (x_recv (by with_reducible repeat first | assumption | exact mH_0 ok | exact mH_1 | exact hset_s | refine mH_o (by first | assumption | exact nA ok (by omega) (by omega) (by omega)) (by first | assumption | exact nA ok (by omega) (by omega) (by omega)) ?_ | refine hget_n (by first | assumption | exact Ne.symm (by assumption) | exact nA ok (by omega) (by omega) (by omega)) ?_) rfl) rfl ⟨ble rfl, ble rfl⟩ (ble rfl) dX12_describe_56 rfl ?_
    refine x_goto 63 dX12_describe_59 (by decide) ?_
    refine x_locs (L' := [(2, _), (0, _), (1, _)]) [0, 1, 2] rfl ?_
    refine J63 _ ?_
    unfold lnB
    first | (rw [if_neg (hq0.mp c49)]) | (rw [if_pos (Classical.not_not.mp (fun y => c49 (hq0.mpr y))), List.append_nil])
set_option maxRecDepth 100000 in
set_option maxHeartbeats 1000000 in
theorem ct_describe_out {l : Launch} {G : Gl} {h : Hp} {sv rem typ err lin why wha beh its siz att wro tol : Int32} {N : Nat → Int32} (ok : Ok G) {ns np no : Nat} (A : RowA N ns np no) (x : Int32) (hx : ¬ (0 ≤ x ∧ x < N 3)) : CtR l G mX12_describe 8 [.ref (Ad G 20), .int x] (mH G h (eMd G sv rem typ err lin why wha beh its siz att wro tol) N) (some (.int (-1))) (mH G h (eMd G sv rem typ err lin why wha beh its siz att wro tol) N) := by
  obtain ⟨a2, a3, a4, b2, b3, b4, AP, AO⟩ := A
  refine Ct.of (L := [(0, _), (1, _)]) (by decide) (ble rfl) rfl ?_
  first | refine x_aload_n 0 dX12_describe_0 rfl rfl ?_ | refine x_aload_nN 0 dX12_describe_0 rfl rfl ?_
  refine x_iload_n 1 dX12_describe_1 rfl rfl ?_
  refine x_cV1 (As := [.int _]) (ct_isPot_out ok a3 b3 hx) vX12_129 rfl (x_recv (by with_reducible repeat first | assumption | exact mH_0 ok | exact mH_1 | exact hset_s | refine mH_o (by first | assumption | exact nA ok (by omega) (by omega) (by omega)) (by first | assumption | exact nA ok (by omega) (by omega) (by omega)) ?_ | refine hget_n (by first | assumption | exact Ne.symm (by assumption) | exact nA ok (by omega) (by omega) (by omega)) ?_) rfl) rfl ⟨ble rfl, ble rfl⟩ (ble rfl) dX12_describe_2 rfl ?_
  refine x_if_ne 10 dX12_describe_5 (by decide) (fun z => by first | exact absurd z (fun z => z rfl) | exact absurd (fun z => z rfl) z) (fun _ => ?_)
  refine x_iconst (v := -1) dX12_describe_8 rfl ?_
  refine x_iret rfl dX12_describe_9 ?_
  exact ⟨rfl, rfl⟩
