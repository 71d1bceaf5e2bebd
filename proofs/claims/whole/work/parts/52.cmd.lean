theorem SBT.out {G : Gl} {h : Hp} {a b x : Nat} {tx : List Int32} (T : SBT G h a tx b) (e : va_E) (h1 : a ≠ x) (h2 : b ≠ x) : SBT G (hset h x e) a tx b := T.fr (P := fun q => q = x) (Fr.rf.st rfl) h1 h2
def Dg (tx : List Int32) (a n md : Nat) : Prop := n ≤ md ∧ (∀ i, i < n → dgt tx (a + i)) ∧ (n = md ∨ ¬ dgt tx (a + n))
theorem ct_tnum {l : Launch} {G : Gl} {h : Hp} (ok : Ok G) {tx : List Int32} {b a : Nat} {cn : Int32} (hs : h (Ad G 9) = some (eSc G cn (nI a))) (T : SBT G h (Ad G 10) tx b) (hA : Asc tx) (h60 : tx.length ≤ 60) (ha60 : a ≤ 60) {n md : Nat} (hmd : md ≤ 2) (D : Dg tx a n md) : CtR l G mX6_takeNumber 9 [.ref (Ad G 9), .int (nI md)] h (some (.int (nvI tx a n))) (hset h (Ad G 9) (eSc G cn (nI (a + n)))) := by
  obtain ⟨h1, h2, h3⟩ := D
  by_cases q : n = md
  · subst q
    exact ct_tn_f ok hs T hA h60 ha60 hmd h2
  · exact ct_tn_s ok hs T hA h60 ha60 hmd (by omega) h2 (h3.resolve_left q)
def mdV (v : Nat) : Nat := ([1, 2, 1, 2, 1, 0] : List Nat).getD v 0
theorem md_t : ∀ v, v < 6 → vDig v = nI (mdV v) ∧ mdV v ≤ 2 ∧ (v < 5 → 0 < mdV v) := by decide +kernel
theorem dgt_n {tx : List Int32} {a : Nat} (h : dgt tx a) : ∃ d, d < 10 ∧ tx.getD a 0 = nI (48 + d) := by
  obtain ⟨-, h2, h3⟩ := h
  obtain ⟨m, hm, e⟩ := nI_of (x := tx.getD a 0) (fun z => absurd (Int32.lt_of_lt_of_le z (show (0 : Int32) ≤ 48 by decide)) (Int32.not_lt.mpr h2))
  rw [e] at h2 h3
  have m1 : 48 ≤ m := Nat.not_lt.mp fun z => absurd h2 (Int32.not_le.mpr (show nI m < nI 48 from nI_lt z (by omega)))
  have m2 : m ≤ 57 := Nat.not_lt.mp fun z => absurd h3 (Int32.not_le.mpr (show nI 57 < nI m from nI_lt z hm))
  exact ⟨m - 48, by omega, by rw [e]; congr 1; omega⟩
theorem nv_t : ∀ d, d < 10 → mx (-1) 0 * 10 + nI (48 + d) - 48 = nI d ∧ ∀ e, e < 10 → mx (nI d) 0 * 10 + nI (48 + e) - 48 = nI (10 * d + e) := by decide +kernel
theorem nv_n {tx : List Int32} {a n : Nat} (h0 : 0 < n) (h2 : n ≤ 2) (hd : ∀ i, i < n → dgt tx (a + i)) : ∃ m, m < 100 ∧ nvI tx a n = nI m := by
  obtain ⟨d, hd1, e1⟩ := dgt_n (hd 0 h0)
  have v1 : nvI tx a 1 = nI d := by show mx (-1) 0 * 10 + tx.getD (a + 0) 0 - 48 = _; rw [e1]; exact (nv_t d hd1).1
  rcases (show n = 1 ∨ n = 2 by omega) with rfl | rfl
  · exact ⟨d, by omega, v1⟩
  · obtain ⟨e, he1, e2⟩ := dgt_n (hd 1 (by omega))
    refine ⟨10 * d + e, by omega, ?_⟩
    show mx (nvI tx a 1) 0 * 10 + tx.getD (a + 1) 0 - 48 = _
    rw [v1, e2]
    exact (nv_t d hd1).2 e he1
theorem nv_0 {tx : List Int32} {a : Nat} : nvI tx a 0 = -1 := rfl
def TcF (G : Gl) (h h' : Hp) : Prop := Fr (fun x => x = Ad G 9 ∨ x = Ad G 11 ∨ x = Ad G 12 ∨ x = Ad G 13) h h'
theorem zV_obj {G : Gl} {k : Nat} (hk : k < 6) : ∀ s : State, Sta G s → va_O RX10 (G.2.2.2 (3 + k)) G.2.2.1 s s.heap := fun s hS => (hS.2.2.2.2.2.2.2.2.2.1.1 k hk).2.1
set_option maxRecDepth 100000 in
set_option maxHeartbeats 1000000 in
theorem ct_tc_A0 {l : Launch} {G : Gl} {h : Hp} (ok : Ok G) {tx : List Int32} {b a cn ci : Nat} {vf : Nat → Option Nat} {ff sf : Nat → Int32} (hs : h (Ad G 9) = some (eSc G (nI cn) (nI a))) (h11 : h (Ad G 11) = some (eR G 7 10 vf)) (h12 : h (Ad G 12) = some (eI G 10 ff)) (h13 : h (Ad G 13) = some (eI G 10 sf)) (T : SBT G h (Ad G 10) tx b) (hA : Asc tx) (h60 : tx.length ≤ 60) (ha60 : a ≤ 60) (hci : ci < 10) (hal : ¬ a < tx.length) : Ct l G mX6_takeCommand 11 (0) (0) [.ref (Ad G 9), .int (nI ci)] h (fun w h' => w = some (.int 0) ∧ ∃ vf' ff' sf', h' (Ad G 9) = some (eSc G (nI cn) (nI (a))) ∧ h' (Ad G 11) = some (eR G 7 10 vf') ∧ h' (Ad G 12) = some (eI G 10 ff') ∧ h' (Ad G 13) = some (eI G 10 sf') ∧ TcF G h h' ∧ (∀ q, q < ci → vf' q = vf q ∧ ff' q = ff q ∧ sf' q = sf q) ∧ True) := by
  obtain ⟨mm, ml, f9, h10, hb10, hab, hB, hl, hmm, hfit, hf, hAd⟩ := id T
  have hb9 : b ≠ Ad G 9 := fun e => hAd 9 (Or.inl (by omega)) e.symm
  have hb11 : b ≠ Ad G 11 := fun e => hAd 11 (Or.inl (by omega)) e.symm
  have hb12 : b ≠ Ad G 12 := fun e => hAd 12 (Or.inl (by omega)) e.symm
  have hb13 : b ≠ Ad G 13 := fun e => hAd 13 (Or.inl (by omega)) e.symm
  have n10_9 : Ad G 10 ≠ Ad G 9 := nA ok (by omega) (by omega) (by omega)
  have n10_11 : Ad G 10 ≠ Ad G 11 := nA ok (by omega) (by omega) (by omega)
  have n10_12 : Ad G 10 ≠ Ad G 12 := nA ok (by omega) (by omega) (by omega)
  have n10_13 : Ad G 10 ≠ Ad G 13 := nA ok (by omega) (by omega) (by omega)
  refine Ct.of (L := [(0, _), (1, _)]) (by decide) (ble rfl) rfl ?_
  refine x_aload_n 0 dX6_takeCommand_0 rfl rfl ?_
  refine x_get fX6_35 rfl dX6_takeCommand_1 (by with_reducible repeat first | assumption | exact hset_s | refine hget_n (by first | assumption | exact Ne.symm (by assumption) | exact nA ok (by omega) (by omega) (by omega)) ?_) (by rfl) ?_
  refine x_aload_n 0 dX6_takeCommand_4 rfl rfl ?_
  refine x_get fX6_12 rfl dX6_takeCommand_5 (by with_reducible repeat first | assumption | exact hset_s | refine hget_n (by first | assumption | exact Ne.symm (by assumption) | exact nA ok (by omega) (by omega) (by omega)) ?_) (by rfl) ?_
  refine x_cV1 (As := []) (ct_J4_length_8abf5 (by with_reducible repeat first | assumption | exact hset_s | refine hget_n (by first | assumption | exact Ne.symm (by assumption) | exact nA ok (by omega) (by omega) (by omega)) ?_)) vX6_38 rfl (x_recv (by with_reducible repeat first | assumption | exact hset_s | refine hget_n (by first | assumption | exact Ne.symm (by assumption) | exact nA ok (by omega) (by omega) (by omega)) ?_) rfl) rfl ⟨ble rfl, ble rfl⟩ (ble rfl) dX6_takeCommand_8 rfl ?_
  refine x_icmp_ge 31 dX6_takeCommand_11 (by decide) (fun _ => ?_) (fun z => by first | exact absurd (nI_le (Nat.not_lt.mp hal) (by omega)) z | exact absurd z (nI_le (Nat.not_lt.mp hal) (by omega)))
  refine x_null dX6_takeCommand_31 ?_
  refine x_astore_nN (L' := [(2, _), (0, _), (1, _)]) dX6_takeCommand_32 rfl (ble rfl) rfl ?_
  refine x_aload_nN 0 dX6_takeCommand_33 rfl rfl ?_
  refine x_ifnullN 48 dX6_takeCommand_34 (by decide) ?_
  refine x_iconst (v := 0) dX6_takeCommand_48 rfl ?_
  refine x_zret rfl (by first | rfl | (split <;> rfl) | (unfold b2i; split <;> rfl)) dX6_takeCommand_49 ?_
  refine ⟨rfl, _, _, _, by with_reducible repeat first | assumption | exact hset_s | refine hget_n (by first | assumption | exact Ne.symm (by assumption) | exact nA ok (by omega) (by omega) (by omega)) ?_, by with_reducible repeat first | assumption | exact hset_s | refine hget_n (by first | assumption | exact Ne.symm (by assumption) | exact nA ok (by omega) (by omega) (by omega)) ?_, by with_reducible repeat first | assumption | exact hset_s | refine hget_n (by first | assumption | exact Ne.symm (by assumption) | exact nA ok (by omega) (by omega) (by omega)) ?_, by with_reducible repeat first | assumption | exact hset_s | refine hget_n (by first | assumption | exact Ne.symm (by assumption) | exact nA ok (by omega) (by omega) (by omega)) ?_, ?_, ?_, ?_⟩
  · unfold TcF; repeat first | exact Fr.rf | refine Fr.st ?_ (by first | exact Or.inl rfl | exact Or.inr (Or.inl rfl) | exact Or.inr (Or.inr (Or.inl rfl)) | exact Or.inr (Or.inr (Or.inr rfl)))
  · intro q hq; refine ⟨?_, ?_, ?_⟩ <;> first | rfl | (simp only [va_up, upd, if_neg (show ¬ q = ci by omega)]; done)
  · exact trivial
set_option maxRecDepth 100000 in
set_option maxHeartbeats 1000000 in
theorem ct_tc_A1 {l : Launch} {G : Gl} {h : Hp} (ok : Ok G) {tx : List Int32} {b a cn ci : Nat} {vf : Nat → Option Nat} {ff sf : Nat → Int32} (hs : h (Ad G 9) = some (eSc G (nI cn) (nI a))) (h11 : h (Ad G 11) = some (eR G 7 10 vf)) (h12 : h (Ad G 12) = some (eI G 10 ff)) (h13 : h (Ad G 13) = some (eI G 10 sf)) (T : SBT G h (Ad G 10) tx b) (hA : Asc tx) (h60 : tx.length ≤ 60) (ha60 : a ≤ 60) (hci : ci < 10) (hal : a < tx.length) (hno : ∀ i, i < 6 → ¬ tsC (3 + i) 0 = tx.getD a 0) : Ct l G mX6_takeCommand 11 (0) (0) [.ref (Ad G 9), .int (nI ci)] h (fun w h' => w = some (.int 0) ∧ ∃ vf' ff' sf', h' (Ad G 9) = some (eSc G (nI cn) (nI (a))) ∧ h' (Ad G 11) = some (eR G 7 10 vf') ∧ h' (Ad G 12) = some (eI G 10 ff') ∧ h' (Ad G 13) = some (eI G 10 sf') ∧ TcF G h h' ∧ (∀ q, q < ci → vf' q = vf q ∧ ff' q = ff q ∧ sf' q = sf q) ∧ True) := by
  obtain ⟨mm, ml, f9, h10, hb10, hab, hB, hl, hmm, hfit, hf, hAd⟩ := id T
  have hb9 : b ≠ Ad G 9 := fun e => hAd 9 (Or.inl (by omega)) e.symm
  have hb11 : b ≠ Ad G 11 := fun e => hAd 11 (Or.inl (by omega)) e.symm
  have hb12 : b ≠ Ad G 12 := fun e => hAd 12 (Or.inl (by omega)) e.symm
  have hb13 : b ≠ Ad G 13 := fun e => hAd 13 (Or.inl (by omega)) e.symm
  have n10_9 : Ad G 10 ≠ Ad G 9 := nA ok (by omega) (by omega) (by omega)
  have n10_11 : Ad G 10 ≠ Ad G 11 := nA ok (by omega) (by omega) (by omega)
  have n10_12 : Ad G 10 ≠ Ad G 12 := nA ok (by omega) (by omega) (by omega)
  have n10_13 : Ad G 10 ≠ Ad G 13 := nA ok (by omega) (by omega) (by omega)
  refine Ct.of (L := [(0, _), (1, _)]) (by decide) (ble rfl) rfl ?_
  refine x_aload_n 0 dX6_takeCommand_0 rfl rfl ?_
  refine x_get fX6_35 rfl dX6_takeCommand_1 (by with_reducible repeat first | assumption | exact hset_s | refine hget_n (by first | assumption | exact Ne.symm (by assumption) | exact nA ok (by omega) (by omega) (by omega)) ?_) (by rfl) ?_
  refine x_aload_n 0 dX6_takeCommand_4 rfl rfl ?_
  refine x_get fX6_12 rfl dX6_takeCommand_5 (by with_reducible repeat first | assumption | exact hset_s | refine hget_n (by first | assumption | exact Ne.symm (by assumption) | exact nA ok (by omega) (by omega) (by omega)) ?_) (by rfl) ?_
  refine x_cV1 (As := []) (ct_J4_length_8abf5 (by with_reducible repeat first | assumption | exact hset_s | refine hget_n (by first | assumption | exact Ne.symm (by assumption) | exact nA ok (by omega) (by omega) (by omega)) ?_)) vX6_38 rfl (x_recv (by with_reducible repeat first | assumption | exact hset_s | refine hget_n (by first | assumption | exact Ne.symm (by assumption) | exact nA ok (by omega) (by omega) (by omega)) ?_) rfl) rfl ⟨ble rfl, ble rfl⟩ (ble rfl) dX6_takeCommand_8 rfl ?_
  refine x_icmp_ge 31 dX6_takeCommand_11 (by decide) (fun z => by first | exact absurd z (nI_ge hal (by omega)) | exact absurd (nI_ge hal (by omega)) z) (fun _ => ?_)
  refine x_aload_n 0 dX6_takeCommand_14 rfl rfl ?_
  refine x_get fX6_12 rfl dX6_takeCommand_15 (by with_reducible repeat first | assumption | exact hset_s | refine hget_n (by first | assumption | exact Ne.symm (by assumption) | exact nA ok (by omega) (by omega) (by omega)) ?_) (by rfl) ?_
  refine x_aload_n 0 dX6_takeCommand_18 rfl rfl ?_
  refine x_get fX6_35 rfl dX6_takeCommand_19 (by with_reducible repeat first | assumption | exact hset_s | refine hget_n (by first | assumption | exact Ne.symm (by assumption) | exact nA ok (by omega) (by omega) (by omega)) ?_) (by rfl) ?_
  refine x_cV1 (As := [.int _]) (ct_J4_charAt_5068e T hA hal) vX6_62 rfl (x_recv (by with_reducible repeat first | assumption | exact hset_s | refine hget_n (by first | assumption | exact Ne.symm (by assumption) | exact nA ok (by omega) (by omega) (by omega)) ?_) rfl) rfl ⟨ble rfl, ble rfl⟩ (ble rfl) dX6_takeCommand_22 rfl ?_
  refine x_cS1 (As := [.int _]) (ct_sw_out (hA a hal) hno) vX6_66 rfl rfl ⟨ble rfl, ble rfl⟩ (ble rfl) dX6_takeCommand_25 rfl ?_
  refine x_goto 32 dX6_takeCommand_28 (by decide) ?_
  refine x_astore_nN (L' := [(2, _), (0, _), (1, _)]) dX6_takeCommand_32 rfl (ble rfl) rfl ?_
  refine x_aload_nN 0 dX6_takeCommand_33 rfl rfl ?_
  refine x_ifnullN 48 dX6_takeCommand_34 (by decide) ?_
  refine x_iconst (v := 0) dX6_takeCommand_48 rfl ?_
  refine x_zret rfl (by first | rfl | (split <;> rfl) | (unfold b2i; split <;> rfl)) dX6_takeCommand_49 ?_
  refine ⟨rfl, _, _, _, by with_reducible repeat first | assumption | exact hset_s | refine hget_n (by first | assumption | exact Ne.symm (by assumption) | exact nA ok (by omega) (by omega) (by omega)) ?_, by with_reducible repeat first | assumption | exact hset_s | refine hget_n (by first | assumption | exact Ne.symm (by assumption) | exact nA ok (by omega) (by omega) (by omega)) ?_, by with_reducible repeat first | assumption | exact hset_s | refine hget_n (by first | assumption | exact Ne.symm (by assumption) | exact nA ok (by omega) (by omega) (by omega)) ?_, by with_reducible repeat first | assumption | exact hset_s | refine hget_n (by first | assumption | exact Ne.symm (by assumption) | exact nA ok (by omega) (by omega) (by omega)) ?_, ?_, ?_, ?_⟩
  · unfold TcF; repeat first | exact Fr.rf | refine Fr.st ?_ (by first | exact Or.inl rfl | exact Or.inr (Or.inl rfl) | exact Or.inr (Or.inr (Or.inl rfl)) | exact Or.inr (Or.inr (Or.inr rfl)))
  · intro q hq; refine ⟨?_, ?_, ?_⟩ <;> first | rfl | (simp only [va_up, upd, if_neg (show ¬ q = ci by omega)]; done)
  · exact trivial
set_option maxRecDepth 100000 in
set_option maxHeartbeats 1000000 in
theorem ct_tc_B {l : Launch} {G : Gl} {h : Hp} (ok : Ok G) {tx : List Int32} {b a cn ci : Nat} {vf : Nat → Option Nat} {ff sf : Nat → Int32} (hs : h (Ad G 9) = some (eSc G (nI cn) (nI a))) (h11 : h (Ad G 11) = some (eR G 7 10 vf)) (h12 : h (Ad G 12) = some (eI G 10 ff)) (h13 : h (Ad G 13) = some (eI G 10 sf)) (T : SBT G h (Ad G 10) tx b) (hA : Asc tx) (h60 : tx.length ≤ 60) (ha60 : a ≤ 60) (hci : ci < 10) {v : Nat} (hv : v < 6) {j : Nat} (hj0 : 0 < j) (hj : j < tsLen (3 + v)) (hw : ∀ i, i < j → mt tx a (3 + v) i) (hnm : ¬ mt tx a (3 + v) j) : Ct l G mX6_takeCommand 11 (0) (0) [.ref (Ad G 9), .int (nI ci)] h (fun w h' => w = some (.int 0) ∧ ∃ vf' ff' sf', h' (Ad G 9) = some (eSc G (nI cn) (nI (a + j))) ∧ h' (Ad G 11) = some (eR G 7 10 vf') ∧ h' (Ad G 12) = some (eI G 10 ff') ∧ h' (Ad G 13) = some (eI G 10 sf') ∧ TcF G h h' ∧ (∀ q, q < ci → vf' q = vf q ∧ ff' q = ff q ∧ sf' q = sf q) ∧ True) := by
  obtain ⟨mm, ml, f9, h10, hb10, hab, hB, hl, hmm, hfit, hf, hAd⟩ := id T
  have hb9 : b ≠ Ad G 9 := fun e => hAd 9 (Or.inl (by omega)) e.symm
  have hb11 : b ≠ Ad G 11 := fun e => hAd 11 (Or.inl (by omega)) e.symm
  have hb12 : b ≠ Ad G 12 := fun e => hAd 12 (Or.inl (by omega)) e.symm
  have hb13 : b ≠ Ad G 13 := fun e => hAd 13 (Or.inl (by omega)) e.symm
  have n10_9 : Ad G 10 ≠ Ad G 9 := nA ok (by omega) (by omega) (by omega)
  have n10_11 : Ad G 10 ≠ Ad G 11 := nA ok (by omega) (by omega) (by omega)
  have n10_12 : Ad G 10 ≠ Ad G 12 := nA ok (by omega) (by omega) (by omega)
  have n10_13 : Ad G 10 ≠ Ad G 13 := nA ok (by omega) (by omega) (by omega)
  have hL := tsLen_le (3 + v) (by omega)
  have hL0 := ts_pos v hv
  obtain ⟨hvd, hmd2, hmd0⟩ := md_t v hv
  have hw0 := hw 0 hj0
  unfold mt at hw0
  have hal : a < tx.length := hw0.1
  have he0 : tsC (3 + v) 0 = tx.getD a 0 := hw0.2.symm
  refine Ct.of (L := [(0, _), (1, _)]) (by decide) (ble rfl) rfl ?_
  first | refine x_aload_n 0 dX6_takeCommand_0 rfl rfl ?_ | refine x_aload_nN 0 dX6_takeCommand_0 rfl rfl ?_
  refine x_get fX6_35 rfl dX6_takeCommand_1 (by with_reducible repeat first | assumption | exact hset_s | refine hget_n (by first | assumption | exact Ne.symm (by assumption) | exact nA ok (by omega) (by omega) (by omega)) ?_) (by rfl) ?_
  first | refine x_aload_n 0 dX6_takeCommand_4 rfl rfl ?_ | refine x_aload_nN 0 dX6_takeCommand_4 rfl rfl ?_
  refine x_get fX6_12 rfl dX6_takeCommand_5 (by with_reducible repeat first | assumption | exact hset_s | refine hget_n (by first | assumption | exact Ne.symm (by assumption) | exact nA ok (by omega) (by omega) (by omega)) ?_) (by rfl) ?_
  refine x_cV1 (As := []) (ct_J4_length_8abf5 (by with_reducible repeat first | assumption | exact hset_s | refine hget_n (by first | assumption | exact Ne.symm (by assumption) | exact nA ok (by omega) (by omega) (by omega)) ?_)) vX6_38 rfl (x_recv (by with_reducible repeat first | assumption | exact hset_s | refine hget_n (by first | assumption | exact Ne.symm (by assumption) | exact nA ok (by omega) (by omega) (by omega)) ?_) rfl) rfl ⟨ble rfl, ble rfl⟩ (ble rfl) dX6_takeCommand_8 rfl ?_
  refine x_icmp_ge 31 dX6_takeCommand_11 (by decide) (fun z => by first | exact absurd z (nI_ge hal (by omega)) | exact absurd (nI_ge hal (by omega)) z) (fun _ => ?_)
  first | refine x_aload_n 0 dX6_takeCommand_14 rfl rfl ?_ | refine x_aload_nN 0 dX6_takeCommand_14 rfl rfl ?_
  refine x_get fX6_12 rfl dX6_takeCommand_15 (by with_reducible repeat first | assumption | exact hset_s | refine hget_n (by first | assumption | exact Ne.symm (by assumption) | exact nA ok (by omega) (by omega) (by omega)) ?_) (by rfl) ?_
  first | refine x_aload_n 0 dX6_takeCommand_18 rfl rfl ?_ | refine x_aload_nN 0 dX6_takeCommand_18 rfl rfl ?_
  refine x_get fX6_35 rfl dX6_takeCommand_19 (by with_reducible repeat first | assumption | exact hset_s | refine hget_n (by first | assumption | exact Ne.symm (by assumption) | exact nA ok (by omega) (by omega) (by omega)) ?_) (by rfl) ?_
  refine x_cV1 (As := [.int _]) (ct_J4_charAt_5068e T hA hal) vX6_62 rfl (x_recv (by with_reducible repeat first | assumption | exact hset_s | refine hget_n (by first | assumption | exact Ne.symm (by assumption) | exact nA ok (by omega) (by omega) (by omega)) ?_) rfl) rfl ⟨ble rfl, ble rfl⟩ (ble rfl) dX6_takeCommand_22 rfl ?_
  refine x_cS1 (As := [.int _]) (ct_sw_in hv (hA a hal) he0) vX6_66 rfl rfl ⟨ble rfl, ble rfl⟩ (ble rfl) dX6_takeCommand_25 rfl ?_
  refine x_goto 32 dX6_takeCommand_28 (by decide) ?_
  first | refine x_astore_n (L' := [(2, _), (0, _), (1, _)]) dX6_takeCommand_32 rfl (ble rfl) rfl ?_ | refine x_astore_nN (L' := [(2, _), (0, _), (1, _)]) dX6_takeCommand_32 rfl (ble rfl) rfl ?_
  first | refine x_aload_n 0 dX6_takeCommand_33 rfl rfl ?_ | refine x_aload_nN 0 dX6_takeCommand_33 rfl rfl ?_
  refine x_ifnull 48 dX6_takeCommand_34 (by decide) ?_
  first | refine x_aload_n 1 dX6_takeCommand_37 rfl rfl ?_ | refine x_aload_nN 1 dX6_takeCommand_37 rfl rfl ?_
  first | refine x_aload_n 0 dX6_takeCommand_38 rfl rfl ?_ | refine x_aload_nN 0 dX6_takeCommand_38 rfl rfl ?_
  refine x_getO (zV_word (by assumption)) rfl oX6_70 dX6_takeCommand_39 ?_
  rw [show 23 + v = 20 + (3 + v) by omega]
  refine x_cV1 (As := [.ref _]) (ct_tw_n ok hs T hA h60 ha60 (by omega) (by omega) hj hw hnm) vX6_74 rfl (x_recv (by with_reducible repeat first | assumption | exact hset_s | refine hget_n (by first | assumption | exact Ne.symm (by assumption) | exact nA ok (by omega) (by omega) (by omega)) ?_) rfl) rfl ⟨ble rfl, ble rfl⟩ (ble rfl) dX6_takeCommand_42 rfl ?_
  refine x_if_ne 50 dX6_takeCommand_45 (by decide) (fun z => by first | exact absurd z (fun z => z rfl) | exact absurd (fun z => z rfl) z) (fun _ => ?_)
  refine x_iconst (v := 0) dX6_takeCommand_48 rfl ?_
  refine x_zret rfl (by first | rfl | (split <;> rfl) | (unfold b2i; split <;> rfl)) dX6_takeCommand_49 ?_
  refine ⟨rfl, _, _, _, by with_reducible repeat first | assumption | exact hset_s | refine hget_n (by first | assumption | exact Ne.symm (by assumption) | exact nA ok (by omega) (by omega) (by omega)) ?_, by with_reducible repeat first | assumption | exact hset_s | refine hget_n (by first | assumption | exact Ne.symm (by assumption) | exact nA ok (by omega) (by omega) (by omega)) ?_, by with_reducible repeat first | assumption | exact hset_s | refine hget_n (by first | assumption | exact Ne.symm (by assumption) | exact nA ok (by omega) (by omega) (by omega)) ?_, by with_reducible repeat first | assumption | exact hset_s | refine hget_n (by first | assumption | exact Ne.symm (by assumption) | exact nA ok (by omega) (by omega) (by omega)) ?_, ?_, ?_, ?_⟩
  · unfold TcF; repeat first | exact Fr.rf | refine Fr.st ?_ (by first | exact Or.inl rfl | exact Or.inr (Or.inl rfl) | exact Or.inr (Or.inr (Or.inl rfl)) | exact Or.inr (Or.inr (Or.inr rfl)))
  · intro q hq; refine ⟨?_, ?_, ?_⟩ <;> first | rfl | (simp only [va_up, upd, if_neg (show ¬ q = ci by omega)]; done)
  · exact trivial
set_option maxRecDepth 100000 in
set_option maxHeartbeats 1000000 in
theorem ct_tc_C {l : Launch} {G : Gl} {h : Hp} (ok : Ok G) {tx : List Int32} {b a cn ci : Nat} {vf : Nat → Option Nat} {ff sf : Nat → Int32} (hs : h (Ad G 9) = some (eSc G (nI cn) (nI a))) (h11 : h (Ad G 11) = some (eR G 7 10 vf)) (h12 : h (Ad G 12) = some (eI G 10 ff)) (h13 : h (Ad G 13) = some (eI G 10 sf)) (T : SBT G h (Ad G 10) tx b) (hA : Asc tx) (h60 : tx.length ≤ 60) (ha60 : a ≤ 60) (hci : ci < 10) {v : Nat} (hv : v < 6) (hw : ∀ j, j < tsLen (3 + v) → mt tx a (3 + v) j) (D : Dg tx (a + tsLen (3 + v)) 0 2) : Ct l G mX6_takeCommand 11 (0) (0) [.ref (Ad G 9), .int (nI ci)] h (fun w h' => w = some (.int 0) ∧ ∃ vf' ff' sf', h' (Ad G 9) = some (eSc G (nI cn) (nI (a + tsLen (3 + v) + 0))) ∧ h' (Ad G 11) = some (eR G 7 10 vf') ∧ h' (Ad G 12) = some (eI G 10 ff') ∧ h' (Ad G 13) = some (eI G 10 sf') ∧ TcF G h h' ∧ (∀ q, q < ci → vf' q = vf q ∧ ff' q = ff q ∧ sf' q = sf q) ∧ True) := by
  obtain ⟨mm, ml, f9, h10, hb10, hab, hB, hl, hmm, hfit, hf, hAd⟩ := id T
  have hb9 : b ≠ Ad G 9 := fun e => hAd 9 (Or.inl (by omega)) e.symm
  have hb11 : b ≠ Ad G 11 := fun e => hAd 11 (Or.inl (by omega)) e.symm
  have hb12 : b ≠ Ad G 12 := fun e => hAd 12 (Or.inl (by omega)) e.symm
  have hb13 : b ≠ Ad G 13 := fun e => hAd 13 (Or.inl (by omega)) e.symm
  have n10_9 : Ad G 10 ≠ Ad G 9 := nA ok (by omega) (by omega) (by omega)
  have n10_11 : Ad G 10 ≠ Ad G 11 := nA ok (by omega) (by omega) (by omega)
  have n10_12 : Ad G 10 ≠ Ad G 12 := nA ok (by omega) (by omega) (by omega)
  have n10_13 : Ad G 10 ≠ Ad G 13 := nA ok (by omega) (by omega) (by omega)
  have hL := tsLen_le (3 + v) (by omega)
  have hL0 := ts_pos v hv
  obtain ⟨hvd, hmd2, hmd0⟩ := md_t v hv
  have hw0 := hw 0 hL0
  unfold mt at hw0
  have hal : a < tx.length := hw0.1
  have he0 : tsC (3 + v) 0 = tx.getD a 0 := hw0.2.symm
  have hwl := (hw (tsLen (3 + v) - 1) (by omega)).1
  have ha1 : a + tsLen (3 + v) ≤ 60 := by omega
  refine Ct.of (L := [(0, _), (1, _)]) (by decide) (ble rfl) rfl ?_
  first | refine x_aload_n 0 dX6_takeCommand_0 rfl rfl ?_ | refine x_aload_nN 0 dX6_takeCommand_0 rfl rfl ?_
  refine x_get fX6_35 rfl dX6_takeCommand_1 (by with_reducible repeat first | assumption | exact hset_s | refine hget_n (by first | assumption | exact Ne.symm (by assumption) | exact nA ok (by omega) (by omega) (by omega)) ?_) (by rfl) ?_
  first | refine x_aload_n 0 dX6_takeCommand_4 rfl rfl ?_ | refine x_aload_nN 0 dX6_takeCommand_4 rfl rfl ?_
  refine x_get fX6_12 rfl dX6_takeCommand_5 (by with_reducible repeat first | assumption | exact hset_s | refine hget_n (by first | assumption | exact Ne.symm (by assumption) | exact nA ok (by omega) (by omega) (by omega)) ?_) (by rfl) ?_
  refine x_cV1 (As := []) (ct_J4_length_8abf5 (by with_reducible repeat first | assumption | exact hset_s | refine hget_n (by first | assumption | exact Ne.symm (by assumption) | exact nA ok (by omega) (by omega) (by omega)) ?_)) vX6_38 rfl (x_recv (by with_reducible repeat first | assumption | exact hset_s | refine hget_n (by first | assumption | exact Ne.symm (by assumption) | exact nA ok (by omega) (by omega) (by omega)) ?_) rfl) rfl ⟨ble rfl, ble rfl⟩ (ble rfl) dX6_takeCommand_8 rfl ?_
  refine x_icmp_ge 31 dX6_takeCommand_11 (by decide) (fun z => by first | exact absurd z (nI_ge hal (by omega)) | exact absurd (nI_ge hal (by omega)) z) (fun _ => ?_)
  first | refine x_aload_n 0 dX6_takeCommand_14 rfl rfl ?_ | refine x_aload_nN 0 dX6_takeCommand_14 rfl rfl ?_
  refine x_get fX6_12 rfl dX6_takeCommand_15 (by with_reducible repeat first | assumption | exact hset_s | refine hget_n (by first | assumption | exact Ne.symm (by assumption) | exact nA ok (by omega) (by omega) (by omega)) ?_) (by rfl) ?_
  first | refine x_aload_n 0 dX6_takeCommand_18 rfl rfl ?_ | refine x_aload_nN 0 dX6_takeCommand_18 rfl rfl ?_
  refine x_get fX6_35 rfl dX6_takeCommand_19 (by with_reducible repeat first | assumption | exact hset_s | refine hget_n (by first | assumption | exact Ne.symm (by assumption) | exact nA ok (by omega) (by omega) (by omega)) ?_) (by rfl) ?_
  refine x_cV1 (As := [.int _]) (ct_J4_charAt_5068e T hA hal) vX6_62 rfl (x_recv (by with_reducible repeat first | assumption | exact hset_s | refine hget_n (by first | assumption | exact Ne.symm (by assumption) | exact nA ok (by omega) (by omega) (by omega)) ?_) rfl) rfl ⟨ble rfl, ble rfl⟩ (ble rfl) dX6_takeCommand_22 rfl ?_
  refine x_cS1 (As := [.int _]) (ct_sw_in hv (hA a hal) he0) vX6_66 rfl rfl ⟨ble rfl, ble rfl⟩ (ble rfl) dX6_takeCommand_25 rfl ?_
  refine x_goto 32 dX6_takeCommand_28 (by decide) ?_
  first | refine x_astore_n (L' := [(2, _), (0, _), (1, _)]) dX6_takeCommand_32 rfl (ble rfl) rfl ?_ | refine x_astore_nN (L' := [(2, _), (0, _), (1, _)]) dX6_takeCommand_32 rfl (ble rfl) rfl ?_
  first | refine x_aload_n 0 dX6_takeCommand_33 rfl rfl ?_ | refine x_aload_nN 0 dX6_takeCommand_33 rfl rfl ?_
  refine x_ifnull 48 dX6_takeCommand_34 (by decide) ?_
  first | refine x_aload_n 1 dX6_takeCommand_37 rfl rfl ?_ | refine x_aload_nN 1 dX6_takeCommand_37 rfl rfl ?_
  first | refine x_aload_n 0 dX6_takeCommand_38 rfl rfl ?_ | refine x_aload_nN 0 dX6_takeCommand_38 rfl rfl ?_
  refine x_getO (zV_word (by assumption)) rfl oX6_70 dX6_takeCommand_39 ?_
  rw [show 23 + v = 20 + (3 + v) by omega]
  refine x_cV1 (As := [.ref _]) (ct_tw_y ok hs T hA h60 ha60 (by omega) (by omega) hw) vX6_74 rfl (x_recv (by with_reducible repeat first | assumption | exact hset_s | refine hget_n (by first | assumption | exact Ne.symm (by assumption) | exact nA ok (by omega) (by omega) (by omega)) ?_) rfl) rfl ⟨ble rfl, ble rfl⟩ (ble rfl) dX6_takeCommand_42 rfl ?_
  refine x_if_ne 50 dX6_takeCommand_45 (by decide) (fun _ => ?_) (fun z => by first | exact absurd (show ¬ (1 : Int32) = 0 by decide) z | exact absurd z (show ¬ (1 : Int32) = 0 by decide))
  have T1 := T.s9 ok (eSc G (nI cn) (nI (a + tsLen (3 + v))))
  first | refine x_aload_n 1 dX6_takeCommand_50 rfl rfl ?_ | refine x_aload_nN 1 dX6_takeCommand_50 rfl rfl ?_
  refine x_get fX6_20 rfl dX6_takeCommand_51 (by with_reducible repeat first | assumption | exact hset_s | refine hget_n (by first | assumption | exact Ne.symm (by assumption) | exact nA ok (by omega) (by omega) (by omega)) ?_) (by rfl) ?_
  refine x_iload_n 2 dX6_takeCommand_54 rfl rfl ?_
  first | refine x_aload_n 0 dX6_takeCommand_55 rfl rfl ?_ | refine x_aload_nN 0 dX6_takeCommand_55 rfl rfl ?_
  refine x_aastO 7 rfl dX6_takeCommand_56 (by with_reducible repeat first | assumption | exact hset_s | refine hget_n (by first | assumption | exact Ne.symm (by assumption) | exact nA ok (by omega) (by omega) (by omega)) ?_) (zV_obj hv) (List.mem_append_right _ (List.mem_of_getElem? (i := 24) (by decide +kernel))) (vp_in_nI (by omega) (by omega)) (aA ok (by omega)) ?_
  rw [nI_clamp (by omega)]
  have T2 := T1.out (eR G 7 10 (va_up vf ci (some (G.2.2.2 (3 + v))))) n10_11 hb11
  first | refine x_aload_n 1 dX6_takeCommand_57 rfl rfl ?_ | refine x_aload_nN 1 dX6_takeCommand_57 rfl rfl ?_
  refine x_get fX6_24 rfl dX6_takeCommand_58 (by with_reducible repeat first | assumption | exact hset_s | refine hget_n (by first | assumption | exact Ne.symm (by assumption) | exact nA ok (by omega) (by omega) (by omega)) ?_) (by rfl) ?_
  refine x_iload_n 2 dX6_takeCommand_61 rfl rfl ?_
  first | refine x_aload_n 1 dX6_takeCommand_62 rfl rfl ?_ | refine x_aload_nN 1 dX6_takeCommand_62 rfl rfl ?_
  refine x_iconst (v := 2) dX6_takeCommand_63 rfl ?_
  refine x_cV1 (As := [.int _]) (ct_tnum ok (by with_reducible repeat first | assumption | exact hset_s | refine hget_n (by first | assumption | exact Ne.symm (by assumption) | exact nA ok (by omega) (by omega) (by omega)) ?_) T2 hA h60 ha1 (md := 2) (by omega) D) vX6_78 rfl (x_recv (by with_reducible repeat first | assumption | exact hset_s | refine hget_n (by first | assumption | exact Ne.symm (by assumption) | exact nA ok (by omega) (by omega) (by omega)) ?_) rfl) rfl ⟨ble rfl, ble rfl⟩ (ble rfl) dX6_takeCommand_64 rfl ?_
  refine x_iastn dX6_takeCommand_67 (by with_reducible repeat first | assumption | exact hset_s | refine hget_n (by first | assumption | exact Ne.symm (by assumption) | exact nA ok (by omega) (by omega) (by omega)) ?_) (by omega) (by first | decide | omega) (by first | assumption | exact aA (by assumption) (by omega)) ?_
  first | refine x_aload_n 1 dX6_takeCommand_68 rfl rfl ?_ | refine x_aload_nN 1 dX6_takeCommand_68 rfl rfl ?_
  refine x_get fX6_28 rfl dX6_takeCommand_69 (by with_reducible repeat first | assumption | exact hset_s | refine hget_n (by first | assumption | exact Ne.symm (by assumption) | exact nA ok (by omega) (by omega) (by omega)) ?_) (by rfl) ?_
  refine x_iload_n 2 dX6_takeCommand_72 rfl rfl ?_
  refine x_iconst (v := 0) dX6_takeCommand_73 rfl ?_
  refine x_iastn dX6_takeCommand_74 (by with_reducible repeat first | assumption | exact hset_s | refine hget_n (by first | assumption | exact Ne.symm (by assumption) | exact nA ok (by omega) (by omega) (by omega)) ?_) (by omega) (by first | decide | omega) (by first | assumption | exact aA (by assumption) (by omega)) ?_
  first | refine x_aload_n 1 dX6_takeCommand_75 rfl rfl ?_ | refine x_aload_nN 1 dX6_takeCommand_75 rfl rfl ?_
  refine x_get fX6_24 rfl dX6_takeCommand_76 (by with_reducible repeat first | assumption | exact hset_s | refine hget_n (by first | assumption | exact Ne.symm (by assumption) | exact nA ok (by omega) (by omega) (by omega)) ?_) (by rfl) ?_
  refine x_iload_n 2 dX6_takeCommand_79 rfl rfl ?_
  refine x_ialdn dX6_takeCommand_80 (by with_reducible repeat first | assumption | exact hset_s | refine hget_n (by first | assumption | exact Ne.symm (by assumption) | exact nA ok (by omega) (by omega) (by omega)) ?_) (by omega) (by first | decide | omega) ?_
  rw [upd_eq rfl]
  refine x_if_lt 91 dX6_takeCommand_81 (by decide) (fun _ => ?_) (fun z => by first | exact absurd (by rw [nv_0]; decide) z | exact absurd z (by rw [nv_0]; decide))
  first | refine x_aload_n 1 dX6_takeCommand_91 rfl rfl ?_ | refine x_aload_nN 1 dX6_takeCommand_91 rfl rfl ?_
  refine x_get fX6_24 rfl dX6_takeCommand_92 (by with_reducible repeat first | assumption | exact hset_s | refine hget_n (by first | assumption | exact Ne.symm (by assumption) | exact nA ok (by omega) (by omega) (by omega)) ?_) (by rfl) ?_
  refine x_iload_n 2 dX6_takeCommand_95 rfl rfl ?_
  refine x_ialdn dX6_takeCommand_96 (by with_reducible repeat first | assumption | exact hset_s | refine hget_n (by first | assumption | exact Ne.symm (by assumption) | exact nA ok (by omega) (by omega) (by omega)) ?_) (by omega) (by first | decide | omega) ?_
  rw [upd_eq rfl]
  refine x_if_lt 104 dX6_takeCommand_97 (by decide) (fun _ => ?_) (fun z => by first | exact absurd (by rw [nv_0]; decide) z | exact absurd z (by rw [nv_0]; decide))
  refine x_iconst (v := 0) dX6_takeCommand_104 rfl ?_
  refine x_zret rfl (by first | rfl | (split <;> rfl) | (unfold b2i; split <;> rfl)) dX6_takeCommand_105 ?_
  refine ⟨rfl, _, _, _, by with_reducible repeat first | assumption | exact hset_s | refine hget_n (by first | assumption | exact Ne.symm (by assumption) | exact nA ok (by omega) (by omega) (by omega)) ?_, by with_reducible repeat first | assumption | exact hset_s | refine hget_n (by first | assumption | exact Ne.symm (by assumption) | exact nA ok (by omega) (by omega) (by omega)) ?_, by with_reducible repeat first | assumption | exact hset_s | refine hget_n (by first | assumption | exact Ne.symm (by assumption) | exact nA ok (by omega) (by omega) (by omega)) ?_, by with_reducible repeat first | assumption | exact hset_s | refine hget_n (by first | assumption | exact Ne.symm (by assumption) | exact nA ok (by omega) (by omega) (by omega)) ?_, ?_, ?_, ?_⟩
  · unfold TcF; repeat first | exact Fr.rf | refine Fr.st ?_ (by first | exact Or.inl rfl | exact Or.inr (Or.inl rfl) | exact Or.inr (Or.inr (Or.inl rfl)) | exact Or.inr (Or.inr (Or.inr rfl)))
  · intro q hq; refine ⟨?_, ?_, ?_⟩ <;> first | rfl | (simp only [va_up, upd, if_neg (show ¬ q = ci by omega)]; done)
  · exact trivial
set_option maxRecDepth 100000 in
set_option maxHeartbeats 1000000 in
theorem ct_tc_5 {l : Launch} {G : Gl} {h : Hp} (ok : Ok G) {tx : List Int32} {b a cn ci : Nat} {vf : Nat → Option Nat} {ff sf : Nat → Int32} (hs : h (Ad G 9) = some (eSc G (nI cn) (nI a))) (h11 : h (Ad G 11) = some (eR G 7 10 vf)) (h12 : h (Ad G 12) = some (eI G 10 ff)) (h13 : h (Ad G 13) = some (eI G 10 sf)) (T : SBT G h (Ad G 10) tx b) (hA : Asc tx) (h60 : tx.length ≤ 60) (ha60 : a ≤ 60) (hci : ci < 10) {v : Nat} (hv : v < 6) (hv5 : v = 5) (hw : ∀ j, j < tsLen (3 + v) → mt tx a (3 + v) j) {n : Nat} (hn : 0 < n) (D : Dg tx (a + tsLen (3 + v)) n 2)  : Ct l G mX6_takeCommand 11 (0) (0) [.ref (Ad G 9), .int (nI ci)] h (fun w h' => w = some (.int 1) ∧ ∃ vf' ff' sf', h' (Ad G 9) = some (eSc G (nI cn) (nI (a + tsLen (3 + v) + n))) ∧ h' (Ad G 11) = some (eR G 7 10 vf') ∧ h' (Ad G 12) = some (eI G 10 ff') ∧ h' (Ad G 13) = some (eI G 10 sf') ∧ TcF G h h' ∧ (∀ q, q < ci → vf' q = vf q ∧ ff' q = ff q ∧ sf' q = sf q) ∧ vf' ci = some (G.2.2.2 (3 + v)) ∧ ff' ci = (nvI tx (a + tsLen (3 + v)) n) ∧ sf' ci = 0) := by
  obtain ⟨mm, ml, f9, h10, hb10, hab, hB, hl, hmm, hfit, hf, hAd⟩ := id T
  have hb9 : b ≠ Ad G 9 := fun e => hAd 9 (Or.inl (by omega)) e.symm
  have hb11 : b ≠ Ad G 11 := fun e => hAd 11 (Or.inl (by omega)) e.symm
  have hb12 : b ≠ Ad G 12 := fun e => hAd 12 (Or.inl (by omega)) e.symm
  have hb13 : b ≠ Ad G 13 := fun e => hAd 13 (Or.inl (by omega)) e.symm
  have n10_9 : Ad G 10 ≠ Ad G 9 := nA ok (by omega) (by omega) (by omega)
  have n10_11 : Ad G 10 ≠ Ad G 11 := nA ok (by omega) (by omega) (by omega)
  have n10_12 : Ad G 10 ≠ Ad G 12 := nA ok (by omega) (by omega) (by omega)
  have n10_13 : Ad G 10 ≠ Ad G 13 := nA ok (by omega) (by omega) (by omega)
  have hL := tsLen_le (3 + v) (by omega)
  have hL0 := ts_pos v hv
  obtain ⟨hvd, hmd2, hmd0⟩ := md_t v hv
  have hw0 := hw 0 hL0
  unfold mt at hw0
  have hal : a < tx.length := hw0.1
  have he0 : tsC (3 + v) 0 = tx.getD a 0 := hw0.2.symm
  have hwl := (hw (tsLen (3 + v) - 1) (by omega)).1
  have ha1 : a + tsLen (3 + v) ≤ 60 := by omega
  obtain ⟨fm, hfm, hfv⟩ := nv_n hn D.1 D.2.1
  have hf0 : ¬ (nvI tx (a + tsLen (3 + v)) n) < 0 := by rw [hfv]; exact nI_pos (by omega)
  have hf1 : 0 ≤ (nvI tx (a + tsLen (3 + v)) n) := Int32.not_lt.mp hf0
  have hdl := (D.2.1 (n - 1) (by omega)).1
  have ha2 : a + tsLen (3 + v) + n ≤ 60 := by omega
  have hvd0 : vDig v = 0 := by rw [hv5]; rfl
  refine Ct.of (L := [(0, _), (1, _)]) (by decide) (ble rfl) rfl ?_
  first | refine x_aload_n 0 dX6_takeCommand_0 rfl rfl ?_ | refine x_aload_nN 0 dX6_takeCommand_0 rfl rfl ?_
  refine x_get fX6_35 rfl dX6_takeCommand_1 (by with_reducible repeat first | assumption | exact hset_s | refine hget_n (by first | assumption | exact Ne.symm (by assumption) | exact nA ok (by omega) (by omega) (by omega)) ?_) (by rfl) ?_
  first | refine x_aload_n 0 dX6_takeCommand_4 rfl rfl ?_ | refine x_aload_nN 0 dX6_takeCommand_4 rfl rfl ?_
  refine x_get fX6_12 rfl dX6_takeCommand_5 (by with_reducible repeat first | assumption | exact hset_s | refine hget_n (by first | assumption | exact Ne.symm (by assumption) | exact nA ok (by omega) (by omega) (by omega)) ?_) (by rfl) ?_
  refine x_cV1 (As := []) (ct_J4_length_8abf5 (by with_reducible repeat first | assumption | exact hset_s | refine hget_n (by first | assumption | exact Ne.symm (by assumption) | exact nA ok (by omega) (by omega) (by omega)) ?_)) vX6_38 rfl (x_recv (by with_reducible repeat first | assumption | exact hset_s | refine hget_n (by first | assumption | exact Ne.symm (by assumption) | exact nA ok (by omega) (by omega) (by omega)) ?_) rfl) rfl ⟨ble rfl, ble rfl⟩ (ble rfl) dX6_takeCommand_8 rfl ?_
  refine x_icmp_ge 31 dX6_takeCommand_11 (by decide) (fun z => by first | exact absurd z (nI_ge hal (by omega)) | exact absurd (nI_ge hal (by omega)) z) (fun _ => ?_)
  first | refine x_aload_n 0 dX6_takeCommand_14 rfl rfl ?_ | refine x_aload_nN 0 dX6_takeCommand_14 rfl rfl ?_
  refine x_get fX6_12 rfl dX6_takeCommand_15 (by with_reducible repeat first | assumption | exact hset_s | refine hget_n (by first | assumption | exact Ne.symm (by assumption) | exact nA ok (by omega) (by omega) (by omega)) ?_) (by rfl) ?_
  first | refine x_aload_n 0 dX6_takeCommand_18 rfl rfl ?_ | refine x_aload_nN 0 dX6_takeCommand_18 rfl rfl ?_
  refine x_get fX6_35 rfl dX6_takeCommand_19 (by with_reducible repeat first | assumption | exact hset_s | refine hget_n (by first | assumption | exact Ne.symm (by assumption) | exact nA ok (by omega) (by omega) (by omega)) ?_) (by rfl) ?_
  refine x_cV1 (As := [.int _]) (ct_J4_charAt_5068e T hA hal) vX6_62 rfl (x_recv (by with_reducible repeat first | assumption | exact hset_s | refine hget_n (by first | assumption | exact Ne.symm (by assumption) | exact nA ok (by omega) (by omega) (by omega)) ?_) rfl) rfl ⟨ble rfl, ble rfl⟩ (ble rfl) dX6_takeCommand_22 rfl ?_
  refine x_cS1 (As := [.int _]) (ct_sw_in hv (hA a hal) he0) vX6_66 rfl rfl ⟨ble rfl, ble rfl⟩ (ble rfl) dX6_takeCommand_25 rfl ?_
  refine x_goto 32 dX6_takeCommand_28 (by decide) ?_
  first | refine x_astore_n (L' := [(2, _), (0, _), (1, _)]) dX6_takeCommand_32 rfl (ble rfl) rfl ?_ | refine x_astore_nN (L' := [(2, _), (0, _), (1, _)]) dX6_takeCommand_32 rfl (ble rfl) rfl ?_
  first | refine x_aload_n 0 dX6_takeCommand_33 rfl rfl ?_ | refine x_aload_nN 0 dX6_takeCommand_33 rfl rfl ?_
  refine x_ifnull 48 dX6_takeCommand_34 (by decide) ?_
  first | refine x_aload_n 1 dX6_takeCommand_37 rfl rfl ?_ | refine x_aload_nN 1 dX6_takeCommand_37 rfl rfl ?_
  first | refine x_aload_n 0 dX6_takeCommand_38 rfl rfl ?_ | refine x_aload_nN 0 dX6_takeCommand_38 rfl rfl ?_
  refine x_getO (zV_word (by assumption)) rfl oX6_70 dX6_takeCommand_39 ?_
  rw [show 23 + v = 20 + (3 + v) by omega]
  refine x_cV1 (As := [.ref _]) (ct_tw_y ok hs T hA h60 ha60 (by omega) (by omega) hw) vX6_74 rfl (x_recv (by with_reducible repeat first | assumption | exact hset_s | refine hget_n (by first | assumption | exact Ne.symm (by assumption) | exact nA ok (by omega) (by omega) (by omega)) ?_) rfl) rfl ⟨ble rfl, ble rfl⟩ (ble rfl) dX6_takeCommand_42 rfl ?_
  refine x_if_ne 50 dX6_takeCommand_45 (by decide) (fun _ => ?_) (fun z => by first | exact absurd (show ¬ (1 : Int32) = 0 by decide) z | exact absurd z (show ¬ (1 : Int32) = 0 by decide))
  have T1 := T.s9 ok (eSc G (nI cn) (nI (a + tsLen (3 + v))))
  first | refine x_aload_n 1 dX6_takeCommand_50 rfl rfl ?_ | refine x_aload_nN 1 dX6_takeCommand_50 rfl rfl ?_
  refine x_get fX6_20 rfl dX6_takeCommand_51 (by with_reducible repeat first | assumption | exact hset_s | refine hget_n (by first | assumption | exact Ne.symm (by assumption) | exact nA ok (by omega) (by omega) (by omega)) ?_) (by rfl) ?_
  refine x_iload_n 2 dX6_takeCommand_54 rfl rfl ?_
  first | refine x_aload_n 0 dX6_takeCommand_55 rfl rfl ?_ | refine x_aload_nN 0 dX6_takeCommand_55 rfl rfl ?_
  refine x_aastO 7 rfl dX6_takeCommand_56 (by with_reducible repeat first | assumption | exact hset_s | refine hget_n (by first | assumption | exact Ne.symm (by assumption) | exact nA ok (by omega) (by omega) (by omega)) ?_) (zV_obj hv) (List.mem_append_right _ (List.mem_of_getElem? (i := 24) (by decide +kernel))) (vp_in_nI (by omega) (by omega)) (aA ok (by omega)) ?_
  rw [nI_clamp (by omega)]
  have T2 := T1.out (eR G 7 10 (va_up vf ci (some (G.2.2.2 (3 + v))))) n10_11 hb11
  first | refine x_aload_n 1 dX6_takeCommand_57 rfl rfl ?_ | refine x_aload_nN 1 dX6_takeCommand_57 rfl rfl ?_
  refine x_get fX6_24 rfl dX6_takeCommand_58 (by with_reducible repeat first | assumption | exact hset_s | refine hget_n (by first | assumption | exact Ne.symm (by assumption) | exact nA ok (by omega) (by omega) (by omega)) ?_) (by rfl) ?_
  refine x_iload_n 2 dX6_takeCommand_61 rfl rfl ?_
  first | refine x_aload_n 1 dX6_takeCommand_62 rfl rfl ?_ | refine x_aload_nN 1 dX6_takeCommand_62 rfl rfl ?_
  refine x_iconst (v := 2) dX6_takeCommand_63 rfl ?_
  refine x_cV1 (As := [.int _]) (ct_tnum ok (by with_reducible repeat first | assumption | exact hset_s | refine hget_n (by first | assumption | exact Ne.symm (by assumption) | exact nA ok (by omega) (by omega) (by omega)) ?_) T2 hA h60 ha1 (md := 2) (by omega) D) vX6_78 rfl (x_recv (by with_reducible repeat first | assumption | exact hset_s | refine hget_n (by first | assumption | exact Ne.symm (by assumption) | exact nA ok (by omega) (by omega) (by omega)) ?_) rfl) rfl ⟨ble rfl, ble rfl⟩ (ble rfl) dX6_takeCommand_64 rfl ?_
  refine x_iastn dX6_takeCommand_67 (by with_reducible repeat first | assumption | exact hset_s | refine hget_n (by first | assumption | exact Ne.symm (by assumption) | exact nA ok (by omega) (by omega) (by omega)) ?_) (by omega) (by first | decide | omega) (by first | assumption | exact aA (by assumption) (by omega)) ?_
  first | refine x_aload_n 1 dX6_takeCommand_68 rfl rfl ?_ | refine x_aload_nN 1 dX6_takeCommand_68 rfl rfl ?_
  refine x_get fX6_28 rfl dX6_takeCommand_69 (by with_reducible repeat first | assumption | exact hset_s | refine hget_n (by first | assumption | exact Ne.symm (by assumption) | exact nA ok (by omega) (by omega) (by omega)) ?_) (by rfl) ?_
  refine x_iload_n 2 dX6_takeCommand_72 rfl rfl ?_
  refine x_iconst (v := 0) dX6_takeCommand_73 rfl ?_
  refine x_iastn dX6_takeCommand_74 (by with_reducible repeat first | assumption | exact hset_s | refine hget_n (by first | assumption | exact Ne.symm (by assumption) | exact nA ok (by omega) (by omega) (by omega)) ?_) (by omega) (by first | decide | omega) (by first | assumption | exact aA (by assumption) (by omega)) ?_
  first | refine x_aload_n 1 dX6_takeCommand_75 rfl rfl ?_ | refine x_aload_nN 1 dX6_takeCommand_75 rfl rfl ?_
  refine x_get fX6_24 rfl dX6_takeCommand_76 (by with_reducible repeat first | assumption | exact hset_s | refine hget_n (by first | assumption | exact Ne.symm (by assumption) | exact nA ok (by omega) (by omega) (by omega)) ?_) (by rfl) ?_
  refine x_iload_n 2 dX6_takeCommand_79 rfl rfl ?_
  refine x_ialdn dX6_takeCommand_80 (by with_reducible repeat first | assumption | exact hset_s | refine hget_n (by first | assumption | exact Ne.symm (by assumption) | exact nA ok (by omega) (by omega) (by omega)) ?_) (by omega) (by first | decide | omega) ?_
  rw [upd_eq rfl]
  refine x_if_lt 91 dX6_takeCommand_81 (by decide) (fun z => by first | exact absurd z (hf0) | exact absurd (hf0) z) (fun _ => ?_)
  first | refine x_aload_n 0 dX6_takeCommand_84 rfl rfl ?_ | refine x_aload_nN 0 dX6_takeCommand_84 rfl rfl ?_
  refine x_getO (zV_secondDigits (by assumption)) rfl oX6_82 dX6_takeCommand_85 ?_
  refine x_if_ne 106 dX6_takeCommand_88 (by decide) (fun z => by first | exact absurd z (fun z => z hvd0) | exact absurd (fun z => z hvd0) z) (fun _ => ?_)
  first | refine x_aload_n 1 dX6_takeCommand_91 rfl rfl ?_ | refine x_aload_nN 1 dX6_takeCommand_91 rfl rfl ?_
  refine x_get fX6_24 rfl dX6_takeCommand_92 (by with_reducible repeat first | assumption | exact hset_s | refine hget_n (by first | assumption | exact Ne.symm (by assumption) | exact nA ok (by omega) (by omega) (by omega)) ?_) (by rfl) ?_
  refine x_iload_n 2 dX6_takeCommand_95 rfl rfl ?_
  refine x_ialdn dX6_takeCommand_96 (by with_reducible repeat first | assumption | exact hset_s | refine hget_n (by first | assumption | exact Ne.symm (by assumption) | exact nA ok (by omega) (by omega) (by omega)) ?_) (by omega) (by first | decide | omega) ?_
  rw [upd_eq rfl]
  refine x_if_lt 104 dX6_takeCommand_97 (by decide) (fun z => by first | exact absurd z (hf0) | exact absurd (hf0) z) (fun _ => ?_)
  refine x_iconst (v := 1) dX6_takeCommand_100 rfl ?_
  refine x_goto 105 dX6_takeCommand_101 (by decide) ?_
  refine x_zret rfl (by first | rfl | (split <;> rfl) | (unfold b2i; split <;> rfl)) dX6_takeCommand_105 ?_
  refine ⟨rfl, _, _, _, by with_reducible repeat first | assumption | exact hset_s | refine hget_n (by first | assumption | exact Ne.symm (by assumption) | exact nA ok (by omega) (by omega) (by omega)) ?_, by with_reducible repeat first | assumption | exact hset_s | refine hget_n (by first | assumption | exact Ne.symm (by assumption) | exact nA ok (by omega) (by omega) (by omega)) ?_, by with_reducible repeat first | assumption | exact hset_s | refine hget_n (by first | assumption | exact Ne.symm (by assumption) | exact nA ok (by omega) (by omega) (by omega)) ?_, by with_reducible repeat first | assumption | exact hset_s | refine hget_n (by first | assumption | exact Ne.symm (by assumption) | exact nA ok (by omega) (by omega) (by omega)) ?_, ?_, ?_, ?_⟩
  · unfold TcF; repeat first | exact Fr.rf | refine Fr.st ?_ (by first | exact Or.inl rfl | exact Or.inr (Or.inl rfl) | exact Or.inr (Or.inr (Or.inl rfl)) | exact Or.inr (Or.inr (Or.inr rfl)))
  · intro q hq; refine ⟨?_, ?_, ?_⟩ <;> first | rfl | (simp only [va_up, upd, if_neg (show ¬ q = ci by omega)]; done)
  · refine ⟨?_, ?_, ?_⟩ <;> simp [va_up, upd]
set_option maxRecDepth 100000 in
set_option maxHeartbeats 1000000 in
theorem ct_tc_D {l : Launch} {G : Gl} {h : Hp} (ok : Ok G) {tx : List Int32} {b a cn ci : Nat} {vf : Nat → Option Nat} {ff sf : Nat → Int32} (hs : h (Ad G 9) = some (eSc G (nI cn) (nI a))) (h11 : h (Ad G 11) = some (eR G 7 10 vf)) (h12 : h (Ad G 12) = some (eI G 10 ff)) (h13 : h (Ad G 13) = some (eI G 10 sf)) (T : SBT G h (Ad G 10) tx b) (hA : Asc tx) (h60 : tx.length ≤ 60) (ha60 : a ≤ 60) (hci : ci < 10) {v : Nat} (hv : v < 6) (hv5 : v < 5) (hw : ∀ j, j < tsLen (3 + v) → mt tx a (3 + v) j) {n : Nat} (hn : 0 < n) (D : Dg tx (a + tsLen (3 + v)) n 2) (hb32 : ¬ (a + tsLen (3 + v) + n < tx.length ∧ tx.getD (a + tsLen (3 + v) + n) 0 = 32)) : Ct l G mX6_takeCommand 11 (0) (0) [.ref (Ad G 9), .int (nI ci)] h (fun w h' => w = some (.int 0) ∧ ∃ vf' ff' sf', h' (Ad G 9) = some (eSc G (nI cn) (nI (a + tsLen (3 + v) + n))) ∧ h' (Ad G 11) = some (eR G 7 10 vf') ∧ h' (Ad G 12) = some (eI G 10 ff') ∧ h' (Ad G 13) = some (eI G 10 sf') ∧ TcF G h h' ∧ (∀ q, q < ci → vf' q = vf q ∧ ff' q = ff q ∧ sf' q = sf q) ∧ True) := by
  obtain ⟨mm, ml, f9, h10, hb10, hab, hB, hl, hmm, hfit, hf, hAd⟩ := id T
  have hb9 : b ≠ Ad G 9 := fun e => hAd 9 (Or.inl (by omega)) e.symm
  have hb11 : b ≠ Ad G 11 := fun e => hAd 11 (Or.inl (by omega)) e.symm
  have hb12 : b ≠ Ad G 12 := fun e => hAd 12 (Or.inl (by omega)) e.symm
  have hb13 : b ≠ Ad G 13 := fun e => hAd 13 (Or.inl (by omega)) e.symm
  have n10_9 : Ad G 10 ≠ Ad G 9 := nA ok (by omega) (by omega) (by omega)
  have n10_11 : Ad G 10 ≠ Ad G 11 := nA ok (by omega) (by omega) (by omega)
  have n10_12 : Ad G 10 ≠ Ad G 12 := nA ok (by omega) (by omega) (by omega)
  have n10_13 : Ad G 10 ≠ Ad G 13 := nA ok (by omega) (by omega) (by omega)
  have hL := tsLen_le (3 + v) (by omega)
  have hL0 := ts_pos v hv
  obtain ⟨hvd, hmd2, hmd0⟩ := md_t v hv
  have hw0 := hw 0 hL0
  unfold mt at hw0
  have hal : a < tx.length := hw0.1
  have he0 : tsC (3 + v) 0 = tx.getD a 0 := hw0.2.symm
  have hwl := (hw (tsLen (3 + v) - 1) (by omega)).1
  have ha1 : a + tsLen (3 + v) ≤ 60 := by omega
  obtain ⟨fm, hfm, hfv⟩ := nv_n hn D.1 D.2.1
  have hf0 : ¬ (nvI tx (a + tsLen (3 + v)) n) < 0 := by rw [hfv]; exact nI_pos (by omega)
  have hf1 : 0 ≤ (nvI tx (a + tsLen (3 + v)) n) := Int32.not_lt.mp hf0
  have hdl := (D.2.1 (n - 1) (by omega)).1
  have ha2 : a + tsLen (3 + v) + n ≤ 60 := by omega
  have hvn : ¬ vDig v = 0 := by rw [hvd]; exact nI_ne0 (hmd0 hv5) (by omega)
  refine Ct.of (L := [(0, _), (1, _)]) (by decide) (ble rfl) rfl ?_
  first | refine x_aload_n 0 dX6_takeCommand_0 rfl rfl ?_ | refine x_aload_nN 0 dX6_takeCommand_0 rfl rfl ?_
  refine x_get fX6_35 rfl dX6_takeCommand_1 (by with_reducible repeat first | assumption | exact hset_s | refine hget_n (by first | assumption | exact Ne.symm (by assumption) | exact nA ok (by omega) (by omega) (by omega)) ?_) (by rfl) ?_
  first | refine x_aload_n 0 dX6_takeCommand_4 rfl rfl ?_ | refine x_aload_nN 0 dX6_takeCommand_4 rfl rfl ?_
  refine x_get fX6_12 rfl dX6_takeCommand_5 (by with_reducible repeat first | assumption | exact hset_s | refine hget_n (by first | assumption | exact Ne.symm (by assumption) | exact nA ok (by omega) (by omega) (by omega)) ?_) (by rfl) ?_
  refine x_cV1 (As := []) (ct_J4_length_8abf5 (by with_reducible repeat first | assumption | exact hset_s | refine hget_n (by first | assumption | exact Ne.symm (by assumption) | exact nA ok (by omega) (by omega) (by omega)) ?_)) vX6_38 rfl (x_recv (by with_reducible repeat first | assumption | exact hset_s | refine hget_n (by first | assumption | exact Ne.symm (by assumption) | exact nA ok (by omega) (by omega) (by omega)) ?_) rfl) rfl ⟨ble rfl, ble rfl⟩ (ble rfl) dX6_takeCommand_8 rfl ?_
  refine x_icmp_ge 31 dX6_takeCommand_11 (by decide) (fun z => by first | exact absurd z (nI_ge hal (by omega)) | exact absurd (nI_ge hal (by omega)) z) (fun _ => ?_)
  first | refine x_aload_n 0 dX6_takeCommand_14 rfl rfl ?_ | refine x_aload_nN 0 dX6_takeCommand_14 rfl rfl ?_
  refine x_get fX6_12 rfl dX6_takeCommand_15 (by with_reducible repeat first | assumption | exact hset_s | refine hget_n (by first | assumption | exact Ne.symm (by assumption) | exact nA ok (by omega) (by omega) (by omega)) ?_) (by rfl) ?_
  first | refine x_aload_n 0 dX6_takeCommand_18 rfl rfl ?_ | refine x_aload_nN 0 dX6_takeCommand_18 rfl rfl ?_
  refine x_get fX6_35 rfl dX6_takeCommand_19 (by with_reducible repeat first | assumption | exact hset_s | refine hget_n (by first | assumption | exact Ne.symm (by assumption) | exact nA ok (by omega) (by omega) (by omega)) ?_) (by rfl) ?_
  refine x_cV1 (As := [.int _]) (ct_J4_charAt_5068e T hA hal) vX6_62 rfl (x_recv (by with_reducible repeat first | assumption | exact hset_s | refine hget_n (by first | assumption | exact Ne.symm (by assumption) | exact nA ok (by omega) (by omega) (by omega)) ?_) rfl) rfl ⟨ble rfl, ble rfl⟩ (ble rfl) dX6_takeCommand_22 rfl ?_
  refine x_cS1 (As := [.int _]) (ct_sw_in hv (hA a hal) he0) vX6_66 rfl rfl ⟨ble rfl, ble rfl⟩ (ble rfl) dX6_takeCommand_25 rfl ?_
  refine x_goto 32 dX6_takeCommand_28 (by decide) ?_
  first | refine x_astore_n (L' := [(2, _), (0, _), (1, _)]) dX6_takeCommand_32 rfl (ble rfl) rfl ?_ | refine x_astore_nN (L' := [(2, _), (0, _), (1, _)]) dX6_takeCommand_32 rfl (ble rfl) rfl ?_
  first | refine x_aload_n 0 dX6_takeCommand_33 rfl rfl ?_ | refine x_aload_nN 0 dX6_takeCommand_33 rfl rfl ?_
  refine x_ifnull 48 dX6_takeCommand_34 (by decide) ?_
  first | refine x_aload_n 1 dX6_takeCommand_37 rfl rfl ?_ | refine x_aload_nN 1 dX6_takeCommand_37 rfl rfl ?_
  first | refine x_aload_n 0 dX6_takeCommand_38 rfl rfl ?_ | refine x_aload_nN 0 dX6_takeCommand_38 rfl rfl ?_
  refine x_getO (zV_word (by assumption)) rfl oX6_70 dX6_takeCommand_39 ?_
  rw [show 23 + v = 20 + (3 + v) by omega]
  refine x_cV1 (As := [.ref _]) (ct_tw_y ok hs T hA h60 ha60 (by omega) (by omega) hw) vX6_74 rfl (x_recv (by with_reducible repeat first | assumption | exact hset_s | refine hget_n (by first | assumption | exact Ne.symm (by assumption) | exact nA ok (by omega) (by omega) (by omega)) ?_) rfl) rfl ⟨ble rfl, ble rfl⟩ (ble rfl) dX6_takeCommand_42 rfl ?_
  refine x_if_ne 50 dX6_takeCommand_45 (by decide) (fun _ => ?_) (fun z => by first | exact absurd (show ¬ (1 : Int32) = 0 by decide) z | exact absurd z (show ¬ (1 : Int32) = 0 by decide))
  have T1 := T.s9 ok (eSc G (nI cn) (nI (a + tsLen (3 + v))))
  first | refine x_aload_n 1 dX6_takeCommand_50 rfl rfl ?_ | refine x_aload_nN 1 dX6_takeCommand_50 rfl rfl ?_
  refine x_get fX6_20 rfl dX6_takeCommand_51 (by with_reducible repeat first | assumption | exact hset_s | refine hget_n (by first | assumption | exact Ne.symm (by assumption) | exact nA ok (by omega) (by omega) (by omega)) ?_) (by rfl) ?_
  refine x_iload_n 2 dX6_takeCommand_54 rfl rfl ?_
  first | refine x_aload_n 0 dX6_takeCommand_55 rfl rfl ?_ | refine x_aload_nN 0 dX6_takeCommand_55 rfl rfl ?_
  refine x_aastO 7 rfl dX6_takeCommand_56 (by with_reducible repeat first | assumption | exact hset_s | refine hget_n (by first | assumption | exact Ne.symm (by assumption) | exact nA ok (by omega) (by omega) (by omega)) ?_) (zV_obj hv) (List.mem_append_right _ (List.mem_of_getElem? (i := 24) (by decide +kernel))) (vp_in_nI (by omega) (by omega)) (aA ok (by omega)) ?_
  rw [nI_clamp (by omega)]
  have T2 := T1.out (eR G 7 10 (va_up vf ci (some (G.2.2.2 (3 + v))))) n10_11 hb11
  first | refine x_aload_n 1 dX6_takeCommand_57 rfl rfl ?_ | refine x_aload_nN 1 dX6_takeCommand_57 rfl rfl ?_
  refine x_get fX6_24 rfl dX6_takeCommand_58 (by with_reducible repeat first | assumption | exact hset_s | refine hget_n (by first | assumption | exact Ne.symm (by assumption) | exact nA ok (by omega) (by omega) (by omega)) ?_) (by rfl) ?_
  refine x_iload_n 2 dX6_takeCommand_61 rfl rfl ?_
  first | refine x_aload_n 1 dX6_takeCommand_62 rfl rfl ?_ | refine x_aload_nN 1 dX6_takeCommand_62 rfl rfl ?_
  refine x_iconst (v := 2) dX6_takeCommand_63 rfl ?_
  refine x_cV1 (As := [.int _]) (ct_tnum ok (by with_reducible repeat first | assumption | exact hset_s | refine hget_n (by first | assumption | exact Ne.symm (by assumption) | exact nA ok (by omega) (by omega) (by omega)) ?_) T2 hA h60 ha1 (md := 2) (by omega) D) vX6_78 rfl (x_recv (by with_reducible repeat first | assumption | exact hset_s | refine hget_n (by first | assumption | exact Ne.symm (by assumption) | exact nA ok (by omega) (by omega) (by omega)) ?_) rfl) rfl ⟨ble rfl, ble rfl⟩ (ble rfl) dX6_takeCommand_64 rfl ?_
  refine x_iastn dX6_takeCommand_67 (by with_reducible repeat first | assumption | exact hset_s | refine hget_n (by first | assumption | exact Ne.symm (by assumption) | exact nA ok (by omega) (by omega) (by omega)) ?_) (by omega) (by first | decide | omega) (by first | assumption | exact aA (by assumption) (by omega)) ?_
  first | refine x_aload_n 1 dX6_takeCommand_68 rfl rfl ?_ | refine x_aload_nN 1 dX6_takeCommand_68 rfl rfl ?_
  refine x_get fX6_28 rfl dX6_takeCommand_69 (by with_reducible repeat first | assumption | exact hset_s | refine hget_n (by first | assumption | exact Ne.symm (by assumption) | exact nA ok (by omega) (by omega) (by omega)) ?_) (by rfl) ?_
  refine x_iload_n 2 dX6_takeCommand_72 rfl rfl ?_
  refine x_iconst (v := 0) dX6_takeCommand_73 rfl ?_
  refine x_iastn dX6_takeCommand_74 (by with_reducible repeat first | assumption | exact hset_s | refine hget_n (by first | assumption | exact Ne.symm (by assumption) | exact nA ok (by omega) (by omega) (by omega)) ?_) (by omega) (by first | decide | omega) (by first | assumption | exact aA (by assumption) (by omega)) ?_
  first | refine x_aload_n 1 dX6_takeCommand_75 rfl rfl ?_ | refine x_aload_nN 1 dX6_takeCommand_75 rfl rfl ?_
  refine x_get fX6_24 rfl dX6_takeCommand_76 (by with_reducible repeat first | assumption | exact hset_s | refine hget_n (by first | assumption | exact Ne.symm (by assumption) | exact nA ok (by omega) (by omega) (by omega)) ?_) (by rfl) ?_
  refine x_iload_n 2 dX6_takeCommand_79 rfl rfl ?_
  refine x_ialdn dX6_takeCommand_80 (by with_reducible repeat first | assumption | exact hset_s | refine hget_n (by first | assumption | exact Ne.symm (by assumption) | exact nA ok (by omega) (by omega) (by omega)) ?_) (by omega) (by first | decide | omega) ?_
  rw [upd_eq rfl]
  refine x_if_lt 91 dX6_takeCommand_81 (by decide) (fun z => by first | exact absurd z (hf0) | exact absurd (hf0) z) (fun _ => ?_)
  first | refine x_aload_n 0 dX6_takeCommand_84 rfl rfl ?_ | refine x_aload_nN 0 dX6_takeCommand_84 rfl rfl ?_
  refine x_getO (zV_secondDigits (by assumption)) rfl oX6_82 dX6_takeCommand_85 ?_
  refine x_if_ne 106 dX6_takeCommand_88 (by decide) (fun _ => ?_) (fun z => by first | exact absurd (hvn) z | exact absurd z (hvn))
  have T3 := (T2.s9 ok (eSc G (nI cn) (nI (a + tsLen (3 + v) + n)))).out (eI G 10 (upd ff ci (nvI tx (a + tsLen (3 + v)) n))) n10_12 hb12
  have T4 := T3.out (eI G 10 (upd sf ci 0)) n10_13 hb13
  first | refine x_aload_n 1 dX6_takeCommand_106 rfl rfl ?_ | refine x_aload_nN 1 dX6_takeCommand_106 rfl rfl ?_
  refine x_bipush (v := 32) dX6_takeCommand_107 rfl ?_
  refine x_cV1 (As := [.int _]) (ct_take_n ok (by with_reducible repeat first | assumption | exact hset_s | refine hget_n (by first | assumption | exact Ne.symm (by assumption) | exact nA ok (by omega) (by omega) (by omega)) ?_) T4 hA h60 ha2 hb32) vX6_58 rfl (x_recv (by with_reducible repeat first | assumption | exact hset_s | refine hget_n (by first | assumption | exact Ne.symm (by assumption) | exact nA ok (by omega) (by omega) (by omega)) ?_) rfl) rfl ⟨ble rfl, ble rfl⟩ (ble rfl) dX6_takeCommand_109 rfl ?_
  refine x_if_ne 117 dX6_takeCommand_112 (by decide) (fun z => by first | exact absurd z (fun z => z rfl) | exact absurd (fun z => z rfl) z) (fun _ => ?_)
  refine x_iconst (v := 0) dX6_takeCommand_115 rfl ?_
  refine x_zret rfl (by first | rfl | (split <;> rfl) | (unfold b2i; split <;> rfl)) dX6_takeCommand_116 ?_
  refine ⟨rfl, _, _, _, by with_reducible repeat first | assumption | exact hset_s | refine hget_n (by first | assumption | exact Ne.symm (by assumption) | exact nA ok (by omega) (by omega) (by omega)) ?_, by with_reducible repeat first | assumption | exact hset_s | refine hget_n (by first | assumption | exact Ne.symm (by assumption) | exact nA ok (by omega) (by omega) (by omega)) ?_, by with_reducible repeat first | assumption | exact hset_s | refine hget_n (by first | assumption | exact Ne.symm (by assumption) | exact nA ok (by omega) (by omega) (by omega)) ?_, by with_reducible repeat first | assumption | exact hset_s | refine hget_n (by first | assumption | exact Ne.symm (by assumption) | exact nA ok (by omega) (by omega) (by omega)) ?_, ?_, ?_, ?_⟩
  · unfold TcF; repeat first | exact Fr.rf | refine Fr.st ?_ (by first | exact Or.inl rfl | exact Or.inr (Or.inl rfl) | exact Or.inr (Or.inr (Or.inl rfl)) | exact Or.inr (Or.inr (Or.inr rfl)))
  · intro q hq; refine ⟨?_, ?_, ?_⟩ <;> first | rfl | (simp only [va_up, upd, if_neg (show ¬ q = ci by omega)]; done)
  · exact trivial
set_option maxRecDepth 100000 in
set_option maxHeartbeats 1000000 in
theorem ct_tc_E {l : Launch} {G : Gl} {h : Hp} (ok : Ok G) {tx : List Int32} {b a cn ci : Nat} {vf : Nat → Option Nat} {ff sf : Nat → Int32} (hs : h (Ad G 9) = some (eSc G (nI cn) (nI a))) (h11 : h (Ad G 11) = some (eR G 7 10 vf)) (h12 : h (Ad G 12) = some (eI G 10 ff)) (h13 : h (Ad G 13) = some (eI G 10 sf)) (T : SBT G h (Ad G 10) tx b) (hA : Asc tx) (h60 : tx.length ≤ 60) (ha60 : a ≤ 60) (hci : ci < 10) {v : Nat} (hv : v < 6) (hv5 : v < 5) (hw : ∀ j, j < tsLen (3 + v) → mt tx a (3 + v) j) {n : Nat} (hn : 0 < n) (D : Dg tx (a + tsLen (3 + v)) n 2) (hb32 : a + tsLen (3 + v) + n < tx.length ∧ tx.getD (a + tsLen (3 + v) + n) 0 = 32) (D2 : Dg tx (a + tsLen (3 + v) + n + 1) 0 (mdV v)) : Ct l G mX6_takeCommand 11 (0) (0) [.ref (Ad G 9), .int (nI ci)] h (fun w h' => w = some (.int 0) ∧ ∃ vf' ff' sf', h' (Ad G 9) = some (eSc G (nI cn) (nI (a + tsLen (3 + v) + n + 1))) ∧ h' (Ad G 11) = some (eR G 7 10 vf') ∧ h' (Ad G 12) = some (eI G 10 ff') ∧ h' (Ad G 13) = some (eI G 10 sf') ∧ TcF G h h' ∧ (∀ q, q < ci → vf' q = vf q ∧ ff' q = ff q ∧ sf' q = sf q) ∧ True) := by
  obtain ⟨mm, ml, f9, h10, hb10, hab, hB, hl, hmm, hfit, hf, hAd⟩ := id T
  have hb9 : b ≠ Ad G 9 := fun e => hAd 9 (Or.inl (by omega)) e.symm
  have hb11 : b ≠ Ad G 11 := fun e => hAd 11 (Or.inl (by omega)) e.symm
  have hb12 : b ≠ Ad G 12 := fun e => hAd 12 (Or.inl (by omega)) e.symm
  have hb13 : b ≠ Ad G 13 := fun e => hAd 13 (Or.inl (by omega)) e.symm
  have n10_9 : Ad G 10 ≠ Ad G 9 := nA ok (by omega) (by omega) (by omega)
  have n10_11 : Ad G 10 ≠ Ad G 11 := nA ok (by omega) (by omega) (by omega)
  have n10_12 : Ad G 10 ≠ Ad G 12 := nA ok (by omega) (by omega) (by omega)
  have n10_13 : Ad G 10 ≠ Ad G 13 := nA ok (by omega) (by omega) (by omega)
  have hL := tsLen_le (3 + v) (by omega)
  have hL0 := ts_pos v hv
  obtain ⟨hvd, hmd2, hmd0⟩ := md_t v hv
  have hw0 := hw 0 hL0
  unfold mt at hw0
  have hal : a < tx.length := hw0.1
  have he0 : tsC (3 + v) 0 = tx.getD a 0 := hw0.2.symm
  have hwl := (hw (tsLen (3 + v) - 1) (by omega)).1
  have ha1 : a + tsLen (3 + v) ≤ 60 := by omega
  obtain ⟨fm, hfm, hfv⟩ := nv_n hn D.1 D.2.1
  have hf0 : ¬ (nvI tx (a + tsLen (3 + v)) n) < 0 := by rw [hfv]; exact nI_pos (by omega)
  have hf1 : 0 ≤ (nvI tx (a + tsLen (3 + v)) n) := Int32.not_lt.mp hf0
  have hdl := (D.2.1 (n - 1) (by omega)).1
  have ha2 : a + tsLen (3 + v) + n ≤ 60 := by omega
  have hvn : ¬ vDig v = 0 := by rw [hvd]; exact nI_ne0 (hmd0 hv5) (by omega)
  refine Ct.of (L := [(0, _), (1, _)]) (by decide) (ble rfl) rfl ?_
  first | refine x_aload_n 0 dX6_takeCommand_0 rfl rfl ?_ | refine x_aload_nN 0 dX6_takeCommand_0 rfl rfl ?_
  refine x_get fX6_35 rfl dX6_takeCommand_1 (by with_reducible repeat first | assumption | exact hset_s | refine hget_n (by first | assumption | exact Ne.symm (by assumption) | exact nA ok (by omega) (by omega) (by omega)) ?_) (by rfl) ?_
  first | refine x_aload_n 0 dX6_takeCommand_4 rfl rfl ?_ | refine x_aload_nN 0 dX6_takeCommand_4 rfl rfl ?_
  refine x_get fX6_12 rfl dX6_takeCommand_5 (by with_reducible repeat first | assumption | exact hset_s | refine hget_n (by first | assumption | exact Ne.symm (by assumption) | exact nA ok (by omega) (by omega) (by omega)) ?_) (by rfl) ?_
  refine x_cV1 (As := []) (ct_J4_length_8abf5 (by with_reducible repeat first | assumption | exact hset_s | refine hget_n (by first | assumption | exact Ne.symm (by assumption) | exact nA ok (by omega) (by omega) (by omega)) ?_)) vX6_38 rfl (x_recv (by with_reducible repeat first | assumption | exact hset_s | refine hget_n (by first | assumption | exact Ne.symm (by assumption) | exact nA ok (by omega) (by omega) (by omega)) ?_) rfl) rfl ⟨ble rfl, ble rfl⟩ (ble rfl) dX6_takeCommand_8 rfl ?_
  refine x_icmp_ge 31 dX6_takeCommand_11 (by decide) (fun z => by first | exact absurd z (nI_ge hal (by omega)) | exact absurd (nI_ge hal (by omega)) z) (fun _ => ?_)
  first | refine x_aload_n 0 dX6_takeCommand_14 rfl rfl ?_ | refine x_aload_nN 0 dX6_takeCommand_14 rfl rfl ?_
  refine x_get fX6_12 rfl dX6_takeCommand_15 (by with_reducible repeat first | assumption | exact hset_s | refine hget_n (by first | assumption | exact Ne.symm (by assumption) | exact nA ok (by omega) (by omega) (by omega)) ?_) (by rfl) ?_
  first | refine x_aload_n 0 dX6_takeCommand_18 rfl rfl ?_ | refine x_aload_nN 0 dX6_takeCommand_18 rfl rfl ?_
  refine x_get fX6_35 rfl dX6_takeCommand_19 (by with_reducible repeat first | assumption | exact hset_s | refine hget_n (by first | assumption | exact Ne.symm (by assumption) | exact nA ok (by omega) (by omega) (by omega)) ?_) (by rfl) ?_
  refine x_cV1 (As := [.int _]) (ct_J4_charAt_5068e T hA hal) vX6_62 rfl (x_recv (by with_reducible repeat first | assumption | exact hset_s | refine hget_n (by first | assumption | exact Ne.symm (by assumption) | exact nA ok (by omega) (by omega) (by omega)) ?_) rfl) rfl ⟨ble rfl, ble rfl⟩ (ble rfl) dX6_takeCommand_22 rfl ?_
  refine x_cS1 (As := [.int _]) (ct_sw_in hv (hA a hal) he0) vX6_66 rfl rfl ⟨ble rfl, ble rfl⟩ (ble rfl) dX6_takeCommand_25 rfl ?_
  refine x_goto 32 dX6_takeCommand_28 (by decide) ?_
  first | refine x_astore_n (L' := [(2, _), (0, _), (1, _)]) dX6_takeCommand_32 rfl (ble rfl) rfl ?_ | refine x_astore_nN (L' := [(2, _), (0, _), (1, _)]) dX6_takeCommand_32 rfl (ble rfl) rfl ?_
  first | refine x_aload_n 0 dX6_takeCommand_33 rfl rfl ?_ | refine x_aload_nN 0 dX6_takeCommand_33 rfl rfl ?_
  refine x_ifnull 48 dX6_takeCommand_34 (by decide) ?_
  first | refine x_aload_n 1 dX6_takeCommand_37 rfl rfl ?_ | refine x_aload_nN 1 dX6_takeCommand_37 rfl rfl ?_
  first | refine x_aload_n 0 dX6_takeCommand_38 rfl rfl ?_ | refine x_aload_nN 0 dX6_takeCommand_38 rfl rfl ?_
  refine x_getO (zV_word (by assumption)) rfl oX6_70 dX6_takeCommand_39 ?_
  rw [show 23 + v = 20 + (3 + v) by omega]
  refine x_cV1 (As := [.ref _]) (ct_tw_y ok hs T hA h60 ha60 (by omega) (by omega) hw) vX6_74 rfl (x_recv (by with_reducible repeat first | assumption | exact hset_s | refine hget_n (by first | assumption | exact Ne.symm (by assumption) | exact nA ok (by omega) (by omega) (by omega)) ?_) rfl) rfl ⟨ble rfl, ble rfl⟩ (ble rfl) dX6_takeCommand_42 rfl ?_
  refine x_if_ne 50 dX6_takeCommand_45 (by decide) (fun _ => ?_) (fun z => by first | exact absurd (show ¬ (1 : Int32) = 0 by decide) z | exact absurd z (show ¬ (1 : Int32) = 0 by decide))
  have T1 := T.s9 ok (eSc G (nI cn) (nI (a + tsLen (3 + v))))
  first | refine x_aload_n 1 dX6_takeCommand_50 rfl rfl ?_ | refine x_aload_nN 1 dX6_takeCommand_50 rfl rfl ?_
  refine x_get fX6_20 rfl dX6_takeCommand_51 (by with_reducible repeat first | assumption | exact hset_s | refine hget_n (by first | assumption | exact Ne.symm (by assumption) | exact nA ok (by omega) (by omega) (by omega)) ?_) (by rfl) ?_
  refine x_iload_n 2 dX6_takeCommand_54 rfl rfl ?_
  first | refine x_aload_n 0 dX6_takeCommand_55 rfl rfl ?_ | refine x_aload_nN 0 dX6_takeCommand_55 rfl rfl ?_
  refine x_aastO 7 rfl dX6_takeCommand_56 (by with_reducible repeat first | assumption | exact hset_s | refine hget_n (by first | assumption | exact Ne.symm (by assumption) | exact nA ok (by omega) (by omega) (by omega)) ?_) (zV_obj hv) (List.mem_append_right _ (List.mem_of_getElem? (i := 24) (by decide +kernel))) (vp_in_nI (by omega) (by omega)) (aA ok (by omega)) ?_
  rw [nI_clamp (by omega)]
  have T2 := T1.out (eR G 7 10 (va_up vf ci (some (G.2.2.2 (3 + v))))) n10_11 hb11
  first | refine x_aload_n 1 dX6_takeCommand_57 rfl rfl ?_ | refine x_aload_nN 1 dX6_takeCommand_57 rfl rfl ?_
  refine x_get fX6_24 rfl dX6_takeCommand_58 (by with_reducible repeat first | assumption | exact hset_s | refine hget_n (by first | assumption | exact Ne.symm (by assumption) | exact nA ok (by omega) (by omega) (by omega)) ?_) (by rfl) ?_
  refine x_iload_n 2 dX6_takeCommand_61 rfl rfl ?_
  first | refine x_aload_n 1 dX6_takeCommand_62 rfl rfl ?_ | refine x_aload_nN 1 dX6_takeCommand_62 rfl rfl ?_
  refine x_iconst (v := 2) dX6_takeCommand_63 rfl ?_
  refine x_cV1 (As := [.int _]) (ct_tnum ok (by with_reducible repeat first | assumption | exact hset_s | refine hget_n (by first | assumption | exact Ne.symm (by assumption) | exact nA ok (by omega) (by omega) (by omega)) ?_) T2 hA h60 ha1 (md := 2) (by omega) D) vX6_78 rfl (x_recv (by with_reducible repeat first | assumption | exact hset_s | refine hget_n (by first | assumption | exact Ne.symm (by assumption) | exact nA ok (by omega) (by omega) (by omega)) ?_) rfl) rfl ⟨ble rfl, ble rfl⟩ (ble rfl) dX6_takeCommand_64 rfl ?_
  refine x_iastn dX6_takeCommand_67 (by with_reducible repeat first | assumption | exact hset_s | refine hget_n (by first | assumption | exact Ne.symm (by assumption) | exact nA ok (by omega) (by omega) (by omega)) ?_) (by omega) (by first | decide | omega) (by first | assumption | exact aA (by assumption) (by omega)) ?_
  first | refine x_aload_n 1 dX6_takeCommand_68 rfl rfl ?_ | refine x_aload_nN 1 dX6_takeCommand_68 rfl rfl ?_
  refine x_get fX6_28 rfl dX6_takeCommand_69 (by with_reducible repeat first | assumption | exact hset_s | refine hget_n (by first | assumption | exact Ne.symm (by assumption) | exact nA ok (by omega) (by omega) (by omega)) ?_) (by rfl) ?_
  refine x_iload_n 2 dX6_takeCommand_72 rfl rfl ?_
  refine x_iconst (v := 0) dX6_takeCommand_73 rfl ?_
  refine x_iastn dX6_takeCommand_74 (by with_reducible repeat first | assumption | exact hset_s | refine hget_n (by first | assumption | exact Ne.symm (by assumption) | exact nA ok (by omega) (by omega) (by omega)) ?_) (by omega) (by first | decide | omega) (by first | assumption | exact aA (by assumption) (by omega)) ?_
  first | refine x_aload_n 1 dX6_takeCommand_75 rfl rfl ?_ | refine x_aload_nN 1 dX6_takeCommand_75 rfl rfl ?_
  refine x_get fX6_24 rfl dX6_takeCommand_76 (by with_reducible repeat first | assumption | exact hset_s | refine hget_n (by first | assumption | exact Ne.symm (by assumption) | exact nA ok (by omega) (by omega) (by omega)) ?_) (by rfl) ?_
  refine x_iload_n 2 dX6_takeCommand_79 rfl rfl ?_
  refine x_ialdn dX6_takeCommand_80 (by with_reducible repeat first | assumption | exact hset_s | refine hget_n (by first | assumption | exact Ne.symm (by assumption) | exact nA ok (by omega) (by omega) (by omega)) ?_) (by omega) (by first | decide | omega) ?_
  rw [upd_eq rfl]
  refine x_if_lt 91 dX6_takeCommand_81 (by decide) (fun z => by first | exact absurd z (hf0) | exact absurd (hf0) z) (fun _ => ?_)
  first | refine x_aload_n 0 dX6_takeCommand_84 rfl rfl ?_ | refine x_aload_nN 0 dX6_takeCommand_84 rfl rfl ?_
  refine x_getO (zV_secondDigits (by assumption)) rfl oX6_82 dX6_takeCommand_85 ?_
  refine x_if_ne 106 dX6_takeCommand_88 (by decide) (fun _ => ?_) (fun z => by first | exact absurd (hvn) z | exact absurd z (hvn))
  have T3 := (T2.s9 ok (eSc G (nI cn) (nI (a + tsLen (3 + v) + n)))).out (eI G 10 (upd ff ci (nvI tx (a + tsLen (3 + v)) n))) n10_12 hb12
  have T4 := T3.out (eI G 10 (upd sf ci 0)) n10_13 hb13
  first | refine x_aload_n 1 dX6_takeCommand_106 rfl rfl ?_ | refine x_aload_nN 1 dX6_takeCommand_106 rfl rfl ?_
  refine x_bipush (v := 32) dX6_takeCommand_107 rfl ?_
  refine x_cV1 (As := [.int _]) (ct_take_y ok (by with_reducible repeat first | assumption | exact hset_s | refine hget_n (by first | assumption | exact Ne.symm (by assumption) | exact nA ok (by omega) (by omega) (by omega)) ?_) T4 hA h60 ha2 hb32) vX6_58 rfl (x_recv (by with_reducible repeat first | assumption | exact hset_s | refine hget_n (by first | assumption | exact Ne.symm (by assumption) | exact nA ok (by omega) (by omega) (by omega)) ?_) rfl) rfl ⟨ble rfl, ble rfl⟩ (ble rfl) dX6_takeCommand_109 rfl ?_
  refine x_if_ne 117 dX6_takeCommand_112 (by decide) (fun _ => ?_) (fun z => by first | exact absurd (show ¬ (1 : Int32) = 0 by decide) z | exact absurd z (show ¬ (1 : Int32) = 0 by decide))
  first | refine x_aload_n 1 dX6_takeCommand_117 rfl rfl ?_ | refine x_aload_nN 1 dX6_takeCommand_117 rfl rfl ?_
  refine x_get fX6_28 rfl dX6_takeCommand_118 (by with_reducible repeat first | assumption | exact hset_s | refine hget_n (by first | assumption | exact Ne.symm (by assumption) | exact nA ok (by omega) (by omega) (by omega)) ?_) (by rfl) ?_
  refine x_iload_n 2 dX6_takeCommand_121 rfl rfl ?_
  first | refine x_aload_n 1 dX6_takeCommand_122 rfl rfl ?_ | refine x_aload_nN 1 dX6_takeCommand_122 rfl rfl ?_
  first | refine x_aload_n 0 dX6_takeCommand_123 rfl rfl ?_ | refine x_aload_nN 0 dX6_takeCommand_123 rfl rfl ?_
  refine x_getO (zV_secondDigits (by assumption)) rfl oX6_82 dX6_takeCommand_124 ?_
  have T5 := T4.s9 ok (eSc G (nI cn) (nI (a + tsLen (3 + v) + n + 1)))
  rw [hvd]
  refine x_cV1 (As := [.int _]) (ct_tnum ok (by with_reducible repeat first | assumption | exact hset_s | refine hget_n (by first | assumption | exact Ne.symm (by assumption) | exact nA ok (by omega) (by omega) (by omega)) ?_) T5 hA h60 (by omega) hmd2 D2) vX6_78 rfl (x_recv (by with_reducible repeat first | assumption | exact hset_s | refine hget_n (by first | assumption | exact Ne.symm (by assumption) | exact nA ok (by omega) (by omega) (by omega)) ?_) rfl) rfl ⟨ble rfl, ble rfl⟩ (ble rfl) dX6_takeCommand_127 rfl ?_
  refine x_iastn dX6_takeCommand_130 (by with_reducible repeat first | assumption | exact hset_s | refine hget_n (by first | assumption | exact Ne.symm (by assumption) | exact nA ok (by omega) (by omega) (by omega)) ?_) (by omega) (by first | decide | omega) (by first | assumption | exact aA (by assumption) (by omega)) ?_
  first | refine x_aload_n 1 dX6_takeCommand_131 rfl rfl ?_ | refine x_aload_nN 1 dX6_takeCommand_131 rfl rfl ?_
  refine x_get fX6_28 rfl dX6_takeCommand_132 (by with_reducible repeat first | assumption | exact hset_s | refine hget_n (by first | assumption | exact Ne.symm (by assumption) | exact nA ok (by omega) (by omega) (by omega)) ?_) (by rfl) ?_
  refine x_iload_n 2 dX6_takeCommand_135 rfl rfl ?_
  refine x_ialdn dX6_takeCommand_136 (by with_reducible repeat first | assumption | exact hset_s | refine hget_n (by first | assumption | exact Ne.symm (by assumption) | exact nA ok (by omega) (by omega) (by omega)) ?_) (by omega) (by first | decide | omega) ?_
  rw [upd_eq rfl]
  refine x_if_lt 144 dX6_takeCommand_137 (by decide) (fun _ => ?_) (fun z => by first | exact absurd (by rw [nv_0]; decide) z | exact absurd z (by rw [nv_0]; decide))
  refine x_iconst (v := 0) dX6_takeCommand_144 rfl ?_
  refine x_zret rfl (by first | rfl | (split <;> rfl) | (unfold b2i; split <;> rfl)) dX6_takeCommand_145 ?_
  refine ⟨rfl, _, _, _, by with_reducible repeat first | assumption | exact hset_s | refine hget_n (by first | assumption | exact Ne.symm (by assumption) | exact nA ok (by omega) (by omega) (by omega)) ?_, by with_reducible repeat first | assumption | exact hset_s | refine hget_n (by first | assumption | exact Ne.symm (by assumption) | exact nA ok (by omega) (by omega) (by omega)) ?_, by with_reducible repeat first | assumption | exact hset_s | refine hget_n (by first | assumption | exact Ne.symm (by assumption) | exact nA ok (by omega) (by omega) (by omega)) ?_, by with_reducible repeat first | assumption | exact hset_s | refine hget_n (by first | assumption | exact Ne.symm (by assumption) | exact nA ok (by omega) (by omega) (by omega)) ?_, ?_, ?_, ?_⟩
  · unfold TcF; repeat first | exact Fr.rf | refine Fr.st ?_ (by first | exact Or.inl rfl | exact Or.inr (Or.inl rfl) | exact Or.inr (Or.inr (Or.inl rfl)) | exact Or.inr (Or.inr (Or.inr rfl)))
  · intro q hq; refine ⟨?_, ?_, ?_⟩ <;> first | rfl | (simp only [va_up, upd, if_neg (show ¬ q = ci by omega)]; done)
  · exact trivial
set_option maxRecDepth 100000 in
set_option maxHeartbeats 1000000 in
theorem ct_tc_S {l : Launch} {G : Gl} {h : Hp} (ok : Ok G) {tx : List Int32} {b a cn ci : Nat} {vf : Nat → Option Nat} {ff sf : Nat → Int32} (hs : h (Ad G 9) = some (eSc G (nI cn) (nI a))) (h11 : h (Ad G 11) = some (eR G 7 10 vf)) (h12 : h (Ad G 12) = some (eI G 10 ff)) (h13 : h (Ad G 13) = some (eI G 10 sf)) (T : SBT G h (Ad G 10) tx b) (hA : Asc tx) (h60 : tx.length ≤ 60) (ha60 : a ≤ 60) (hci : ci < 10) {v : Nat} (hv : v < 6) (hv5 : v < 5) (hw : ∀ j, j < tsLen (3 + v) → mt tx a (3 + v) j) {n : Nat} (hn : 0 < n) (D : Dg tx (a + tsLen (3 + v)) n 2) (hb32 : a + tsLen (3 + v) + n < tx.length ∧ tx.getD (a + tsLen (3 + v) + n) 0 = 32) {n2 : Nat} (hn2 : 0 < n2) (D2 : Dg tx (a + tsLen (3 + v) + n + 1) n2 (mdV v)) : Ct l G mX6_takeCommand 11 (0) (0) [.ref (Ad G 9), .int (nI ci)] h (fun w h' => w = some (.int 1) ∧ ∃ vf' ff' sf', h' (Ad G 9) = some (eSc G (nI cn) (nI (a + tsLen (3 + v) + n + 1 + n2))) ∧ h' (Ad G 11) = some (eR G 7 10 vf') ∧ h' (Ad G 12) = some (eI G 10 ff') ∧ h' (Ad G 13) = some (eI G 10 sf') ∧ TcF G h h' ∧ (∀ q, q < ci → vf' q = vf q ∧ ff' q = ff q ∧ sf' q = sf q) ∧ vf' ci = some (G.2.2.2 (3 + v)) ∧ ff' ci = (nvI tx (a + tsLen (3 + v)) n) ∧ sf' ci = (nvI tx (a + tsLen (3 + v) + n + 1) n2)) := by
  obtain ⟨mm, ml, f9, h10, hb10, hab, hB, hl, hmm, hfit, hf, hAd⟩ := id T
  have hb9 : b ≠ Ad G 9 := fun e => hAd 9 (Or.inl (by omega)) e.symm
  have hb11 : b ≠ Ad G 11 := fun e => hAd 11 (Or.inl (by omega)) e.symm
  have hb12 : b ≠ Ad G 12 := fun e => hAd 12 (Or.inl (by omega)) e.symm
  have hb13 : b ≠ Ad G 13 := fun e => hAd 13 (Or.inl (by omega)) e.symm
  have n10_9 : Ad G 10 ≠ Ad G 9 := nA ok (by omega) (by omega) (by omega)
  have n10_11 : Ad G 10 ≠ Ad G 11 := nA ok (by omega) (by omega) (by omega)
  have n10_12 : Ad G 10 ≠ Ad G 12 := nA ok (by omega) (by omega) (by omega)
  have n10_13 : Ad G 10 ≠ Ad G 13 := nA ok (by omega) (by omega) (by omega)
  have hL := tsLen_le (3 + v) (by omega)
  have hL0 := ts_pos v hv
  obtain ⟨hvd, hmd2, hmd0⟩ := md_t v hv
  have hw0 := hw 0 hL0
  unfold mt at hw0
  have hal : a < tx.length := hw0.1
  have he0 : tsC (3 + v) 0 = tx.getD a 0 := hw0.2.symm
  have hwl := (hw (tsLen (3 + v) - 1) (by omega)).1
  have ha1 : a + tsLen (3 + v) ≤ 60 := by omega
  obtain ⟨fm, hfm, hfv⟩ := nv_n hn D.1 D.2.1
  have hf0 : ¬ (nvI tx (a + tsLen (3 + v)) n) < 0 := by rw [hfv]; exact nI_pos (by omega)
  have hf1 : 0 ≤ (nvI tx (a + tsLen (3 + v)) n) := Int32.not_lt.mp hf0
  have hdl := (D.2.1 (n - 1) (by omega)).1
  have ha2 : a + tsLen (3 + v) + n ≤ 60 := by omega
  have hvn : ¬ vDig v = 0 := by rw [hvd]; exact nI_ne0 (hmd0 hv5) (by omega)
  obtain ⟨sm_, hsm, hsv⟩ := nv_n hn2 (Nat.le_trans D2.1 hmd2) D2.2.1
  have hs0 : ¬ (nvI tx (a + tsLen (3 + v) + n + 1) n2) < 0 := by rw [hsv]; exact nI_pos (by omega)
  refine Ct.of (L := [(0, _), (1, _)]) (by decide) (ble rfl) rfl ?_
  first | refine x_aload_n 0 dX6_takeCommand_0 rfl rfl ?_ | refine x_aload_nN 0 dX6_takeCommand_0 rfl rfl ?_
  refine x_get fX6_35 rfl dX6_takeCommand_1 (by with_reducible repeat first | assumption | exact hset_s | refine hget_n (by first | assumption | exact Ne.symm (by assumption) | exact nA ok (by omega) (by omega) (by omega)) ?_) (by rfl) ?_
  first | refine x_aload_n 0 dX6_takeCommand_4 rfl rfl ?_ | refine x_aload_nN 0 dX6_takeCommand_4 rfl rfl ?_
  refine x_get fX6_12 rfl dX6_takeCommand_5 (by with_reducible repeat first | assumption | exact hset_s | refine hget_n (by first | assumption | exact Ne.symm (by assumption) | exact nA ok (by omega) (by omega) (by omega)) ?_) (by rfl) ?_
  refine x_cV1 (As := []) (ct_J4_length_8abf5 (by with_reducible repeat first | assumption | exact hset_s | refine hget_n (by first | assumption | exact Ne.symm (by assumption) | exact nA ok (by omega) (by omega) (by omega)) ?_)) vX6_38 rfl (x_recv (by with_reducible repeat first | assumption | exact hset_s | refine hget_n (by first | assumption | exact Ne.symm (by assumption) | exact nA ok (by omega) (by omega) (by omega)) ?_) rfl) rfl ⟨ble rfl, ble rfl⟩ (ble rfl) dX6_takeCommand_8 rfl ?_
  refine x_icmp_ge 31 dX6_takeCommand_11 (by decide) (fun z => by first | exact absurd z (nI_ge hal (by omega)) | exact absurd (nI_ge hal (by omega)) z) (fun _ => ?_)
  first | refine x_aload_n 0 dX6_takeCommand_14 rfl rfl ?_ | refine x_aload_nN 0 dX6_takeCommand_14 rfl rfl ?_
  refine x_get fX6_12 rfl dX6_takeCommand_15 (by with_reducible repeat first | assumption | exact hset_s | refine hget_n (by first | assumption | exact Ne.symm (by assumption) | exact nA ok (by omega) (by omega) (by omega)) ?_) (by rfl) ?_
  first | refine x_aload_n 0 dX6_takeCommand_18 rfl rfl ?_ | refine x_aload_nN 0 dX6_takeCommand_18 rfl rfl ?_
  refine x_get fX6_35 rfl dX6_takeCommand_19 (by with_reducible repeat first | assumption | exact hset_s | refine hget_n (by first | assumption | exact Ne.symm (by assumption) | exact nA ok (by omega) (by omega) (by omega)) ?_) (by rfl) ?_
  refine x_cV1 (As := [.int _]) (ct_J4_charAt_5068e T hA hal) vX6_62 rfl (x_recv (by with_reducible repeat first | assumption | exact hset_s | refine hget_n (by first | assumption | exact Ne.symm (by assumption) | exact nA ok (by omega) (by omega) (by omega)) ?_) rfl) rfl ⟨ble rfl, ble rfl⟩ (ble rfl) dX6_takeCommand_22 rfl ?_
  refine x_cS1 (As := [.int _]) (ct_sw_in hv (hA a hal) he0) vX6_66 rfl rfl ⟨ble rfl, ble rfl⟩ (ble rfl) dX6_takeCommand_25 rfl ?_
  refine x_goto 32 dX6_takeCommand_28 (by decide) ?_
  first | refine x_astore_n (L' := [(2, _), (0, _), (1, _)]) dX6_takeCommand_32 rfl (ble rfl) rfl ?_ | refine x_astore_nN (L' := [(2, _), (0, _), (1, _)]) dX6_takeCommand_32 rfl (ble rfl) rfl ?_
  first | refine x_aload_n 0 dX6_takeCommand_33 rfl rfl ?_ | refine x_aload_nN 0 dX6_takeCommand_33 rfl rfl ?_
  refine x_ifnull 48 dX6_takeCommand_34 (by decide) ?_
  first | refine x_aload_n 1 dX6_takeCommand_37 rfl rfl ?_ | refine x_aload_nN 1 dX6_takeCommand_37 rfl rfl ?_
  first | refine x_aload_n 0 dX6_takeCommand_38 rfl rfl ?_ | refine x_aload_nN 0 dX6_takeCommand_38 rfl rfl ?_
  refine x_getO (zV_word (by assumption)) rfl oX6_70 dX6_takeCommand_39 ?_
  rw [show 23 + v = 20 + (3 + v) by omega]
  refine x_cV1 (As := [.ref _]) (ct_tw_y ok hs T hA h60 ha60 (by omega) (by omega) hw) vX6_74 rfl (x_recv (by with_reducible repeat first | assumption | exact hset_s | refine hget_n (by first | assumption | exact Ne.symm (by assumption) | exact nA ok (by omega) (by omega) (by omega)) ?_) rfl) rfl ⟨ble rfl, ble rfl⟩ (ble rfl) dX6_takeCommand_42 rfl ?_
  refine x_if_ne 50 dX6_takeCommand_45 (by decide) (fun _ => ?_) (fun z => by first | exact absurd (show ¬ (1 : Int32) = 0 by decide) z | exact absurd z (show ¬ (1 : Int32) = 0 by decide))
  have T1 := T.s9 ok (eSc G (nI cn) (nI (a + tsLen (3 + v))))
  first | refine x_aload_n 1 dX6_takeCommand_50 rfl rfl ?_ | refine x_aload_nN 1 dX6_takeCommand_50 rfl rfl ?_
  refine x_get fX6_20 rfl dX6_takeCommand_51 (by with_reducible repeat first | assumption | exact hset_s | refine hget_n (by first | assumption | exact Ne.symm (by assumption) | exact nA ok (by omega) (by omega) (by omega)) ?_) (by rfl) ?_
  refine x_iload_n 2 dX6_takeCommand_54 rfl rfl ?_
  first | refine x_aload_n 0 dX6_takeCommand_55 rfl rfl ?_ | refine x_aload_nN 0 dX6_takeCommand_55 rfl rfl ?_
  refine x_aastO 7 rfl dX6_takeCommand_56 (by with_reducible repeat first | assumption | exact hset_s | refine hget_n (by first | assumption | exact Ne.symm (by assumption) | exact nA ok (by omega) (by omega) (by omega)) ?_) (zV_obj hv) (List.mem_append_right _ (List.mem_of_getElem? (i := 24) (by decide +kernel))) (vp_in_nI (by omega) (by omega)) (aA ok (by omega)) ?_
  rw [nI_clamp (by omega)]
  have T2 := T1.out (eR G 7 10 (va_up vf ci (some (G.2.2.2 (3 + v))))) n10_11 hb11
  first | refine x_aload_n 1 dX6_takeCommand_57 rfl rfl ?_ | refine x_aload_nN 1 dX6_takeCommand_57 rfl rfl ?_
  refine x_get fX6_24 rfl dX6_takeCommand_58 (by with_reducible repeat first | assumption | exact hset_s | refine hget_n (by first | assumption | exact Ne.symm (by assumption) | exact nA ok (by omega) (by omega) (by omega)) ?_) (by rfl) ?_
  refine x_iload_n 2 dX6_takeCommand_61 rfl rfl ?_
  first | refine x_aload_n 1 dX6_takeCommand_62 rfl rfl ?_ | refine x_aload_nN 1 dX6_takeCommand_62 rfl rfl ?_
  refine x_iconst (v := 2) dX6_takeCommand_63 rfl ?_
  refine x_cV1 (As := [.int _]) (ct_tnum ok (by with_reducible repeat first | assumption | exact hset_s | refine hget_n (by first | assumption | exact Ne.symm (by assumption) | exact nA ok (by omega) (by omega) (by omega)) ?_) T2 hA h60 ha1 (md := 2) (by omega) D) vX6_78 rfl (x_recv (by with_reducible repeat first | assumption | exact hset_s | refine hget_n (by first | assumption | exact Ne.symm (by assumption) | exact nA ok (by omega) (by omega) (by omega)) ?_) rfl) rfl ⟨ble rfl, ble rfl⟩ (ble rfl) dX6_takeCommand_64 rfl ?_
  refine x_iastn dX6_takeCommand_67 (by with_reducible repeat first | assumption | exact hset_s | refine hget_n (by first | assumption | exact Ne.symm (by assumption) | exact nA ok (by omega) (by omega) (by omega)) ?_) (by omega) (by first | decide | omega) (by first | assumption | exact aA (by assumption) (by omega)) ?_
  first | refine x_aload_n 1 dX6_takeCommand_68 rfl rfl ?_ | refine x_aload_nN 1 dX6_takeCommand_68 rfl rfl ?_
  refine x_get fX6_28 rfl dX6_takeCommand_69 (by with_reducible repeat first | assumption | exact hset_s | refine hget_n (by first | assumption | exact Ne.symm (by assumption) | exact nA ok (by omega) (by omega) (by omega)) ?_) (by rfl) ?_
  refine x_iload_n 2 dX6_takeCommand_72 rfl rfl ?_
  refine x_iconst (v := 0) dX6_takeCommand_73 rfl ?_
  refine x_iastn dX6_takeCommand_74 (by with_reducible repeat first | assumption | exact hset_s | refine hget_n (by first | assumption | exact Ne.symm (by assumption) | exact nA ok (by omega) (by omega) (by omega)) ?_) (by omega) (by first | decide | omega) (by first | assumption | exact aA (by assumption) (by omega)) ?_
  first | refine x_aload_n 1 dX6_takeCommand_75 rfl rfl ?_ | refine x_aload_nN 1 dX6_takeCommand_75 rfl rfl ?_
  refine x_get fX6_24 rfl dX6_takeCommand_76 (by with_reducible repeat first | assumption | exact hset_s | refine hget_n (by first | assumption | exact Ne.symm (by assumption) | exact nA ok (by omega) (by omega) (by omega)) ?_) (by rfl) ?_
  refine x_iload_n 2 dX6_takeCommand_79 rfl rfl ?_
  refine x_ialdn dX6_takeCommand_80 (by with_reducible repeat first | assumption | exact hset_s | refine hget_n (by first | assumption | exact Ne.symm (by assumption) | exact nA ok (by omega) (by omega) (by omega)) ?_) (by omega) (by first | decide | omega) ?_
  rw [upd_eq rfl]
  refine x_if_lt 91 dX6_takeCommand_81 (by decide) (fun z => by first | exact absurd z (hf0) | exact absurd (hf0) z) (fun _ => ?_)
  first | refine x_aload_n 0 dX6_takeCommand_84 rfl rfl ?_ | refine x_aload_nN 0 dX6_takeCommand_84 rfl rfl ?_
  refine x_getO (zV_secondDigits (by assumption)) rfl oX6_82 dX6_takeCommand_85 ?_
  refine x_if_ne 106 dX6_takeCommand_88 (by decide) (fun _ => ?_) (fun z => by first | exact absurd (hvn) z | exact absurd z (hvn))
  have T3 := (T2.s9 ok (eSc G (nI cn) (nI (a + tsLen (3 + v) + n)))).out (eI G 10 (upd ff ci (nvI tx (a + tsLen (3 + v)) n))) n10_12 hb12
  have T4 := T3.out (eI G 10 (upd sf ci 0)) n10_13 hb13
  first | refine x_aload_n 1 dX6_takeCommand_106 rfl rfl ?_ | refine x_aload_nN 1 dX6_takeCommand_106 rfl rfl ?_
  refine x_bipush (v := 32) dX6_takeCommand_107 rfl ?_
  refine x_cV1 (As := [.int _]) (ct_take_y ok (by with_reducible repeat first | assumption | exact hset_s | refine hget_n (by first | assumption | exact Ne.symm (by assumption) | exact nA ok (by omega) (by omega) (by omega)) ?_) T4 hA h60 ha2 hb32) vX6_58 rfl (x_recv (by with_reducible repeat first | assumption | exact hset_s | refine hget_n (by first | assumption | exact Ne.symm (by assumption) | exact nA ok (by omega) (by omega) (by omega)) ?_) rfl) rfl ⟨ble rfl, ble rfl⟩ (ble rfl) dX6_takeCommand_109 rfl ?_
  refine x_if_ne 117 dX6_takeCommand_112 (by decide) (fun _ => ?_) (fun z => by first | exact absurd (show ¬ (1 : Int32) = 0 by decide) z | exact absurd z (show ¬ (1 : Int32) = 0 by decide))
  first | refine x_aload_n 1 dX6_takeCommand_117 rfl rfl ?_ | refine x_aload_nN 1 dX6_takeCommand_117 rfl rfl ?_
  refine x_get fX6_28 rfl dX6_takeCommand_118 (by with_reducible repeat first | assumption | exact hset_s | refine hget_n (by first | assumption | exact Ne.symm (by assumption) | exact nA ok (by omega) (by omega) (by omega)) ?_) (by rfl) ?_
  refine x_iload_n 2 dX6_takeCommand_121 rfl rfl ?_
  first | refine x_aload_n 1 dX6_takeCommand_122 rfl rfl ?_ | refine x_aload_nN 1 dX6_takeCommand_122 rfl rfl ?_
  first | refine x_aload_n 0 dX6_takeCommand_123 rfl rfl ?_ | refine x_aload_nN 0 dX6_takeCommand_123 rfl rfl ?_
  refine x_getO (zV_secondDigits (by assumption)) rfl oX6_82 dX6_takeCommand_124 ?_
  have T5 := T4.s9 ok (eSc G (nI cn) (nI (a + tsLen (3 + v) + n + 1)))
  rw [hvd]
  refine x_cV1 (As := [.int _]) (ct_tnum ok (by with_reducible repeat first | assumption | exact hset_s | refine hget_n (by first | assumption | exact Ne.symm (by assumption) | exact nA ok (by omega) (by omega) (by omega)) ?_) T5 hA h60 (by omega) hmd2 D2) vX6_78 rfl (x_recv (by with_reducible repeat first | assumption | exact hset_s | refine hget_n (by first | assumption | exact Ne.symm (by assumption) | exact nA ok (by omega) (by omega) (by omega)) ?_) rfl) rfl ⟨ble rfl, ble rfl⟩ (ble rfl) dX6_takeCommand_127 rfl ?_
  refine x_iastn dX6_takeCommand_130 (by with_reducible repeat first | assumption | exact hset_s | refine hget_n (by first | assumption | exact Ne.symm (by assumption) | exact nA ok (by omega) (by omega) (by omega)) ?_) (by omega) (by first | decide | omega) (by first | assumption | exact aA (by assumption) (by omega)) ?_
  first | refine x_aload_n 1 dX6_takeCommand_131 rfl rfl ?_ | refine x_aload_nN 1 dX6_takeCommand_131 rfl rfl ?_
  refine x_get fX6_28 rfl dX6_takeCommand_132 (by with_reducible repeat first | assumption | exact hset_s | refine hget_n (by first | assumption | exact Ne.symm (by assumption) | exact nA ok (by omega) (by omega) (by omega)) ?_) (by rfl) ?_
  refine x_iload_n 2 dX6_takeCommand_135 rfl rfl ?_
  refine x_ialdn dX6_takeCommand_136 (by with_reducible repeat first | assumption | exact hset_s | refine hget_n (by first | assumption | exact Ne.symm (by assumption) | exact nA ok (by omega) (by omega) (by omega)) ?_) (by omega) (by first | decide | omega) ?_
  rw [upd_eq rfl]
  refine x_if_lt 144 dX6_takeCommand_137 (by decide) (fun z => by first | exact absurd z (hs0) | exact absurd (hs0) z) (fun _ => ?_)
  refine x_iconst (v := 1) dX6_takeCommand_140 rfl ?_
  refine x_goto 145 dX6_takeCommand_141 (by decide) ?_
  refine x_zret rfl (by first | rfl | (split <;> rfl) | (unfold b2i; split <;> rfl)) dX6_takeCommand_145 ?_
  refine ⟨rfl, _, _, _, by with_reducible repeat first | assumption | exact hset_s | refine hget_n (by first | assumption | exact Ne.symm (by assumption) | exact nA ok (by omega) (by omega) (by omega)) ?_, by with_reducible repeat first | assumption | exact hset_s | refine hget_n (by first | assumption | exact Ne.symm (by assumption) | exact nA ok (by omega) (by omega) (by omega)) ?_, by with_reducible repeat first | assumption | exact hset_s | refine hget_n (by first | assumption | exact Ne.symm (by assumption) | exact nA ok (by omega) (by omega) (by omega)) ?_, by with_reducible repeat first | assumption | exact hset_s | refine hget_n (by first | assumption | exact Ne.symm (by assumption) | exact nA ok (by omega) (by omega) (by omega)) ?_, ?_, ?_, ?_⟩
  · unfold TcF; repeat first | exact Fr.rf | refine Fr.st ?_ (by first | exact Or.inl rfl | exact Or.inr (Or.inl rfl) | exact Or.inr (Or.inr (Or.inl rfl)) | exact Or.inr (Or.inr (Or.inr rfl)))
  · intro q hq; refine ⟨?_, ?_, ?_⟩ <;> first | rfl | (simp only [va_up, upd, if_neg (show ¬ q = ci by omega)]; done)
  · refine ⟨?_, ?_, ?_⟩ <;> simp [va_up, upd]
