set_option maxRecDepth 100000 in
set_option maxHeartbeats 1000000 in
theorem xr_n {l : Launch} {G : Gl} {h0 : Hp} (ok : Ok G) {isv flt : Int32} (hst0 : h0 (Ad G 0) = some (eSt G isv flt)) (hm0 : h0 (Ad G 1) = some (.inr (9, [.ref (Ad G 1000), .ref (Ad G 2)]))) {C0 : CmL} {att : Int32} {vf : Nat → Option Nat} {ff sf : Nat → Int32} (hs0 : h0 (Ad G 9) = some (eSc G (nI C0.length) att)) (h110 : h0 (Ad G 11) = some (eR G 7 10 vf)) (h120 : h0 (Ad G 12) = some (eI G 10 ff)) (h130 : h0 (Ad G 13) = some (eI G 10 sf)) {c : Nat} {f d : Nat → Int32} (R0 : RsW G h0 c f d) (h10 : C0.length ≤ 10) (En : ∀ q, q < C0.length → ∀ c, C0[q]? = some c → vf q = some (G.2.2.2 (3 + c.1)) ∧ ff q = c.2.1 ∧ sf q = c.2.2) {M : Nat → Int32} {nx cn ms mp mo : Nat} (HH0 : HiW G h0 nx cn) (hnx : nx < 9) (HR0 : ShW G h0 (100 * (nx + 1)) M ms mp mo) {o : Out} (hn3 : ∀ z, o = .inl z → ¬ z = -3) {K0 : Nat} {Q : Option Value → Hp → Prop} (hQ : ∀ h' c' f' d', ShW G h' 1000 M ms mp mo → Fr (fun a => inB G 1000 60 a ∨ inB G 2 3 a) h0 h' → RsW G h' c' f' d' → f' 0 = 14 → d' 0 = nI K0 → RsO o c' f' d' → Q (some (.int (-3))) h') : ∀ (j : Nat) (cs : CmL) (ci : Nat) (N : Nat → Int32) (ns np no : Nat) (h : Hp), ci + j = K0 → C0.drop ci = cs → RunN o N cs j → ShW G h 1000 N ns np no → Fr (inB G 1000 60) h0 h → XX l G mX11_carryOut (Rm 12 0 0) (KQ G (Rm 12 0 0) Q) 0 0 2 [(1, .int (nI ci)), (0, .ref (Ad G 0))] [] h
  | _, [], ci, N, ns, np, no, h, hci, hd, hr, H, F0 => by cases hr
  | 0, q :: r, ci, N, ns, np, no, h, hci, hd, ⟨hv, ns2, np2, no2, A, hp, hok, hno⟩, H, F0 => by
    have hlt : ci < C0.length := by have e := congrArg List.length hd; rw [List.length_drop] at e; simp only [List.length_cons] at e; omega
    have hget : C0[ci]? = some q := by have e := congrArg (fun z => z[0]?) hd; simpa using e
    have hd2 : C0.drop (ci + 1) = r := by rw [← List.tail_drop, hd]; rfl
    have en := En ci hlt q hget
    have AP : ∀ i, i < np → PotI N i := by
      have e : np = np2 := by
        have e1 := ShW_np H
        have e2 := A.2.1
        exact (nI_eq (by omega) (by have := A.2.2.2.2.1; omega)).mp (e1.1.symm.trans e2)
      rw [e]
      exact A.2.2.2.2.2.2.1
    have hst := F0 _ _ hst0 (nB ok (by omega) (by omega) (by omega))
    have hm := F0 _ _ hm0 (nB ok (by omega) (by omega) (by omega))
    have hs := F0 _ _ hs0 (nB ok (by omega) (by omega) (by omega))
    have h11 := F0 _ _ h110 (nB ok (by omega) (by omega) (by omega))
    have h12 := F0 _ _ h120 (nB ok (by omega) (by omega) (by omega))
    have h13 := F0 _ _ h130 (nB ok (by omega) (by omega) (by omega))
    have R : RsW G h c f d := ⟨F0 _ _ R0.1 (nB ok (by omega) (by omega) (by omega)), F0 _ _ R0.2.1 (nB ok (by omega) (by omega) (by omega)), F0 _ _ R0.2.2 (nB ok (by omega) (by omega) (by omega))⟩
    obtain rfl : ci = K0 := by omega
    have HH : HiW G h nx cn := ⟨F0 _ _ HH0.1 (nB ok (by omega) (by omega) (by omega)), F0 _ _ HH0.2 (nB ok (by omega) (by omega) (by omega))⟩
    have HR := HR0.fr F0 (fun i hi => (nB ok (by omega) (by omega) (by omega)))
    refine x_iload_n 0 dX11_carryOut_2 rfl rfl ?_
    first | refine x_aload_n 1 dX11_carryOut_3 rfl rfl ?_ | refine x_aload_nN 1 dX11_carryOut_3 rfl rfl ?_
    refine x_get fX11_49 rfl dX11_carryOut_4 (by with_reducible repeat first | assumption | exact hset_s | refine hget_n (by first | assumption | exact Ne.symm (by assumption) | exact nA ok (by omega) (by omega) (by omega)) ?_) (by rfl) ?_
    refine x_cV1 (As := []) (ct_scSize hs) vX11_306 rfl (x_recv (by with_reducible repeat first | assumption | exact hset_s | refine hget_n (by first | assumption | exact Ne.symm (by assumption) | exact nA ok (by omega) (by omega) (by omega)) ?_) rfl) rfl ⟨ble rfl, ble rfl⟩ (ble rfl) dX11_carryOut_7 rfl ?_
    refine x_icmp_ge 54 dX11_carryOut_10 (by decide) (fun z => by first | exact absurd z (nI_ge hlt (by omega)) | exact absurd (nI_ge hlt (by omega)) z) (fun _ => ?_)
    first | refine x_aload_n 1 dX11_carryOut_13 rfl rfl ?_ | refine x_aload_nN 1 dX11_carryOut_13 rfl rfl ?_
    refine x_get fX11_10 rfl dX11_carryOut_14 (by with_reducible repeat first | assumption | exact hset_s | refine hget_n (by first | assumption | exact Ne.symm (by assumption) | exact nA ok (by omega) (by omega) (by omega)) ?_) (by rfl) ?_
    first | refine x_aload_n 1 dX11_carryOut_17 rfl rfl ?_ | refine x_aload_nN 1 dX11_carryOut_17 rfl rfl ?_
    refine x_get fX11_49 rfl dX11_carryOut_18 (by with_reducible repeat first | assumption | exact hset_s | refine hget_n (by first | assumption | exact Ne.symm (by assumption) | exact nA ok (by omega) (by omega) (by omega)) ?_) (by rfl) ?_
    refine x_iload_n 0 dX11_carryOut_21 rfl rfl ?_
    refine x_callW (mc1 := 0) (ms1 := 0) (As := [.ref _, .int _]) (ct_perform ok H R hm hs h11 h12 h13 hlt h10 (q := q) hv en.1 en.2.1 (fun _ => en.2.2) AP) vX11_307 rfl (x_recv hm rfl) rfl ⟨ble rfl, ble rfl⟩ (ble rfl) dX11_carryOut_22 rfl ⟨by omega, by omega⟩ (fun w h1 q1 => ?_)
    obtain ⟨rfl, S1⟩ := q1
    rw [hp] at S1
    rw [hp]
    rcases o with z | (⟨w, dd, b, i⟩ | z)
    · subst S1
      refine x_istore_n (L' := [(2, _), (1, _), (0, _)]) dX11_carryOut_25 rfl (ble rfl) rfl ?_
      refine x_iload_n 0 dX11_carryOut_26 rfl rfl ?_
      refine x_if_ge 48 dX11_carryOut_27 (by decide) (fun z => by first | exact absurd z (Int32.not_le.mpr hok) | exact absurd (Int32.not_le.mpr hok) z) (fun _ => ?_)
      refine x_locs (L' := [(2, _), (1, _), (0, _)]) [0, 1, 2] rfl ?_
      exact xr_to ok HH hnx HR hst H R (hn3 z rfl) (fun h2 h' f' d' H2 F2 F3 R3 e1 e2 => hQ h' 1 f' d' (H2.fr F3 (fun i hi => (nB ok (by omega) (by omega) (by omega)))) ((F0.tr F2 (fun _ z => z) (fun _ z => z)).tr F3 (fun _ z => Or.inl z) (fun _ z => Or.inr z)) R3 e1 e2 rfl)
    · obtain ⟨⟨f1, d1, b0, b1, w0, d0⟩, FF⟩ := S1
      have H1 := H.fr FF (fun i hi => (nB ok (by omega) (by omega) (by omega)))
      have HR1 := HR.fr FF (fun i hi => (nB ok (by omega) (by omega) (by omega)))
      have HH1 : HiW G h1 nx cn := ⟨FF _ _ HH.1 (nB ok (by omega) (by omega) (by omega)), FF _ _ HH.2 (nB ok (by omega) (by omega) (by omega))⟩
      have hst1 := FF _ _ hst (nB ok (by omega) (by omega) (by omega))
      refine x_istore_n (L' := [(2, _), (1, _), (0, _)]) dX11_carryOut_25 rfl (ble rfl) rfl ?_
      refine x_iload_n 0 dX11_carryOut_26 rfl rfl ?_
      refine x_if_ge 48 dX11_carryOut_27 (by decide) (fun z => by first | exact absurd z (show ¬ (0 : Int32) ≤ -3 by decide) | exact absurd (show ¬ (0 : Int32) ≤ -3 by decide) z) (fun _ => ?_)
      refine x_locs (L' := [(2, _), (1, _), (0, _)]) [0, 1, 2] rfl ?_
      by_cases hb : b = 0
      · exact xr_t3 ok HH1 hnx HR1 hst1 H1 (b0 hb) (by omega) rfl (fun h2 h2b f' d' H2 F2 F3 R3 e1 e2 e3 => hQ h2b 2 f' d' (H2.fr F3 (fun i hi => (nB ok (by omega) (by omega) (by omega)))) ((F0.tr FF (fun _ z => Or.inl z) (fun _ z => Or.inr z)).tr ((F2.tr F3 (fun _ z => Or.inl z) (fun _ z => Or.inr z)) : Fr (fun a => inB G 1000 60 a ∨ inB G 2 3 a) h1 h2b) (fun _ z => z) (fun _ z => z)) R3 e1 e2 ⟨(e3 0 (by omega)).1.trans w0, (e3 0 (by omega)).2.trans d0, fun _ => rfl, fun z => absurd hb z⟩)
      · exact xr_t3 ok HH1 hnx HR1 hst1 H1 (b1 hb).1 (by omega) rfl (fun h2 h2b f' d' H2 F2 F3 R3 e1 e2 e3 => hQ h2b 3 f' d' (H2.fr F3 (fun i hi => (nB ok (by omega) (by omega) (by omega)))) ((F0.tr FF (fun _ z => Or.inl z) (fun _ z => Or.inr z)).tr ((F2.tr F3 (fun _ z => Or.inl z) (fun _ z => Or.inr z)) : Fr (fun a => inB G 1000 60 a ∨ inB G 2 3 a) h1 h2b) (fun _ z => z) (fun _ z => z)) R3 e1 e2 ⟨(e3 0 (by omega)).1.trans w0, (e3 0 (by omega)).2.trans d0, fun z => absurd z hb, fun _ => ⟨rfl, (e3 1 (by omega)).1.trans (b1 hb).2.1, (e3 1 (by omega)).2.trans (b1 hb).2.2⟩⟩)
    · exact absurd rfl (hno z)
  | j + 1, q :: r, ci, N, ns, np, no, h, hci, hd, ⟨hv, ns2, np2, no2, v, N1, A, hp, hv0, hr⟩, H, F0 => by
    have hlt : ci < C0.length := by have e := congrArg List.length hd; rw [List.length_drop] at e; simp only [List.length_cons] at e; omega
    have hget : C0[ci]? = some q := by have e := congrArg (fun z => z[0]?) hd; simpa using e
    have hd2 : C0.drop (ci + 1) = r := by rw [← List.tail_drop, hd]; rfl
    have en := En ci hlt q hget
    have AP : ∀ i, i < np → PotI N i := by
      have e : np = np2 := by
        have e1 := ShW_np H
        have e2 := A.2.1
        exact (nI_eq (by omega) (by have := A.2.2.2.2.1; omega)).mp (e1.1.symm.trans e2)
      rw [e]
      exact A.2.2.2.2.2.2.1
    have hst := F0 _ _ hst0 (nB ok (by omega) (by omega) (by omega))
    have hm := F0 _ _ hm0 (nB ok (by omega) (by omega) (by omega))
    have hs := F0 _ _ hs0 (nB ok (by omega) (by omega) (by omega))
    have h11 := F0 _ _ h110 (nB ok (by omega) (by omega) (by omega))
    have h12 := F0 _ _ h120 (nB ok (by omega) (by omega) (by omega))
    have h13 := F0 _ _ h130 (nB ok (by omega) (by omega) (by omega))
    have R : RsW G h c f d := ⟨F0 _ _ R0.1 (nB ok (by omega) (by omega) (by omega)), F0 _ _ R0.2.1 (nB ok (by omega) (by omega) (by omega)), F0 _ _ R0.2.2 (nB ok (by omega) (by omega) (by omega))⟩
    refine x_iload_n 0 dX11_carryOut_2 rfl rfl ?_
    first | refine x_aload_n 1 dX11_carryOut_3 rfl rfl ?_ | refine x_aload_nN 1 dX11_carryOut_3 rfl rfl ?_
    refine x_get fX11_49 rfl dX11_carryOut_4 (by with_reducible repeat first | assumption | exact hset_s | refine hget_n (by first | assumption | exact Ne.symm (by assumption) | exact nA ok (by omega) (by omega) (by omega)) ?_) (by rfl) ?_
    refine x_cV1 (As := []) (ct_scSize hs) vX11_306 rfl (x_recv (by with_reducible repeat first | assumption | exact hset_s | refine hget_n (by first | assumption | exact Ne.symm (by assumption) | exact nA ok (by omega) (by omega) (by omega)) ?_) rfl) rfl ⟨ble rfl, ble rfl⟩ (ble rfl) dX11_carryOut_7 rfl ?_
    refine x_icmp_ge 54 dX11_carryOut_10 (by decide) (fun z => by first | exact absurd z (nI_ge hlt (by omega)) | exact absurd (nI_ge hlt (by omega)) z) (fun _ => ?_)
    first | refine x_aload_n 1 dX11_carryOut_13 rfl rfl ?_ | refine x_aload_nN 1 dX11_carryOut_13 rfl rfl ?_
    refine x_get fX11_10 rfl dX11_carryOut_14 (by with_reducible repeat first | assumption | exact hset_s | refine hget_n (by first | assumption | exact Ne.symm (by assumption) | exact nA ok (by omega) (by omega) (by omega)) ?_) (by rfl) ?_
    first | refine x_aload_n 1 dX11_carryOut_17 rfl rfl ?_ | refine x_aload_nN 1 dX11_carryOut_17 rfl rfl ?_
    refine x_get fX11_49 rfl dX11_carryOut_18 (by with_reducible repeat first | assumption | exact hset_s | refine hget_n (by first | assumption | exact Ne.symm (by assumption) | exact nA ok (by omega) (by omega) (by omega)) ?_) (by rfl) ?_
    refine x_iload_n 0 dX11_carryOut_21 rfl rfl ?_
    refine x_callW (mc1 := 0) (ms1 := 0) (As := [.ref _, .int _]) (ct_perform ok H R hm hs h11 h12 h13 hlt h10 (q := q) hv en.1 en.2.1 (fun _ => en.2.2) AP) vX11_307 rfl (x_recv hm rfl) rfl ⟨ble rfl, ble rfl⟩ (ble rfl) dX11_carryOut_22 rfl ⟨by omega, by omega⟩ (fun w h1 q1 => ?_)
    obtain ⟨rfl, S1⟩ := q1
    rw [hp] at S1
    obtain ⟨⟨ns1, np1, no1, H1⟩, F1⟩ := S1
    rw [hp, show ansC (.inr (.inr (v, N1))) = v from rfl]
    refine x_istore_n (L' := [(2, _), (1, _), (0, _)]) dX11_carryOut_25 rfl (ble rfl) rfl ?_
    refine x_iload_n 0 dX11_carryOut_26 rfl rfl ?_
    refine x_if_ge 48 dX11_carryOut_27 (by decide) (fun _ => ?_) (fun z => by first | exact absurd (hv0) z | exact absurd z (hv0))
    refine x_iinc (L' := [(1, _), (2, _), (0, _)]) (j := 1) (_ + 1) dX11_carryOut_48 rfl rfl (ble rfl) rfl ?_
    refine x_goto 2 dX11_carryOut_51 (by decide) ?_
    refine x_locs (L' := [(1, _), (0, _)]) [0, 2] rfl ?_
    rw [nI_1]
    exact xr_n ok hst0 hm0 hs0 h110 h120 h130 R0 h10 En HH0 hnx HR0 hn3 hQ j r (ci + 1) N1 ns1 np1 no1 _ (by omega) hd2 hr H1 (F0.tr F1 (fun _ z => z) (fun _ z => z))
