theorem ct_wrapC {l : Launch} {G : Gl} {h : Hp} (ok : Ok G) {c : Nat} (hc : c ≤ 2) {f d : Nat → Int32} (R : RsW G h c f d) (x y : Int32) : CtP l G mX5_wrap 1 (0) (0) [.ref (Ad G 2), .int x, .int y] h (some (.int (-3))) (fun h' => ∃ f' d', RsW G h' (c + 1) f' d' ∧ f' 0 = x ∧ d' 0 = y ∧ (∀ i, i < c → f' (i + 1) = f i ∧ d' (i + 1) = d i) ∧ Fr (inB G 2 3) h h') := by
  rcases (show c = 0 ∨ c = 1 ∨ c = 2 by omega) with rfl | rfl | rfl
  · exact ct_X5_wrap_0 ok R x y
  · exact ct_X5_wrap_1 ok R x y
  · exact ct_X5_wrap_2 ok R x y
set_option maxRecDepth 100000 in
set_option maxHeartbeats 1000000 in
theorem ct_refuseText_3 {l : Launch} {G : Gl} {h : Hp} {isv flt : Int32} (ok : Ok G) (hst : h (Ad G 0) = some (eSt G isv flt)) {c : Nat} {f d : Nat → Int32} (R : RsW G h c f d) (k : Int32) (hc : c ≤ 2) : Ct l G mX11_refuseText 8 (0) (0) [.ref (Ad G 0), .int k, .int (-3)] h (fun w h' => w = some (.int (-3)) ∧ ∃ f' d', RsW G h' (c + 1) f' d' ∧ f' 0 = 14 ∧ d' 0 = k ∧ (∀ i, i < c → f' (i + 1) = f i ∧ d' (i + 1) = d i) ∧ Fr (inB G 2 3) h h') := by
  have hR := R.1
  refine Ct.of (L := [(0, _), (1, _), (2, _)]) (by decide) (ble rfl) rfl ?_
  refine x_iload_n 2 dX11_refuseText_0 rfl rfl ?_
  refine x_bipush (v := -3) dX11_refuseText_1 rfl ?_
  refine x_icmp_ne 17 dX11_refuseText_3 (by decide) (fun z => by first | exact absurd z (fun z => z rfl) | exact absurd (fun z => z rfl) z) (fun _ => ?_)
  first | refine x_aload_n 0 dX11_refuseText_6 rfl rfl ?_ | refine x_aload_nN 0 dX11_refuseText_6 rfl rfl ?_
  refine x_get fX11_25 rfl dX11_refuseText_7 (by with_reducible repeat first | assumption | exact hset_s | refine hget_n (by first | assumption | exact Ne.symm (by assumption) | exact nA ok (by omega) (by omega) (by omega)) ?_) (by rfl) ?_
  refine x_bipush (v := 14) dX11_refuseText_10 rfl ?_
  refine x_iload_n 1 dX11_refuseText_12 rfl rfl ?_
  refine x_pV1 (mc1 := 0) (ms1 := 0) (As := [.int _, .int _]) (ct_wrapC ok hc R _ _) vX11_317 rfl (x_recv (by with_reducible repeat first | assumption | exact hset_s | refine hget_n (by first | assumption | exact Ne.symm (by assumption) | exact nA ok (by omega) (by omega) (by omega)) ?_) rfl) rfl ⟨ble rfl, ble rfl⟩ (ble rfl) dX11_refuseText_13 rfl ⟨by omega, by omega⟩ (fun h13 q13 => ?_)
  refine x_iret rfl dX11_refuseText_16 ?_
  exact ⟨rfl, q13⟩
set_option maxRecDepth 100000 in
set_option maxHeartbeats 1000000 in
theorem ct_refuseText_o {l : Launch} {G : Gl} {h : Hp} {isv flt : Int32} (ok : Ok G) (hst : h (Ad G 0) = some (eSt G isv flt)) {c : Nat} {f d : Nat → Int32} (R : RsW G h c f d) (k : Int32) {o : Int32} (ho : ¬ o = -3) : Ct l G mX11_refuseText 8 (0) (0) [.ref (Ad G 0), .int k, .int o] h (fun w h' => w = some (.int (-3)) ∧ ∃ f' d', RsW G h' 1 f' d' ∧ f' 0 = 14 ∧ d' 0 = k ∧ Fr (inB G 2 3) h h') := by
  have hR := R.1
  refine Ct.of (L := [(0, _), (1, _), (2, _)]) (by decide) (ble rfl) rfl ?_
  refine x_iload_n 2 dX11_refuseText_0 rfl rfl ?_
  refine x_bipush (v := -3) dX11_refuseText_1 rfl ?_
  refine x_icmp_ne 17 dX11_refuseText_3 (by decide) (fun _ => ?_) (fun z => by first | exact absurd (ho) z | exact absurd z (ho))
  first | refine x_aload_n 0 dX11_refuseText_17 rfl rfl ?_ | refine x_aload_nN 0 dX11_refuseText_17 rfl rfl ?_
  refine x_get fX11_25 rfl dX11_refuseText_18 (by with_reducible repeat first | assumption | exact hset_s | refine hget_n (by first | assumption | exact Ne.symm (by assumption) | exact nA ok (by omega) (by omega) (by omega)) ?_) (by rfl) ?_
  refine x_bipush (v := 14) dX11_refuseText_21 rfl ?_
  refine x_iload_n 1 dX11_refuseText_23 rfl rfl ?_
  refine x_pV1 (mc1 := 0) (ms1 := 0) (As := [.int _, .int _]) (ct_X5_refuse ok R _ _) vX11_320 rfl (x_recv (by with_reducible repeat first | assumption | exact hset_s | refine hget_n (by first | assumption | exact Ne.symm (by assumption) | exact nA ok (by omega) (by omega) (by omega)) ?_) rfl) rfl ⟨ble rfl, ble rfl⟩ (ble rfl) dX11_refuseText_24 rfl ⟨by omega, by omega⟩ (fun h24 q24 => ?_)
  refine x_iret rfl dX11_refuseText_27 ?_
  exact ⟨rfl, q24⟩
