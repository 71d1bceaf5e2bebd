set_option maxRecDepth 100000 in
set_option maxHeartbeats 1000000 in
theorem ct_carryOut_y {l : Launch} {G : Gl} {h : Hp} (ok : Ok G) {isv flt : Int32} (hst0 : h (Ad G 0) = some (eSt G isv flt)) (hm0 : h (Ad G 1) = some (.inr (9, [.ref (Ad G 1000), .ref (Ad G 2)]))) {C0 : CmL} {att : Int32} {vf : Nat → Option Nat} {ff sf : Nat → Int32} (hs0 : h (Ad G 9) = some (eSc G (nI C0.length) att)) (h110 : h (Ad G 11) = some (eR G 7 10 vf)) (h120 : h (Ad G 12) = some (eI G 10 ff)) (h130 : h (Ad G 13) = some (eI G 10 sf)) {c : Nat} {f d : Nat → Int32} (R0 : RsW G h c f d) (h10 : C0.length ≤ 10) (En : ∀ q, q < C0.length → ∀ c, C0[q]? = some c → vf q = some (G.2.2.2 (3 + c.1)) ∧ ff q = c.2.1 ∧ sf q = c.2.2) {N : Nat → Int32} {ns np no : Nat} (H : ShW G h 1000 N ns np no) {N' : Nat → Int32} (hr : RunY N C0 N') : Ct l G mX11_carryOut 12 (0) (0) [.ref (Ad G 0)] h (fun w h' => w = some (.int (nI C0.length)) ∧ (∃ ns np no, ShW G h' 1000 N' ns np no) ∧ Fr (inB G 1000 60) h h') := by
  refine Ct.of (L := [(0, _)]) (by decide) (ble rfl) rfl ?_
  refine x_iconst (v := 0) dX11_carryOut_0 rfl ?_
  refine x_istore_n (L' := [(1, _), (0, _)]) dX11_carryOut_1 rfl (ble rfl) rfl ?_
  refine x_locs (L' := [(1, _), (0, _)]) [0, 1] rfl ?_
  exact xr_y ok hst0 hm0 hs0 h110 h120 h130 R0 h10 En (fun h' ns np no H' F => ⟨rfl, ⟨ns, np, no, H'⟩, F⟩) C0 0 N ns np no h (Nat.zero_le _) rfl hr H Fr.rf
set_option maxRecDepth 100000 in
set_option maxHeartbeats 1000000 in
theorem ct_carryOut_n {l : Launch} {G : Gl} {h : Hp} (ok : Ok G) {isv flt : Int32} (hst0 : h (Ad G 0) = some (eSt G isv flt)) (hm0 : h (Ad G 1) = some (.inr (9, [.ref (Ad G 1000), .ref (Ad G 2)]))) {C0 : CmL} {att : Int32} {vf : Nat → Option Nat} {ff sf : Nat → Int32} (hs0 : h (Ad G 9) = some (eSc G (nI C0.length) att)) (h110 : h (Ad G 11) = some (eR G 7 10 vf)) (h120 : h (Ad G 12) = some (eI G 10 ff)) (h130 : h (Ad G 13) = some (eI G 10 sf)) {c : Nat} {f d : Nat → Int32} (R0 : RsW G h c f d) (h10 : C0.length ≤ 10) (En : ∀ q, q < C0.length → ∀ c, C0[q]? = some c → vf q = some (G.2.2.2 (3 + c.1)) ∧ ff q = c.2.1 ∧ sf q = c.2.2) {M : Nat → Int32} {nx cn ms mp mo : Nat} (HH0 : HiW G h nx cn) (hnx : nx < 9) (HR0 : ShW G h (100 * (nx + 1)) M ms mp mo) {N : Nat → Int32} {ns np no : Nat} (H : ShW G h 1000 N ns np no) {o : Out} (hn3 : ∀ z, o = .inl z → ¬ z = -3) {K0 : Nat} (hr : RunN o N C0 K0) : Ct l G mX11_carryOut 12 (0) (0) [.ref (Ad G 0)] h (fun w h' => w = some (.int (-3)) ∧ ShW G h' 1000 M ms mp mo ∧ Fr (fun a => inB G 1000 60 a ∨ inB G 2 3 a) h h' ∧ ∃ c' f' d', RsW G h' c' f' d' ∧ f' 0 = 14 ∧ d' 0 = nI K0 ∧ RsO o c' f' d') := by
  refine Ct.of (L := [(0, _)]) (by decide) (ble rfl) rfl ?_
  refine x_iconst (v := 0) dX11_carryOut_0 rfl ?_
  refine x_istore_n (L' := [(1, _), (0, _)]) dX11_carryOut_1 rfl (ble rfl) rfl ?_
  refine x_locs (L' := [(1, _), (0, _)]) [0, 1] rfl ?_
  exact xr_n ok hst0 hm0 hs0 h110 h120 h130 R0 h10 En HH0 hnx HR0 hn3 (fun h' c' f' d' H' F R' e1 e2 e3 => ⟨rfl, H', F, c', f', d', R', e1, e2, e3⟩) K0 C0 0 N ns np no h (Nat.zero_add _) rfl hr H Fr.rf
