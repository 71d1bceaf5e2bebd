/-! ===== contracts whose heap is told by what it holds ===== -/
def CtP (l : Launch) (G : Gl) (M : MM) (d mc ms : Nat) (args : List Value) (h : Hp) (v : Option Value) (P : Hp → Prop) : Prop := Ct l G M d mc ms args h (fun w h' => w = v ∧ P h')
theorem CtP.mo {l : Launch} {G : Gl} {M : MM} {d mc ms : Nat} {args : List Value} {h : Hp} {v v' : Option Value} {P P' : Hp → Prop} (k : CtP l G M d mc ms args h v P) (e : v = v') (hP : ∀ h', P h' → P' h') : CtP l G M d mc ms args h v' P' := Ct.mono k (fun w h' q => ⟨q.1.trans e, hP h' q.2⟩)
theorem CtR.p {l : Launch} {G : Gl} {M : MM} {d : Nat} {args : List Value} {h h2 : Hp} {v : Option Value} {P : Hp → Prop} (k : CtR l G M d args h v h2) (hP : P h2) : CtP l G M d 0 0 args h v P := Ct.mono k (fun w h' q => ⟨q.1, by rw [q.2]; exact hP⟩)
section CALC5
variable {l : Launch} {G : Gl} {M : MM} {rm : Room} {K : List Frame → Array Value → State → State → Prop} {Q : Option Value → Hp → Prop} {mc ms pc : Nat} {L L' : List (Nat × Value)} {st : List Value} {h : Hp}
variable {own host : String} {M' : MM} {index n d' b mc' ms' mc1 ms1 : Nat} {As st0 : List Value} {v : Value} {P : Hp → Prop}
theorem x_pV1 (hct : CtP l G M' d' mc' ms' (.ref b :: As) h (some v) P) (cw : CWV own index n M') (hown : M.1.cls = own) (hrecv : ∀ (s : State) (H : Heap) (locs : List Loc), Sta G s → Rep G h H → va_S G.2.2.1 s.heap H locs → ∃ cell : Cell, H[b]? = some cell ∧ cell.vm.isStatics = false ∧ s.vm.findClass M'.1.cls = some cell.cls) (hn : As.length = n) (hR : d' + 1 ≤ rm.frames ∧ 8 + (M'.2.2.1 + 11) + 38 * d' ≤ rm.locals) (hW : (st.map fun v => v.category).sum ≤ 8) (hd : decode M.2.1 pc = .ok (.invokevirtual index, 3)) (hst : st0 = As.reverse ++ .ref b :: st) (hb : mc' + mc1 ≤ mc ∧ ms' + ms1 ≤ ms) (kk : ∀ h', P h' → XX l G M rm K mc1 ms1 (pc + 3) L (v :: st) h') : XX l G M rm K mc ms pc L st0 h :=
  x_callW hct cw hown hrecv hn hR hW hd hst hb (fun w h' q => by obtain ⟨rfl, q⟩ := q; exact kk h' q)
theorem x_pV0 (hct : CtP l G M' d' mc' ms' (.ref b :: As) h none P) (cw : CWV own index n M') (hown : M.1.cls = own) (hrecv : ∀ (s : State) (H : Heap) (locs : List Loc), Sta G s → Rep G h H → va_S G.2.2.1 s.heap H locs → ∃ cell : Cell, H[b]? = some cell ∧ cell.vm.isStatics = false ∧ s.vm.findClass M'.1.cls = some cell.cls) (hn : As.length = n) (hR : d' + 1 ≤ rm.frames ∧ 8 + (M'.2.2.1 + 11) + 38 * d' ≤ rm.locals) (hW : (st.map fun v => v.category).sum ≤ 8) (hd : decode M.2.1 pc = .ok (.invokevirtual index, 3)) (hst : st0 = As.reverse ++ .ref b :: st) (hb : mc' + mc1 ≤ mc ∧ ms' + ms1 ≤ ms) (kk : ∀ h', P h' → XX l G M rm K mc1 ms1 (pc + 3) L st h') : XX l G M rm K mc ms pc L st0 h :=
  x_callW hct cw hown hrecv hn hR hW hd hst hb (fun w h' q => by obtain ⟨rfl, q⟩ := q; exact kk h' q)
theorem x_pS1 (hct : CtP l G M' d' mc' ms' As h (some v) P) (cw : CWS own index n M') (hown : M.1.cls = own) (hn : As.length = n) (hR : d' + 1 ≤ rm.frames ∧ 8 + (M'.2.2.1 + 11) + 38 * d' ≤ rm.locals) (hW : (st.map fun v => v.category).sum ≤ 8) (hd : decode M.2.1 pc = .ok (.invokestatic index, 3)) (hst : st0 = As.reverse ++ st) (hb : mc' + mc1 ≤ mc ∧ ms' + ms1 ≤ ms) (kk : ∀ h', P h' → XX l G M rm K mc1 ms1 (pc + 3) L (v :: st) h') : XX l G M rm K mc ms pc L st0 h :=
  x_callS hct cw hown hn hR hW hd hst hb (fun w h' q => by obtain ⟨rfl, q⟩ := q; exact kk h' q)
theorem x_pS0 (hct : CtP l G M' d' mc' ms' As h none P) (cw : CWS own index n M') (hown : M.1.cls = own) (hn : As.length = n) (hR : d' + 1 ≤ rm.frames ∧ 8 + (M'.2.2.1 + 11) + 38 * d' ≤ rm.locals) (hW : (st.map fun v => v.category).sum ≤ 8) (hd : decode M.2.1 pc = .ok (.invokestatic index, 3)) (hst : st0 = As.reverse ++ st) (hb : mc' + mc1 ≤ mc ∧ ms' + ms1 ≤ ms) (kk : ∀ h', P h' → XX l G M rm K mc1 ms1 (pc + 3) L st h') : XX l G M rm K mc ms pc L st0 h :=
  x_callS hct cw hown hn hR hW hd hst hb (fun w h' q => by obtain ⟨rfl, q⟩ := q; exact kk h' q)
theorem x_pI (hct : CtP l G M' d' mc' ms' (.ref b :: As) h none P) (cw : CWI own index n M') (hown : M.1.cls = own) (hn : As.length = n) (hR : d' + 1 ≤ rm.frames ∧ 8 + (M'.2.2.1 + 11) + 38 * d' ≤ rm.locals) (hW : (st.map fun v => v.category).sum ≤ 8) (hd : decode M.2.1 pc = .ok (.invokespecial index, 3)) (hst : st0 = As.reverse ++ .ref b :: st) (hb : mc' + mc1 ≤ mc ∧ ms' + ms1 ≤ ms) (kk : ∀ h', P h' → XX l G M rm K mc1 ms1 (pc + 3) L st h') : XX l G M rm K mc ms pc L st0 h :=
  x_callI hct cw hown hn hR hW hd hst hb (fun w h' q => by obtain ⟨rfl, q⟩ := q; exact kk h' q)
theorem x_pIN (hct : CtP l G M' d' mc' ms' (.ref b :: As) h none P) (cw : CWN own index n host M') (hown : M.1.cls = own) (hn : As.length = n) (hR : d' + 1 ≤ rm.frames ∧ 8 + (M'.2.2.1 + 11) + 38 * d' ≤ rm.locals) (hW : (st.map fun v => v.category).sum ≤ 8) (hd : decode M.2.1 pc = .ok (.invokespecial index, 3)) (hst : st0 = As.reverse ++ .ref b :: st) (hb : mc' + mc1 ≤ mc ∧ ms' + ms1 ≤ ms) (kk : ∀ h', P h' → XX l G M rm K mc1 ms1 (pc + 3) L st h') : XX l G M rm K mc ms pc L st0 h :=
  x_callIN hct cw hown hn hR hW hd hst hb (fun w h' q => by obtain ⟨rfl, q⟩ := q; exact kk h' q)
end CALC5
/-! ===== the reasons, the history ===== -/
def RsW (G : Gl) (h : Hp) (c : Nat) (f d : Nat → Int32) : Prop := h (Ad G 2) = some (.inr (5, [.ref (Ad G 3), .ref (Ad G 4), .int (nI c)])) ∧ h (Ad G 3) = some (eI G 3 f) ∧ h (Ad G 4) = some (eI G 3 d)
def HiW (G : Gl) (h : Hp) (nx cn : Nat) : Prop := h (Ad G 5) = some (.inr (2, [.ref (Ad G 6), .int (nI nx), .int (nI cn)])) ∧ h (Ad G 6) = some (eR G 6 9 (fun s => some (Ad G (100 * (s + 1)))))
def opN (N : Nat → Int32) : Nat → Nat
  | 0 => 0
  | i + 1 => if soldK (N (191 + 5 * i)) = 0 then opN N i + 1 else opN N i
theorem opN_le (N : Nat → Int32) : ∀ i, opN N i ≤ i
  | 0 => Nat.le_refl 0
  | i + 1 => by have := opN_le N i; rw [opN]; split <;> omega
/-- the sets of pots that are good for the open orders, in turn -/
def gpN (N : Nat → Int32) (np : Nat) (g : Nat → Int32) : Nat → Nat → Int32
  | 0 => g
  | i + 1 => if soldK (N (191 + 5 * i)) = 0 then upd (gpN N np g i) (opN N i) (allN N i np) else gpN N np g i
def mfN (g : Nat → Int32) (m : Nat) : Nat → Int32
  | 0 => nI m
  | s + 1 => mn (mfN g m s) (nI m - bcI (nI (s + 1)) + bcI (selN g (nI (s + 1)) m))
/-- copying a shop: as far as it has come -/
def PX (G : Gl) (fs fp fo : Nat → va_E) : Prop := (∀ i, i < 12 → ∃ g fa ar ps, fs i = eSheet g fa ar ps) ∧ (∀ i, i < 16 → ∃ k sh g b t r m q, fp i = ePot G (nI i) k sh g b t r m q) ∧ ∀ i, i < 8 → ∃ k t p po pd, fo i = eOrd G k t p po pd
def CpI (G : Gl) (h : Hp) (B : Nat) (M : Nat → Int32) (gp : Nat → Int32) (i j k : Nat) (h1 : Hp) : Prop := ∃ fs fp fo, Sh G h1 B (eShop G B M) gp fs fp fo ∧ PX G fs fp fo ∧ (∀ q, q < i → fs q = sC M q) ∧ (∀ q, q < j → fp q = pC G M q) ∧ (∀ q, q < k → fo q = oC G M q) ∧ Fr (inB G B 60) h h1
section CPL
variable {G : Gl} {h h1 : Hp} {B : Nat} {M : Nat → Int32} {gp : Nat → Int32} {i j k : Nat}
theorem CpI.s (ok : Ok G) (hB : B + 60 < 3000) (I : CpI G h B M gp i j k h1) (hi : i < 12) : CpI G h B M gp (i + 1) j k (hset h1 (Ad G (B + 10 + i)) (sC M i)) := by
  obtain ⟨fs, fp, fo, S, ⟨X1, X2, X3⟩, a, b, c, F⟩ := I
  refine ⟨_, fp, fo, S.sheet ok hB hi _, ⟨fun q hq => ?_, X2, X3⟩, fun q hq => ?_, b, c, F.st (inB_2 (by omega))⟩
  · unfold va_u; split
    · exact ⟨_, _, _, _, rfl⟩
    · exact X1 q hq
  · unfold va_u; split
    · next e => rw [e]
    · exact a q (by omega)
theorem CpI.p (ok : Ok G) (hB : B + 60 < 3000) (I : CpI G h B M gp i j k h1) (hj : j < 16) : CpI G h B M gp i (j + 1) k (hset h1 (Ad G (B + 30 + j)) (pC G M j)) := by
  obtain ⟨fs, fp, fo, S, ⟨X1, X2, X3⟩, a, b, c, F⟩ := I
  refine ⟨fs, _, fo, S.pot ok hB hj _, ⟨X1, fun q hq => ?_, X3⟩, a, fun q hq => ?_, c, F.st (inB_2 (by omega))⟩
  · unfold va_u; split
    · next e => subst e; exact ⟨_, _, _, _, _, _, _, _, rfl⟩
    · exact X2 q hq
  · unfold va_u; split
    · next e => rw [e]
    · exact b q (by omega)
theorem CpI.o (ok : Ok G) (hB : B + 60 < 3000) (I : CpI G h B M gp i j k h1) (hk : k < 8) : CpI G h B M gp i j (k + 1) (hset h1 (Ad G (B + 50 + k)) (oC G M k)) := by
  obtain ⟨fs, fp, fo, S, ⟨X1, X2, X3⟩, a, b, c, F⟩ := I
  refine ⟨fs, fp, _, S.ord ok hB hk _, ⟨X1, X2, fun q hq => ?_⟩, a, b, fun q hq => ?_, F.st (inB_2 (by omega))⟩
  · unfold va_u; split
    · next e => subst e; exact ⟨_, _, _, _, _, rfl⟩
    · exact X3 q hq
  · unfold va_u; split
    · next e => rw [e]
    · exact c q (by omega)
theorem CpI.init (ok : Ok G) (hB : B + 60 < 3000) {N : Nat → Int32} {ns np no : Nat} (H : ShW G h B N ns np no) : ∃ gp, CpI G h B M gp 0 0 0 (hset h (Ad G B) (eShop G B M)) := by
  obtain ⟨gp, fs, fp, fo, S, F⟩ := H.sh
  obtain ⟨c1, c2, c3, b1, b2, b3, fS, fP, fO, X⟩ := F
  exact ⟨gp, fs, fp, fo, S.shop ok hB _, X, fun q hq => absurd hq (Nat.not_lt_zero q), fun q hq => absurd hq (Nat.not_lt_zero q), fun q hq => absurd hq (Nat.not_lt_zero q), Fr.rf.st (inB_0 (by omega))⟩
theorem CpI.fin {ns np no : Nat} {C : Nat} {h0 : Hp} (H : ShW G h0 C M ns np no) (I : CpI G h B M gp ns np no h1) : ShW G h1 B M ns np no ∧ Fr (inB G B 60) h h1 := by
  obtain ⟨_, _, _, _, _, F⟩ := H.sh
  obtain ⟨c1, c2, c3, b1, b2, b3, fS, fP, fO, X⟩ := F
  obtain ⟨fs, fp, fo, S, ⟨X1, X2, X3⟩, a, b, c, F⟩ := I
  exact ⟨S.w ⟨c1, c2, c3, b1, b2, b3, a, fun i hi => ⟨(fP i hi).1, b i hi⟩, fun i hi => ⟨(fO i hi).1, c i hi⟩, X1, X2, X3⟩, F⟩
end CPL
set_option maxRecDepth 100000 in
set_option maxHeartbeats 4000000 in
theorem ct_X2_numbered_in {l : Launch} {G : Gl} {h : Hp} {k : Nat} (hk : k < 3) : CtR l G mX2_numbered 1 [.int (nI k)] h (some (.ref (G.2.2.2 k))) (h) := by
  refine Ct.of (L := [(0, _)]) (by decide) (ble rfl) rfl ?_
  refine x_iload_n 0 dX2_numbered_0 rfl rfl ?_
  refine x_if_lt 20 dX2_numbered_1 (by decide) (fun z => by first | exact absurd z (nI_pos (by omega)) | exact absurd (nI_pos (by omega)) z) (fun _ => ?_)
  refine x_iload_n 0 dX2_numbered_4 rfl rfl ?_
  refine x_gets zK_ALL rfl oX2_58 dX2_numbered_5 ?_
  refine x_tlen zK_ALLt (v := 3) rfl dX2_numbered_8 ?_
  refine x_icmp_ge 20 dX2_numbered_9 (by decide) (fun z => by first | exact absurd z (show ¬ (3 : Int32) ≤ nI k from fun z => absurd (show nI k < nI 3 from nI_lt (by omega) (by omega)) (Int32.not_lt.mpr z)) | exact absurd (show ¬ (3 : Int32) ≤ nI k from fun z => absurd (show nI k < nI 3 from nI_lt (by omega) (by omega)) (Int32.not_lt.mpr z)) z) (fun _ => ?_)
  refine x_gets zK_ALL rfl oX2_58 dX2_numbered_12 ?_
  refine x_iload_n 0 dX2_numbered_15 rfl rfl ?_
  refine x_tald zK_ALLt (vp_in_nI (by omega) (by omega)) dX2_numbered_16 ?_
  refine x_goto 21 dX2_numbered_17 (by decide) ?_
  refine x_aret rfl (by first | exact Or.inl ⟨_, rfl⟩ | exact Or.inr ⟨_, rfl⟩) (by first | exact Or.inl rfl | exact Or.inr ⟨_, rfl⟩ | assumption) dX2_numbered_21 ?_
  exact ⟨by rw [nI_clamp (by omega)], rfl⟩
set_option maxRecDepth 100000 in
set_option maxHeartbeats 4000000 in
theorem ct_X2_numbered_out {l : Launch} {G : Gl} {h : Hp} {x : Int32} (hx : ¬ (0 ≤ x ∧ x < 3)) : CtR l G mX2_numbered 1 [.int x] h (some .null) (h) := by
  refine Ct.of (L := [(0, _)]) (by decide) (ble rfl) rfl ?_
  refine x_iload_n 0 dX2_numbered_0 rfl rfl ?_
  refine x_if_lt 20 dX2_numbered_1 (by decide) (fun c1 => ?_) (fun c1 => ?_)
  · refine x_null dX2_numbered_20 ?_
    refine x_aret rfl (by first | exact Or.inl ⟨_, rfl⟩ | exact Or.inr ⟨_, rfl⟩) (by first | exact Or.inl rfl | exact Or.inr ⟨_, rfl⟩ | assumption) dX2_numbered_21 ?_
    exact ⟨rfl, rfl⟩
  · refine x_iload_n 0 dX2_numbered_4 rfl rfl ?_
    refine x_gets zK_ALL rfl oX2_58 dX2_numbered_5 ?_
    refine x_tlen zK_ALLt (v := 3) rfl dX2_numbered_8 ?_
    refine x_icmp_ge 20 dX2_numbered_9 (by decide) (fun _ => ?_) (fun z => by first | exact absurd (Int32.not_lt.mp (fun q => hx ⟨Int32.not_lt.mp c1, q⟩)) z | exact absurd z (Int32.not_lt.mp (fun q => hx ⟨Int32.not_lt.mp c1, q⟩)))
    refine x_null dX2_numbered_20 ?_
    refine x_aret rfl (by first | exact Or.inl ⟨_, rfl⟩ | exact Or.inr ⟨_, rfl⟩) (by first | exact Or.inl rfl | exact Or.inr ⟨_, rfl⟩ | assumption) dX2_numbered_21 ?_
    exact ⟨rfl, rfl⟩
set_option maxRecDepth 100000 in
set_option maxHeartbeats 4000000 in
theorem ct_X2_barsOf {l : Launch} {G : Gl} {h : Hp} {k : Nat} (hk : k < 3) (x : Int32) : CtR l G mX2_barsOf 1 [.ref (G.2.2.2 k), .int x] h (some (.int ((kArea k * x + 3) / 4))) (h) := by
  refine Ct.of (L := [(0, _), (1, _)]) (by decide) (ble rfl) rfl ?_
  first | refine x_aload_n 0 dX2_barsOf_0 rfl rfl ?_ | refine x_aload_nN 0 dX2_barsOf_0 rfl rfl ?_
  refine x_getO (zK_area (by assumption)) rfl oX2_40 dX2_barsOf_1 ?_
  refine x_iload_n 1 dX2_barsOf_4 rfl rfl ?_
  refine x_imul dX2_barsOf_5 ?_
  refine x_iconst (v := 3) dX2_barsOf_6 rfl ?_
  refine x_iadd dX2_barsOf_7 ?_
  refine x_iconst (v := 4) dX2_barsOf_8 rfl ?_
  refine x_idiv dX2_barsOf_9 (by first | decide | assumption) ?_
  refine x_iret rfl dX2_barsOf_10 ?_
  exact ⟨rfl, rfl⟩
set_option maxRecDepth 100000 in
set_option maxHeartbeats 4000000 in
theorem ct_X5_wrap_0 {l : Launch} {G : Gl} {h : Hp} (ok : Ok G) {f d : Nat → Int32} (R : RsW G h 0 f d) (x y : Int32) : CtP l G mX5_wrap 1 (0) (0) [.ref (Ad G 2), .int x, .int y] h (some (.int (-3))) (fun h' => ∃ f' d', RsW G h' 1 f' d' ∧ f' 0 = x ∧ d' 0 = y ∧ (∀ i, i < 0 → f' (i + 1) = f i ∧ d' (i + 1) = d i) ∧ Fr (inB G 2 3) h h') := by
  obtain ⟨h2, h3, h4⟩ := R
  have n23 := nA ok (show 2 < 3000 by omega) (show 3 < 3000 by omega) (by omega)
  have n24 := nA ok (show 2 < 3000 by omega) (show 4 < 3000 by omega) (by omega)
  have n34 := nA ok (show 3 < 3000 by omega) (show 4 < 3000 by omega) (by omega)
  refine Ct.of (L := [(0, _), (1, _), (2, _)]) (by decide) (ble rfl) rfl ?_
  first | refine x_aload_n 0 dX5_wrap_0 rfl rfl ?_ | refine x_aload_nN 0 dX5_wrap_0 rfl rfl ?_
  refine x_get fX5_18 rfl dX5_wrap_1 (by with_reducible repeat first | assumption | exact hset_s | refine hget_n (by first | assumption | exact Ne.symm (by assumption) | exact nA (by assumption) (by omega) (by omega) (by omega)) ?_) (by rfl) ?_
  refine x_iconst (v := 2) dX5_wrap_4 rfl ?_
  refine x_mmin rfl wX5_26 wMmin2 wMath3 wMmin4 (ble rfl) (ble rfl) dX5_wrap_5 ?_
  refine x_istore_n (L' := [(3, _), (0, _), (1, _), (2, _)]) dX5_wrap_8 rfl (ble rfl) rfl ?_
  refine x_iload_n 0 dX5_wrap_9 rfl rfl ?_
  refine x_if_le 47 dX5_wrap_10 (by decide) (fun _ => ?_) (fun z => by first | exact absurd (by decide) z | exact absurd z (by decide))
  first | refine x_aload_n 1 dX5_wrap_47 rfl rfl ?_ | refine x_aload_nN 1 dX5_wrap_47 rfl rfl ?_
  refine x_get fX5_9 rfl dX5_wrap_48 (by with_reducible repeat first | assumption | exact hset_s | refine hget_n (by first | assumption | exact Ne.symm (by assumption) | exact nA (by assumption) (by omega) (by omega) (by omega)) ?_) (by rfl) ?_
  refine x_iconst (v := 0) dX5_wrap_51 rfl ?_
  refine x_iload_n 2 dX5_wrap_52 rfl rfl ?_
  refine x_iast dX5_wrap_53 (by with_reducible repeat first | assumption | exact hset_s | refine hget_n (by first | assumption | exact Ne.symm (by assumption) | exact nA (by assumption) (by omega) (by omega) (by omega)) ?_) (by unfold vp_in; decide) (by first | assumption | exact aA (by assumption) (by omega)) ?_
  first | refine x_aload_n 1 dX5_wrap_54 rfl rfl ?_ | refine x_aload_nN 1 dX5_wrap_54 rfl rfl ?_
  refine x_get fX5_15 rfl dX5_wrap_55 (by with_reducible repeat first | assumption | exact hset_s | refine hget_n (by first | assumption | exact Ne.symm (by assumption) | exact nA (by assumption) (by omega) (by omega) (by omega)) ?_) (by rfl) ?_
  refine x_iconst (v := 0) dX5_wrap_58 rfl ?_
  refine x_iload_n 3 dX5_wrap_59 rfl rfl ?_
  refine x_iast dX5_wrap_60 (by with_reducible repeat first | assumption | exact hset_s | refine hget_n (by first | assumption | exact Ne.symm (by assumption) | exact nA (by assumption) (by omega) (by omega) (by omega)) ?_) (by unfold vp_in; decide) (by first | assumption | exact aA (by assumption) (by omega)) ?_
  first | refine x_aload_n 1 dX5_wrap_61 rfl rfl ?_ | refine x_aload_nN 1 dX5_wrap_61 rfl rfl ?_
  first | refine x_aload_n 1 dX5_wrap_62 rfl rfl ?_ | refine x_aload_nN 1 dX5_wrap_62 rfl rfl ?_
  refine x_get fX5_18 rfl dX5_wrap_63 (by with_reducible repeat first | assumption | exact hset_s | refine hget_n (by first | assumption | exact Ne.symm (by assumption) | exact nA (by assumption) (by omega) (by omega) (by omega)) ?_) (by rfl) ?_
  refine x_iconst (v := 1) dX5_wrap_66 rfl ?_
  refine x_iadd dX5_wrap_67 ?_
  refine x_iconst (v := 3) dX5_wrap_68 rfl ?_
  refine x_mmin rfl wX5_26 wMmin2 wMath3 wMmin4 (ble rfl) (ble rfl) dX5_wrap_69 ?_
  refine x_put fX5_18 rfl rfl rfl rfl dX5_wrap_72 (by with_reducible repeat first | assumption | exact hset_s | refine hget_n (by first | assumption | exact Ne.symm (by assumption) | exact nA (by assumption) (by omega) (by omega) (by omega)) ?_) (by exact ble rfl) (by first | assumption | exact aA (by assumption) (by omega)) ?_
  refine x_bipush (v := -3) dX5_wrap_75 rfl ?_
  refine x_iret rfl dX5_wrap_77 ?_
  exact ⟨rfl, _, _, ⟨by exact hset_s, by with_reducible repeat first | assumption | exact hset_s | refine hget_n (by first | assumption | exact Ne.symm (by assumption) | exact nA (by assumption) (by omega) (by omega) (by omega)) ?_, by with_reducible repeat first | assumption | exact hset_s | refine hget_n (by first | assumption | exact Ne.symm (by assumption) | exact nA (by assumption) (by omega) (by omega) (by omega)) ?_⟩, by rfl, by rfl, fun i hi => (by exact absurd hi (Nat.not_lt_zero i)), by repeat first | exact Fr.rf | refine Fr.st ?_ (by first | exact ⟨0, by omega, by omega, rfl⟩ | exact ⟨1, by omega, by omega, rfl⟩ | exact ⟨2, by omega, by omega, rfl⟩)⟩
set_option maxRecDepth 100000 in
set_option maxHeartbeats 4000000 in
theorem ct_X5_wrap_1 {l : Launch} {G : Gl} {h : Hp} (ok : Ok G) {f d : Nat → Int32} (R : RsW G h 1 f d) (x y : Int32) : CtP l G mX5_wrap 1 (0) (0) [.ref (Ad G 2), .int x, .int y] h (some (.int (-3))) (fun h' => ∃ f' d', RsW G h' 2 f' d' ∧ f' 0 = x ∧ d' 0 = y ∧ (∀ i, i < 1 → f' (i + 1) = f i ∧ d' (i + 1) = d i) ∧ Fr (inB G 2 3) h h') := by
  obtain ⟨h2, h3, h4⟩ := R
  have n23 := nA ok (show 2 < 3000 by omega) (show 3 < 3000 by omega) (by omega)
  have n24 := nA ok (show 2 < 3000 by omega) (show 4 < 3000 by omega) (by omega)
  have n34 := nA ok (show 3 < 3000 by omega) (show 4 < 3000 by omega) (by omega)
  refine Ct.of (L := [(0, _), (1, _), (2, _)]) (by decide) (ble rfl) rfl ?_
  first | refine x_aload_n 0 dX5_wrap_0 rfl rfl ?_ | refine x_aload_nN 0 dX5_wrap_0 rfl rfl ?_
  refine x_get fX5_18 rfl dX5_wrap_1 (by with_reducible repeat first | assumption | exact hset_s | refine hget_n (by first | assumption | exact Ne.symm (by assumption) | exact nA (by assumption) (by omega) (by omega) (by omega)) ?_) (by rfl) ?_
  refine x_iconst (v := 2) dX5_wrap_4 rfl ?_
  refine x_mmin rfl wX5_26 wMmin2 wMath3 wMmin4 (ble rfl) (ble rfl) dX5_wrap_5 ?_
  refine x_istore_n (L' := [(3, _), (0, _), (1, _), (2, _)]) dX5_wrap_8 rfl (ble rfl) rfl ?_
  refine x_iload_n 0 dX5_wrap_9 rfl rfl ?_
  refine x_if_le 47 dX5_wrap_10 (by decide) (fun z => by first | exact absurd z (by decide) | exact absurd (by decide) z) (fun _ => ?_)
  first | refine x_aload_n 1 dX5_wrap_13 rfl rfl ?_ | refine x_aload_nN 1 dX5_wrap_13 rfl rfl ?_
  refine x_get fX5_9 rfl dX5_wrap_14 (by with_reducible repeat first | assumption | exact hset_s | refine hget_n (by first | assumption | exact Ne.symm (by assumption) | exact nA (by assumption) (by omega) (by omega) (by omega)) ?_) (by rfl) ?_
  refine x_iload_n 0 dX5_wrap_17 rfl rfl ?_
  first | refine x_aload_n 1 dX5_wrap_18 rfl rfl ?_ | refine x_aload_nN 1 dX5_wrap_18 rfl rfl ?_
  refine x_get fX5_9 rfl dX5_wrap_19 (by with_reducible repeat first | assumption | exact hset_s | refine hget_n (by first | assumption | exact Ne.symm (by assumption) | exact nA (by assumption) (by omega) (by omega) (by omega)) ?_) (by rfl) ?_
  refine x_iload_n 0 dX5_wrap_22 rfl rfl ?_
  refine x_iconst (v := 1) dX5_wrap_23 rfl ?_
  refine x_isub dX5_wrap_24 ?_
  refine x_iald dX5_wrap_25 (by with_reducible repeat first | assumption | exact hset_s | refine hget_n (by first | assumption | exact Ne.symm (by assumption) | exact nA (by assumption) (by omega) (by omega) (by omega)) ?_) (by unfold vp_in; decide) ?_
  refine x_iast dX5_wrap_26 (by with_reducible repeat first | assumption | exact hset_s | refine hget_n (by first | assumption | exact Ne.symm (by assumption) | exact nA (by assumption) (by omega) (by omega) (by omega)) ?_) (by unfold vp_in; decide) (by first | assumption | exact aA (by assumption) (by omega)) ?_
  first | refine x_aload_n 1 dX5_wrap_27 rfl rfl ?_ | refine x_aload_nN 1 dX5_wrap_27 rfl rfl ?_
  refine x_get fX5_15 rfl dX5_wrap_28 (by with_reducible repeat first | assumption | exact hset_s | refine hget_n (by first | assumption | exact Ne.symm (by assumption) | exact nA (by assumption) (by omega) (by omega) (by omega)) ?_) (by rfl) ?_
  refine x_iload_n 0 dX5_wrap_31 rfl rfl ?_
  first | refine x_aload_n 1 dX5_wrap_32 rfl rfl ?_ | refine x_aload_nN 1 dX5_wrap_32 rfl rfl ?_
  refine x_get fX5_15 rfl dX5_wrap_33 (by with_reducible repeat first | assumption | exact hset_s | refine hget_n (by first | assumption | exact Ne.symm (by assumption) | exact nA (by assumption) (by omega) (by omega) (by omega)) ?_) (by rfl) ?_
  refine x_iload_n 0 dX5_wrap_36 rfl rfl ?_
  refine x_iconst (v := 1) dX5_wrap_37 rfl ?_
  refine x_isub dX5_wrap_38 ?_
  refine x_iald dX5_wrap_39 (by with_reducible repeat first | assumption | exact hset_s | refine hget_n (by first | assumption | exact Ne.symm (by assumption) | exact nA (by assumption) (by omega) (by omega) (by omega)) ?_) (by unfold vp_in; decide) ?_
  refine x_iast dX5_wrap_40 (by with_reducible repeat first | assumption | exact hset_s | refine hget_n (by first | assumption | exact Ne.symm (by assumption) | exact nA (by assumption) (by omega) (by omega) (by omega)) ?_) (by unfold vp_in; decide) (by first | assumption | exact aA (by assumption) (by omega)) ?_
  refine x_iinc (L' := [(3, _), (0, _), (1, _), (2, _)]) (j := 0) (_ + (-1)) dX5_wrap_41 rfl rfl (ble rfl) rfl ?_
  refine x_goto 9 dX5_wrap_44 (by decide) ?_
  refine x_iload_n 0 dX5_wrap_9 rfl rfl ?_
  refine x_if_le 47 dX5_wrap_10 (by decide) (fun _ => ?_) (fun z => by first | exact absurd (by decide) z | exact absurd z (by decide))
  first | refine x_aload_n 1 dX5_wrap_47 rfl rfl ?_ | refine x_aload_nN 1 dX5_wrap_47 rfl rfl ?_
  refine x_get fX5_9 rfl dX5_wrap_48 (by with_reducible repeat first | assumption | exact hset_s | refine hget_n (by first | assumption | exact Ne.symm (by assumption) | exact nA (by assumption) (by omega) (by omega) (by omega)) ?_) (by rfl) ?_
  refine x_iconst (v := 0) dX5_wrap_51 rfl ?_
  refine x_iload_n 2 dX5_wrap_52 rfl rfl ?_
  refine x_iast dX5_wrap_53 (by with_reducible repeat first | assumption | exact hset_s | refine hget_n (by first | assumption | exact Ne.symm (by assumption) | exact nA (by assumption) (by omega) (by omega) (by omega)) ?_) (by unfold vp_in; decide) (by first | assumption | exact aA (by assumption) (by omega)) ?_
  first | refine x_aload_n 1 dX5_wrap_54 rfl rfl ?_ | refine x_aload_nN 1 dX5_wrap_54 rfl rfl ?_
  refine x_get fX5_15 rfl dX5_wrap_55 (by with_reducible repeat first | assumption | exact hset_s | refine hget_n (by first | assumption | exact Ne.symm (by assumption) | exact nA (by assumption) (by omega) (by omega) (by omega)) ?_) (by rfl) ?_
  refine x_iconst (v := 0) dX5_wrap_58 rfl ?_
  refine x_iload_n 3 dX5_wrap_59 rfl rfl ?_
  refine x_iast dX5_wrap_60 (by with_reducible repeat first | assumption | exact hset_s | refine hget_n (by first | assumption | exact Ne.symm (by assumption) | exact nA (by assumption) (by omega) (by omega) (by omega)) ?_) (by unfold vp_in; decide) (by first | assumption | exact aA (by assumption) (by omega)) ?_
  first | refine x_aload_n 1 dX5_wrap_61 rfl rfl ?_ | refine x_aload_nN 1 dX5_wrap_61 rfl rfl ?_
  first | refine x_aload_n 1 dX5_wrap_62 rfl rfl ?_ | refine x_aload_nN 1 dX5_wrap_62 rfl rfl ?_
  refine x_get fX5_18 rfl dX5_wrap_63 (by with_reducible repeat first | assumption | exact hset_s | refine hget_n (by first | assumption | exact Ne.symm (by assumption) | exact nA (by assumption) (by omega) (by omega) (by omega)) ?_) (by rfl) ?_
  refine x_iconst (v := 1) dX5_wrap_66 rfl ?_
  refine x_iadd dX5_wrap_67 ?_
  refine x_iconst (v := 3) dX5_wrap_68 rfl ?_
  refine x_mmin rfl wX5_26 wMmin2 wMath3 wMmin4 (ble rfl) (ble rfl) dX5_wrap_69 ?_
  refine x_put fX5_18 rfl rfl rfl rfl dX5_wrap_72 (by with_reducible repeat first | assumption | exact hset_s | refine hget_n (by first | assumption | exact Ne.symm (by assumption) | exact nA (by assumption) (by omega) (by omega) (by omega)) ?_) (by exact ble rfl) (by first | assumption | exact aA (by assumption) (by omega)) ?_
  refine x_bipush (v := -3) dX5_wrap_75 rfl ?_
  refine x_iret rfl dX5_wrap_77 ?_
  exact ⟨rfl, _, _, ⟨by exact hset_s, by with_reducible repeat first | assumption | exact hset_s | refine hget_n (by first | assumption | exact Ne.symm (by assumption) | exact nA (by assumption) (by omega) (by omega) (by omega)) ?_, by with_reducible repeat first | assumption | exact hset_s | refine hget_n (by first | assumption | exact Ne.symm (by assumption) | exact nA (by assumption) (by omega) (by omega) (by omega)) ?_⟩, by rfl, by rfl, fun i hi => (by (obtain rfl : i = 0 := (by omega)); exact ⟨rfl, rfl⟩), by repeat first | exact Fr.rf | refine Fr.st ?_ (by first | exact ⟨0, by omega, by omega, rfl⟩ | exact ⟨1, by omega, by omega, rfl⟩ | exact ⟨2, by omega, by omega, rfl⟩)⟩
set_option maxRecDepth 100000 in
set_option maxHeartbeats 4000000 in
theorem ct_X5_wrap_2 {l : Launch} {G : Gl} {h : Hp} (ok : Ok G) {f d : Nat → Int32} (R : RsW G h 2 f d) (x y : Int32) : CtP l G mX5_wrap 1 (0) (0) [.ref (Ad G 2), .int x, .int y] h (some (.int (-3))) (fun h' => ∃ f' d', RsW G h' 3 f' d' ∧ f' 0 = x ∧ d' 0 = y ∧ (∀ i, i < 2 → f' (i + 1) = f i ∧ d' (i + 1) = d i) ∧ Fr (inB G 2 3) h h') := by
  obtain ⟨h2, h3, h4⟩ := R
  have n23 := nA ok (show 2 < 3000 by omega) (show 3 < 3000 by omega) (by omega)
  have n24 := nA ok (show 2 < 3000 by omega) (show 4 < 3000 by omega) (by omega)
  have n34 := nA ok (show 3 < 3000 by omega) (show 4 < 3000 by omega) (by omega)
  refine Ct.of (L := [(0, _), (1, _), (2, _)]) (by decide) (ble rfl) rfl ?_
  first | refine x_aload_n 0 dX5_wrap_0 rfl rfl ?_ | refine x_aload_nN 0 dX5_wrap_0 rfl rfl ?_
  refine x_get fX5_18 rfl dX5_wrap_1 (by with_reducible repeat first | assumption | exact hset_s | refine hget_n (by first | assumption | exact Ne.symm (by assumption) | exact nA (by assumption) (by omega) (by omega) (by omega)) ?_) (by rfl) ?_
  refine x_iconst (v := 2) dX5_wrap_4 rfl ?_
  refine x_mmin rfl wX5_26 wMmin2 wMath3 wMmin4 (ble rfl) (ble rfl) dX5_wrap_5 ?_
  refine x_istore_n (L' := [(3, _), (0, _), (1, _), (2, _)]) dX5_wrap_8 rfl (ble rfl) rfl ?_
  refine x_iload_n 0 dX5_wrap_9 rfl rfl ?_
  refine x_if_le 47 dX5_wrap_10 (by decide) (fun z => by first | exact absurd z (by decide) | exact absurd (by decide) z) (fun _ => ?_)
  first | refine x_aload_n 1 dX5_wrap_13 rfl rfl ?_ | refine x_aload_nN 1 dX5_wrap_13 rfl rfl ?_
  refine x_get fX5_9 rfl dX5_wrap_14 (by with_reducible repeat first | assumption | exact hset_s | refine hget_n (by first | assumption | exact Ne.symm (by assumption) | exact nA (by assumption) (by omega) (by omega) (by omega)) ?_) (by rfl) ?_
  refine x_iload_n 0 dX5_wrap_17 rfl rfl ?_
  first | refine x_aload_n 1 dX5_wrap_18 rfl rfl ?_ | refine x_aload_nN 1 dX5_wrap_18 rfl rfl ?_
  refine x_get fX5_9 rfl dX5_wrap_19 (by with_reducible repeat first | assumption | exact hset_s | refine hget_n (by first | assumption | exact Ne.symm (by assumption) | exact nA (by assumption) (by omega) (by omega) (by omega)) ?_) (by rfl) ?_
  refine x_iload_n 0 dX5_wrap_22 rfl rfl ?_
  refine x_iconst (v := 1) dX5_wrap_23 rfl ?_
  refine x_isub dX5_wrap_24 ?_
  refine x_iald dX5_wrap_25 (by with_reducible repeat first | assumption | exact hset_s | refine hget_n (by first | assumption | exact Ne.symm (by assumption) | exact nA (by assumption) (by omega) (by omega) (by omega)) ?_) (by unfold vp_in; decide) ?_
  refine x_iast dX5_wrap_26 (by with_reducible repeat first | assumption | exact hset_s | refine hget_n (by first | assumption | exact Ne.symm (by assumption) | exact nA (by assumption) (by omega) (by omega) (by omega)) ?_) (by unfold vp_in; decide) (by first | assumption | exact aA (by assumption) (by omega)) ?_
  first | refine x_aload_n 1 dX5_wrap_27 rfl rfl ?_ | refine x_aload_nN 1 dX5_wrap_27 rfl rfl ?_
  refine x_get fX5_15 rfl dX5_wrap_28 (by with_reducible repeat first | assumption | exact hset_s | refine hget_n (by first | assumption | exact Ne.symm (by assumption) | exact nA (by assumption) (by omega) (by omega) (by omega)) ?_) (by rfl) ?_
  refine x_iload_n 0 dX5_wrap_31 rfl rfl ?_
  first | refine x_aload_n 1 dX5_wrap_32 rfl rfl ?_ | refine x_aload_nN 1 dX5_wrap_32 rfl rfl ?_
  refine x_get fX5_15 rfl dX5_wrap_33 (by with_reducible repeat first | assumption | exact hset_s | refine hget_n (by first | assumption | exact Ne.symm (by assumption) | exact nA (by assumption) (by omega) (by omega) (by omega)) ?_) (by rfl) ?_
  refine x_iload_n 0 dX5_wrap_36 rfl rfl ?_
  refine x_iconst (v := 1) dX5_wrap_37 rfl ?_
  refine x_isub dX5_wrap_38 ?_
  refine x_iald dX5_wrap_39 (by with_reducible repeat first | assumption | exact hset_s | refine hget_n (by first | assumption | exact Ne.symm (by assumption) | exact nA (by assumption) (by omega) (by omega) (by omega)) ?_) (by unfold vp_in; decide) ?_
  refine x_iast dX5_wrap_40 (by with_reducible repeat first | assumption | exact hset_s | refine hget_n (by first | assumption | exact Ne.symm (by assumption) | exact nA (by assumption) (by omega) (by omega) (by omega)) ?_) (by unfold vp_in; decide) (by first | assumption | exact aA (by assumption) (by omega)) ?_
  refine x_iinc (L' := [(3, _), (0, _), (1, _), (2, _)]) (j := 0) (_ + (-1)) dX5_wrap_41 rfl rfl (ble rfl) rfl ?_
  refine x_goto 9 dX5_wrap_44 (by decide) ?_
  refine x_iload_n 0 dX5_wrap_9 rfl rfl ?_
  refine x_if_le 47 dX5_wrap_10 (by decide) (fun z => by first | exact absurd z (by decide) | exact absurd (by decide) z) (fun _ => ?_)
  first | refine x_aload_n 1 dX5_wrap_13 rfl rfl ?_ | refine x_aload_nN 1 dX5_wrap_13 rfl rfl ?_
  refine x_get fX5_9 rfl dX5_wrap_14 (by with_reducible repeat first | assumption | exact hset_s | refine hget_n (by first | assumption | exact Ne.symm (by assumption) | exact nA (by assumption) (by omega) (by omega) (by omega)) ?_) (by rfl) ?_
  refine x_iload_n 0 dX5_wrap_17 rfl rfl ?_
  first | refine x_aload_n 1 dX5_wrap_18 rfl rfl ?_ | refine x_aload_nN 1 dX5_wrap_18 rfl rfl ?_
  refine x_get fX5_9 rfl dX5_wrap_19 (by with_reducible repeat first | assumption | exact hset_s | refine hget_n (by first | assumption | exact Ne.symm (by assumption) | exact nA (by assumption) (by omega) (by omega) (by omega)) ?_) (by rfl) ?_
  refine x_iload_n 0 dX5_wrap_22 rfl rfl ?_
  refine x_iconst (v := 1) dX5_wrap_23 rfl ?_
  refine x_isub dX5_wrap_24 ?_
  refine x_iald dX5_wrap_25 (by with_reducible repeat first | assumption | exact hset_s | refine hget_n (by first | assumption | exact Ne.symm (by assumption) | exact nA (by assumption) (by omega) (by omega) (by omega)) ?_) (by unfold vp_in; decide) ?_
  refine x_iast dX5_wrap_26 (by with_reducible repeat first | assumption | exact hset_s | refine hget_n (by first | assumption | exact Ne.symm (by assumption) | exact nA (by assumption) (by omega) (by omega) (by omega)) ?_) (by unfold vp_in; decide) (by first | assumption | exact aA (by assumption) (by omega)) ?_
  first | refine x_aload_n 1 dX5_wrap_27 rfl rfl ?_ | refine x_aload_nN 1 dX5_wrap_27 rfl rfl ?_
  refine x_get fX5_15 rfl dX5_wrap_28 (by with_reducible repeat first | assumption | exact hset_s | refine hget_n (by first | assumption | exact Ne.symm (by assumption) | exact nA (by assumption) (by omega) (by omega) (by omega)) ?_) (by rfl) ?_
  refine x_iload_n 0 dX5_wrap_31 rfl rfl ?_
  first | refine x_aload_n 1 dX5_wrap_32 rfl rfl ?_ | refine x_aload_nN 1 dX5_wrap_32 rfl rfl ?_
  refine x_get fX5_15 rfl dX5_wrap_33 (by with_reducible repeat first | assumption | exact hset_s | refine hget_n (by first | assumption | exact Ne.symm (by assumption) | exact nA (by assumption) (by omega) (by omega) (by omega)) ?_) (by rfl) ?_
  refine x_iload_n 0 dX5_wrap_36 rfl rfl ?_
  refine x_iconst (v := 1) dX5_wrap_37 rfl ?_
  refine x_isub dX5_wrap_38 ?_
  refine x_iald dX5_wrap_39 (by with_reducible repeat first | assumption | exact hset_s | refine hget_n (by first | assumption | exact Ne.symm (by assumption) | exact nA (by assumption) (by omega) (by omega) (by omega)) ?_) (by unfold vp_in; decide) ?_
  refine x_iast dX5_wrap_40 (by with_reducible repeat first | assumption | exact hset_s | refine hget_n (by first | assumption | exact Ne.symm (by assumption) | exact nA (by assumption) (by omega) (by omega) (by omega)) ?_) (by unfold vp_in; decide) (by first | assumption | exact aA (by assumption) (by omega)) ?_
  refine x_iinc (L' := [(3, _), (0, _), (1, _), (2, _)]) (j := 0) (_ + (-1)) dX5_wrap_41 rfl rfl (ble rfl) rfl ?_
  refine x_goto 9 dX5_wrap_44 (by decide) ?_
  refine x_iload_n 0 dX5_wrap_9 rfl rfl ?_
  refine x_if_le 47 dX5_wrap_10 (by decide) (fun _ => ?_) (fun z => by first | exact absurd (by decide) z | exact absurd z (by decide))
  first | refine x_aload_n 1 dX5_wrap_47 rfl rfl ?_ | refine x_aload_nN 1 dX5_wrap_47 rfl rfl ?_
  refine x_get fX5_9 rfl dX5_wrap_48 (by with_reducible repeat first | assumption | exact hset_s | refine hget_n (by first | assumption | exact Ne.symm (by assumption) | exact nA (by assumption) (by omega) (by omega) (by omega)) ?_) (by rfl) ?_
  refine x_iconst (v := 0) dX5_wrap_51 rfl ?_
  refine x_iload_n 2 dX5_wrap_52 rfl rfl ?_
  refine x_iast dX5_wrap_53 (by with_reducible repeat first | assumption | exact hset_s | refine hget_n (by first | assumption | exact Ne.symm (by assumption) | exact nA (by assumption) (by omega) (by omega) (by omega)) ?_) (by unfold vp_in; decide) (by first | assumption | exact aA (by assumption) (by omega)) ?_
  first | refine x_aload_n 1 dX5_wrap_54 rfl rfl ?_ | refine x_aload_nN 1 dX5_wrap_54 rfl rfl ?_
  refine x_get fX5_15 rfl dX5_wrap_55 (by with_reducible repeat first | assumption | exact hset_s | refine hget_n (by first | assumption | exact Ne.symm (by assumption) | exact nA (by assumption) (by omega) (by omega) (by omega)) ?_) (by rfl) ?_
  refine x_iconst (v := 0) dX5_wrap_58 rfl ?_
  refine x_iload_n 3 dX5_wrap_59 rfl rfl ?_
  refine x_iast dX5_wrap_60 (by with_reducible repeat first | assumption | exact hset_s | refine hget_n (by first | assumption | exact Ne.symm (by assumption) | exact nA (by assumption) (by omega) (by omega) (by omega)) ?_) (by unfold vp_in; decide) (by first | assumption | exact aA (by assumption) (by omega)) ?_
  first | refine x_aload_n 1 dX5_wrap_61 rfl rfl ?_ | refine x_aload_nN 1 dX5_wrap_61 rfl rfl ?_
  first | refine x_aload_n 1 dX5_wrap_62 rfl rfl ?_ | refine x_aload_nN 1 dX5_wrap_62 rfl rfl ?_
  refine x_get fX5_18 rfl dX5_wrap_63 (by with_reducible repeat first | assumption | exact hset_s | refine hget_n (by first | assumption | exact Ne.symm (by assumption) | exact nA (by assumption) (by omega) (by omega) (by omega)) ?_) (by rfl) ?_
  refine x_iconst (v := 1) dX5_wrap_66 rfl ?_
  refine x_iadd dX5_wrap_67 ?_
  refine x_iconst (v := 3) dX5_wrap_68 rfl ?_
  refine x_mmin rfl wX5_26 wMmin2 wMath3 wMmin4 (ble rfl) (ble rfl) dX5_wrap_69 ?_
  refine x_put fX5_18 rfl rfl rfl rfl dX5_wrap_72 (by with_reducible repeat first | assumption | exact hset_s | refine hget_n (by first | assumption | exact Ne.symm (by assumption) | exact nA (by assumption) (by omega) (by omega) (by omega)) ?_) (by exact ble rfl) (by first | assumption | exact aA (by assumption) (by omega)) ?_
  refine x_bipush (v := -3) dX5_wrap_75 rfl ?_
  refine x_iret rfl dX5_wrap_77 ?_
  exact ⟨rfl, _, _, ⟨by exact hset_s, by with_reducible repeat first | assumption | exact hset_s | refine hget_n (by first | assumption | exact Ne.symm (by assumption) | exact nA (by assumption) (by omega) (by omega) (by omega)) ?_, by with_reducible repeat first | assumption | exact hset_s | refine hget_n (by first | assumption | exact Ne.symm (by assumption) | exact nA (by assumption) (by omega) (by omega) (by omega)) ?_⟩, by rfl, by rfl, fun i hi => (by rcases (show i = 0 ∨ i = 1 by omega) with rfl | rfl <;> exact ⟨rfl, rfl⟩), by repeat first | exact Fr.rf | refine Fr.st ?_ (by first | exact ⟨0, by omega, by omega, rfl⟩ | exact ⟨1, by omega, by omega, rfl⟩ | exact ⟨2, by omega, by omega, rfl⟩)⟩
set_option maxRecDepth 100000 in
set_option maxHeartbeats 4000000 in
theorem ct_X5_refuse {l : Launch} {G : Gl} {h : Hp} (ok : Ok G) {c : Nat} {f d : Nat → Int32} (R : RsW G h c f d) (x y : Int32) : CtP l G mX5_refuse 2 (0) (0) [.ref (Ad G 2), .int x, .int y] h (some (.int (-3))) (fun h' => ∃ f' d', RsW G h' 1 f' d' ∧ f' 0 = x ∧ d' 0 = y ∧ Fr (inB G 2 3) h h') := by
  obtain ⟨h2, h3, h4⟩ := R
  have n23 := nA ok (show 2 < 3000 by omega) (show 3 < 3000 by omega) (by omega)
  have n24 := nA ok (show 2 < 3000 by omega) (show 4 < 3000 by omega) (by omega)
  have n34 := nA ok (show 3 < 3000 by omega) (show 4 < 3000 by omega) (by omega)
  refine Ct.of (L := [(0, _), (1, _), (2, _)]) (by decide) (ble rfl) rfl ?_
  first | refine x_aload_n 0 dX5_refuse_0 rfl rfl ?_ | refine x_aload_nN 0 dX5_refuse_0 rfl rfl ?_
  refine x_iconst (v := 0) dX5_refuse_1 rfl ?_
  refine x_put fX5_18 rfl rfl rfl rfl dX5_refuse_2 (by with_reducible repeat first | assumption | exact hset_s | refine hget_n (by first | assumption | exact Ne.symm (by assumption) | exact nA (by assumption) (by omega) (by omega) (by omega)) ?_) (by exact ble rfl) (by first | assumption | exact aA (by assumption) (by omega)) ?_
  first | refine x_aload_n 0 dX5_refuse_5 rfl rfl ?_ | refine x_aload_nN 0 dX5_refuse_5 rfl rfl ?_
  refine x_iload_n 1 dX5_refuse_6 rfl rfl ?_
  refine x_iload_n 2 dX5_refuse_7 rfl rfl ?_
  refine x_pV1 (mc1 := 0) (ms1 := 0) (As := [.int _, .int _]) (ct_X5_wrap_0 ok (f := f) (d := d) ⟨hset_s, hget_n (Ne.symm n23) h3, hget_n (Ne.symm n24) h4⟩ x y) vX5_22 rfl (x_recv (by with_reducible repeat first | assumption | exact hset_s | refine hget_n (by first | assumption | exact Ne.symm (by assumption) | exact nA (by assumption) (by omega) (by omega) (by omega)) ?_) rfl) rfl ⟨ble rfl, ble rfl⟩ (ble rfl) dX5_refuse_8 rfl ⟨by omega, by omega⟩ (fun h8 q8 => ?_)
  obtain ⟨f1, d1, R1, e1, e2, -, F1⟩ := q8
  refine x_iret rfl dX5_refuse_11 ?_
  exact ⟨rfl, f1, d1, R1, e1, e2, Fr.tr (P := inB G 2 3) (P' := inB G 2 3) (Fr.rf.st (inB_0 (by omega))) F1 (fun _ q => q) (fun _ q => q)⟩
set_option maxRecDepth 100000 in
set_option maxHeartbeats 4000000 in
theorem ct_X1_size {l : Launch} {G : Gl} {h : Hp} {nx cn : Nat} (H : HiW G h nx cn) : CtR l G mX1_size 1 [.ref (Ad G 5)] h (some (.int (nI cn))) (h) := by
  obtain ⟨h5, h6⟩ := H
  refine Ct.of (L := [(0, _)]) (by decide) (ble rfl) rfl ?_
  first | refine x_aload_n 0 dX1_size_0 rfl rfl ?_ | refine x_aload_nN 0 dX1_size_0 rfl rfl ?_
  refine x_get fX1_21 rfl dX1_size_1 (by with_reducible repeat first | assumption | exact hset_s | refine hget_n (by first | assumption | exact Ne.symm (by assumption) | exact nA (by assumption) (by omega) (by omega) (by omega)) ?_) (by rfl) ?_
  refine x_iret rfl dX1_size_4 ?_
  exact ⟨rfl, rfl⟩
theorem n9 : ∀ n, n < 9 → ((nI n + 1) - (nI n + 1) / 9 * 9 = nI ((n + 1) % 9)) ∧ ((nI n + 8) - (nI n + 8) / 9 * 9 = nI ((n + 8) % 9)) ∧ (if 8 < nI n + 1 then 8 else nI n + 1) = nI (min (n + 1) 8) := by decide +kernel
theorem n8 : ∀ n, n < 9 → 0 < n → nI n - 1 = nI (n - 1) := by decide +kernel
set_option maxRecDepth 100000 in
set_option maxHeartbeats 4000000 in
theorem ct_X1_keep {l : Launch} {G : Gl} {h : Hp} {nx cn : Nat} (H : HiW G h nx cn) (ok : Ok G) (hx : nx < 9) (hc : cn < 9) : CtR l G mX1_keep 1 [.ref (Ad G 5)] h (none) (hset h (Ad G 5) (.inr (2, [.ref (Ad G 6), .int (nI ((nx + 1) % 9)), .int (nI (min (cn + 1) 8))]))) := by
  obtain ⟨h5, h6⟩ := H
  refine Ct.of (L := [(0, _)]) (by decide) (ble rfl) rfl ?_
  first | refine x_aload_n 0 dX1_keep_0 rfl rfl ?_ | refine x_aload_nN 0 dX1_keep_0 rfl rfl ?_
  first | refine x_aload_n 0 dX1_keep_1 rfl rfl ?_ | refine x_aload_nN 0 dX1_keep_1 rfl rfl ?_
  refine x_get fX1_17 rfl dX1_keep_2 (by with_reducible repeat first | assumption | exact hset_s | refine hget_n (by first | assumption | exact Ne.symm (by assumption) | exact nA (by assumption) (by omega) (by omega) (by omega)) ?_) (by rfl) ?_
  refine x_iconst (v := 1) dX1_keep_5 rfl ?_
  refine x_iadd dX1_keep_6 ?_
  refine x_bipush (v := 9) dX1_keep_7 rfl ?_
  refine x_irem dX1_keep_9 (by first | decide | assumption) ?_
  refine x_put fX1_17 rfl rfl rfl rfl dX1_keep_10 (by with_reducible repeat first | assumption | exact hset_s | refine hget_n (by first | assumption | exact Ne.symm (by assumption) | exact nA (by assumption) (by omega) (by omega) (by omega)) ?_) (by exact ble rfl) (by first | assumption | exact aA (by assumption) (by omega)) ?_
  first | refine x_aload_n 0 dX1_keep_13 rfl rfl ?_ | refine x_aload_nN 0 dX1_keep_13 rfl rfl ?_
  first | refine x_aload_n 0 dX1_keep_14 rfl rfl ?_ | refine x_aload_nN 0 dX1_keep_14 rfl rfl ?_
  refine x_get fX1_21 rfl dX1_keep_15 (by with_reducible repeat first | assumption | exact hset_s | refine hget_n (by first | assumption | exact Ne.symm (by assumption) | exact nA (by assumption) (by omega) (by omega) (by omega)) ?_) (by rfl) ?_
  refine x_iconst (v := 1) dX1_keep_18 rfl ?_
  refine x_iadd dX1_keep_19 ?_
  refine x_bipush (v := 8) dX1_keep_20 rfl ?_
  refine x_mmin rfl wX1_29 wMmin2 wMath3 wMmin4 (ble rfl) (ble rfl) dX1_keep_22 ?_
  refine x_putS fX1_21 rfl rfl rfl rfl dX1_keep_25 (by exact ble rfl) (by first | assumption | exact aA (by assumption) (by omega)) ?_
  refine x_vret rfl dX1_keep_28 ?_
  refine ⟨rfl, ?_⟩
  rw [← (n9 nx hx).1, ← (n9 cn hc).2.2]
  rfl
theorem sl31 : ∀ m, m ≤ 8 → (1 : Int32) <<< (nI m &&& 31) = nI (2 ^ m) := by decide +kernel
theorem nI_1s (s : Nat) : nI s + 1 = nI (s + 1) := nI_1 s
abbrev eG (G : Gl) (h : Hp) (B : Nat) (N : Nat → Int32) (np no : Nat) (g0 : Nat → Int32) : Hp := hset h (Ad G (B + 4)) (eI G 8 (gpN N np g0 no))
def newRow (N : Nat → Int32) : Prop := N 0 = 30 ∧ N 1 = 20 ∧ N 2 = 0 ∧ N 3 = 0 ∧ N 4 = 0 ∧ N 7 = 0 ∧ N 8 = 0 ∧ N 11 = 20
set_option maxRecDepth 100000 in
set_option maxHeartbeats 4000000 in
theorem ct_X8_copyFrom {l : Launch} {G : Gl} {h : Hp} {N M : Nat → Int32} {B C ns np no ns2 np2 no2 : Nat} (ok : Ok G) (hB : B + 60 < 3000) (hC : C + 60 < 3000) (hBC : B + 60 ≤ C ∨ C + 60 ≤ B) (H : ShW G h B N ns2 np2 no2) (H2 : ShW G h C M ns np no) : CtP l G mX8_copyFrom 2 (0) (0) [.ref (Ad G B), .ref (Ad G C)] h (none) (fun h' => ShW G h' B M ns np no ∧ Fr (inB G B 60) h h') := by
  have nBC := nA ok (show B < 3000 by omega) (show C < 3000 by omega) (by omega)
  have nCB := Ne.symm nBC
  obtain ⟨gp, I⟩ := CpI.init (M := M) ok hB H
  have hB0 := H.1
  obtain ⟨hsh0, has0, hap0, hao0, -, hns, hnp, hno, bs, bp, bo, hS0, hP0, hO0, -⟩ := id H2
  refine Ct.of (L := [(0, _), (1, _)]) (by decide) (ble rfl) rfl ?_
  first | refine x_aload_n 0 dX8_copyFrom_0 rfl rfl ?_ | refine x_aload_nN 0 dX8_copyFrom_0 rfl rfl ?_
  first | refine x_aload_n 1 dX8_copyFrom_1 rfl rfl ?_ | refine x_aload_nN 1 dX8_copyFrom_1 rfl rfl ?_
  refine x_get fX8_33 rfl dX8_copyFrom_2 (by with_reducible repeat first | assumption | exact hset_s | refine hget_n (by first | assumption | exact Ne.symm (by assumption) | exact nA (by assumption) (by omega) (by omega) (by omega)) ?_) (by rfl) ?_
  refine x_put fX8_33 rfl rfl rfl rfl dX8_copyFrom_5 (by with_reducible repeat first | assumption | exact hset_s | refine hget_n (by first | assumption | exact Ne.symm (by assumption) | exact nA (by assumption) (by omega) (by omega) (by omega)) ?_) (by exact ble rfl) (by first | assumption | exact aA (by assumption) (by omega)) ?_
  first | refine x_aload_n 0 dX8_copyFrom_8 rfl rfl ?_ | refine x_aload_nN 0 dX8_copyFrom_8 rfl rfl ?_
  first | refine x_aload_n 1 dX8_copyFrom_9 rfl rfl ?_ | refine x_aload_nN 1 dX8_copyFrom_9 rfl rfl ?_
  refine x_get fX8_37 rfl dX8_copyFrom_10 (by with_reducible repeat first | assumption | exact hset_s | refine hget_n (by first | assumption | exact Ne.symm (by assumption) | exact nA (by assumption) (by omega) (by omega) (by omega)) ?_) (by rfl) ?_
  refine x_putS fX8_37 rfl rfl rfl rfl dX8_copyFrom_13 (by exact ble rfl) (by first | assumption | exact aA (by assumption) (by omega)) ?_
  first | refine x_aload_n 0 dX8_copyFrom_16 rfl rfl ?_ | refine x_aload_nN 0 dX8_copyFrom_16 rfl rfl ?_
  first | refine x_aload_n 1 dX8_copyFrom_17 rfl rfl ?_ | refine x_aload_nN 1 dX8_copyFrom_17 rfl rfl ?_
  refine x_get fX8_40 rfl dX8_copyFrom_18 (by with_reducible repeat first | assumption | exact hset_s | refine hget_n (by first | assumption | exact Ne.symm (by assumption) | exact nA (by assumption) (by omega) (by omega) (by omega)) ?_) (by rfl) ?_
  refine x_putS fX8_40 rfl rfl rfl rfl dX8_copyFrom_21 (by exact ble rfl) (by first | assumption | exact aA (by assumption) (by omega)) ?_
  first | refine x_aload_n 0 dX8_copyFrom_24 rfl rfl ?_ | refine x_aload_nN 0 dX8_copyFrom_24 rfl rfl ?_
  first | refine x_aload_n 1 dX8_copyFrom_25 rfl rfl ?_ | refine x_aload_nN 1 dX8_copyFrom_25 rfl rfl ?_
  refine x_get fX8_43 rfl dX8_copyFrom_26 (by with_reducible repeat first | assumption | exact hset_s | refine hget_n (by first | assumption | exact Ne.symm (by assumption) | exact nA (by assumption) (by omega) (by omega) (by omega)) ?_) (by rfl) ?_
  refine x_putS fX8_43 rfl rfl rfl rfl dX8_copyFrom_29 (by exact ble rfl) (by first | assumption | exact aA (by assumption) (by omega)) ?_
  first | refine x_aload_n 0 dX8_copyFrom_32 rfl rfl ?_ | refine x_aload_nN 0 dX8_copyFrom_32 rfl rfl ?_
  first | refine x_aload_n 1 dX8_copyFrom_33 rfl rfl ?_ | refine x_aload_nN 1 dX8_copyFrom_33 rfl rfl ?_
  refine x_get fX8_46 rfl dX8_copyFrom_34 (by with_reducible repeat first | assumption | exact hset_s | refine hget_n (by first | assumption | exact Ne.symm (by assumption) | exact nA (by assumption) (by omega) (by omega) (by omega)) ?_) (by rfl) ?_
  refine x_putS fX8_46 rfl rfl rfl rfl dX8_copyFrom_37 (by exact ble rfl) (by first | assumption | exact aA (by assumption) (by omega)) ?_
  first | refine x_aload_n 0 dX8_copyFrom_40 rfl rfl ?_ | refine x_aload_nN 0 dX8_copyFrom_40 rfl rfl ?_
  first | refine x_aload_n 1 dX8_copyFrom_41 rfl rfl ?_ | refine x_aload_nN 1 dX8_copyFrom_41 rfl rfl ?_
  refine x_get fX8_49 rfl dX8_copyFrom_42 (by with_reducible repeat first | assumption | exact hset_s | refine hget_n (by first | assumption | exact Ne.symm (by assumption) | exact nA (by assumption) (by omega) (by omega) (by omega)) ?_) (by rfl) ?_
  refine x_putS fX8_49 rfl rfl rfl rfl dX8_copyFrom_45 (by exact ble rfl) (by first | assumption | exact aA (by assumption) (by omega)) ?_
  first | refine x_aload_n 0 dX8_copyFrom_48 rfl rfl ?_ | refine x_aload_nN 0 dX8_copyFrom_48 rfl rfl ?_
  first | refine x_aload_n 1 dX8_copyFrom_49 rfl rfl ?_ | refine x_aload_nN 1 dX8_copyFrom_49 rfl rfl ?_
  refine x_get fX8_52 rfl dX8_copyFrom_50 (by with_reducible repeat first | assumption | exact hset_s | refine hget_n (by first | assumption | exact Ne.symm (by assumption) | exact nA (by assumption) (by omega) (by omega) (by omega)) ?_) (by rfl) ?_
  refine x_putS fX8_52 rfl rfl rfl rfl dX8_copyFrom_53 (by exact ble rfl) (by first | assumption | exact aA (by assumption) (by omega)) ?_
  first | refine x_aload_n 0 dX8_copyFrom_56 rfl rfl ?_ | refine x_aload_nN 0 dX8_copyFrom_56 rfl rfl ?_
  first | refine x_aload_n 1 dX8_copyFrom_57 rfl rfl ?_ | refine x_aload_nN 1 dX8_copyFrom_57 rfl rfl ?_
  refine x_get fX8_55 rfl dX8_copyFrom_58 (by with_reducible repeat first | assumption | exact hset_s | refine hget_n (by first | assumption | exact Ne.symm (by assumption) | exact nA (by assumption) (by omega) (by omega) (by omega)) ?_) (by rfl) ?_
  refine x_putS fX8_55 rfl rfl rfl rfl dX8_copyFrom_61 (by exact ble rfl) (by first | assumption | exact aA (by assumption) (by omega)) ?_
  refine x_iconst (v := 0) dX8_copyFrom_64 rfl ?_
  refine x_istore_n (L' := [(2, _), (0, _), (1, _)]) dX8_copyFrom_65 rfl (ble rfl) rfl ?_
  refine x_locs (L' := [(2, _), (0, _), (1, _)]) [0, 1, 2] rfl ?_
  refine dn (P := fun i => ∀ h1, CpI G h B M gp i 0 0 h1 → XX l G mX8_copyFrom (Rm 2 (0) (0)) (KQ G (Rm 2 (0) (0)) (fun w h' => w = none ∧ ShW G h' B M ns np no ∧ Fr (inB G B 60) h h')) (0) (0) 66 [(2, .int (nI i)), (0, .ref (Ad G B)), (1, .ref (Ad G C))] [] h1) (n := ns) ?_ (fun i hi ihi => ?_) _ I
  · intro h1 I
    have hsh := I.choose_spec.choose_spec.choose_spec.1.1
    refine x_iload_n 0 dX8_copyFrom_66 rfl rfl ?_
    first | refine x_aload_n 1 dX8_copyFrom_67 rfl rfl ?_ | refine x_aload_nN 1 dX8_copyFrom_67 rfl rfl ?_
    refine x_get fX8_33 rfl dX8_copyFrom_68 (by with_reducible repeat first | assumption | exact hset_s | refine hget_n (by first | assumption | exact Ne.symm (by assumption) | exact nA (by assumption) (by omega) (by omega) (by omega)) ?_) (by rfl) ?_
    refine x_icmp_ge 95 dX8_copyFrom_71 (by decide) (fun _ => ?_) (fun z => by first | exact absurd (by rw [hns]; exact Int32.le_refl _) z | exact absurd z (by rw [hns]; exact Int32.le_refl _))
    refine x_iconst (v := 0) dX8_copyFrom_95 rfl ?_
    refine x_istore_n (L' := [(2, _), (0, _), (1, _)]) dX8_copyFrom_96 rfl (ble rfl) rfl ?_
    refine x_locs (L' := [(2, _), (0, _), (1, _)]) [0, 1, 2] rfl ?_
    refine dn (P := fun i => ∀ h1, CpI G h B M gp ns i 0 h1 → XX l G mX8_copyFrom (Rm 2 (0) (0)) (KQ G (Rm 2 (0) (0)) (fun w h' => w = none ∧ ShW G h' B M ns np no ∧ Fr (inB G B 60) h h')) (0) (0) 97 [(2, .int (nI i)), (0, .ref (Ad G B)), (1, .ref (Ad G C))] [] h1) (n := np) ?_ (fun i hi ihi => ?_) _ I
    · intro h1 I
      have hsh := I.choose_spec.choose_spec.choose_spec.1.1
      refine x_iload_n 0 dX8_copyFrom_97 rfl rfl ?_
      first | refine x_aload_n 1 dX8_copyFrom_98 rfl rfl ?_ | refine x_aload_nN 1 dX8_copyFrom_98 rfl rfl ?_
      refine x_get fX8_37 rfl dX8_copyFrom_99 (by with_reducible repeat first | assumption | exact hset_s | refine hget_n (by first | assumption | exact Ne.symm (by assumption) | exact nA (by assumption) (by omega) (by omega) (by omega)) ?_) (by rfl) ?_
      refine x_icmp_ge 126 dX8_copyFrom_102 (by decide) (fun _ => ?_) (fun z => by first | exact absurd (by rw [hnp]; exact Int32.le_refl _) z | exact absurd z (by rw [hnp]; exact Int32.le_refl _))
      refine x_iconst (v := 0) dX8_copyFrom_126 rfl ?_
      refine x_istore_n (L' := [(2, _), (0, _), (1, _)]) dX8_copyFrom_127 rfl (ble rfl) rfl ?_
      refine x_locs (L' := [(2, _), (0, _), (1, _)]) [0, 1, 2] rfl ?_
      refine dn (P := fun i => ∀ h1, CpI G h B M gp ns np i h1 → XX l G mX8_copyFrom (Rm 2 (0) (0)) (KQ G (Rm 2 (0) (0)) (fun w h' => w = none ∧ ShW G h' B M ns np no ∧ Fr (inB G B 60) h h')) (0) (0) 128 [(2, .int (nI i)), (0, .ref (Ad G B)), (1, .ref (Ad G C))] [] h1) (n := no) ?_ (fun i hi ihi => ?_) _ I
      · intro h1 I
        have hsh := I.choose_spec.choose_spec.choose_spec.1.1
        refine x_iload_n 0 dX8_copyFrom_128 rfl rfl ?_
        first | refine x_aload_n 1 dX8_copyFrom_129 rfl rfl ?_ | refine x_aload_nN 1 dX8_copyFrom_129 rfl rfl ?_
        refine x_get fX8_40 rfl dX8_copyFrom_130 (by with_reducible repeat first | assumption | exact hset_s | refine hget_n (by first | assumption | exact Ne.symm (by assumption) | exact nA (by assumption) (by omega) (by omega) (by omega)) ?_) (by rfl) ?_
        refine x_icmp_ge 157 dX8_copyFrom_133 (by decide) (fun _ => ?_) (fun z => by first | exact absurd (by rw [hno]; exact Int32.le_refl _) z | exact absurd z (by rw [hno]; exact Int32.le_refl _))
        refine x_vret rfl dX8_copyFrom_157 ?_
        refine ⟨rfl, ?_⟩
        show ShW G h1 B M ns np no ∧ Fr (inB G B 60) h h1
        exact CpI.fin H2 I
      · intro h1 I
        obtain ⟨fs, fp, fo, S, ⟨X1, X2, X3⟩, ja, jb, jc, F⟩ := id I
        obtain ⟨hsh, has, hap, hao, -, SS, SP, SO⟩ := id S
        have kas := F _ _ has0 (nB ok (by omega) (by omega) (by omega))
        have kap := F _ _ hap0 (nB ok (by omega) (by omega) (by omega))
        have kao := F _ _ hao0 (nB ok (by omega) (by omega) (by omega))
        have ksh := F _ _ hsh0 (nB ok (by omega) (by omega) (by omega))
        obtain ⟨k, t, p, po, pd, e⟩ := X3 i (by omega)
        have hs := (SO i (by omega)).trans (congrArg some e)
        have hs2 := F _ _ (hO0 i hi).2 (by rw [Nat.add_assoc]; exact nB ok (by omega) (by omega) (by omega))
        refine x_iload_n 0 dX8_copyFrom_128 rfl rfl ?_
        first | refine x_aload_n 1 dX8_copyFrom_129 rfl rfl ?_ | refine x_aload_nN 1 dX8_copyFrom_129 rfl rfl ?_
        refine x_get fX8_40 rfl dX8_copyFrom_130 (by with_reducible repeat first | assumption | exact hset_s | refine hget_n (by first | assumption | exact Ne.symm (by assumption) | exact nA (by assumption) (by omega) (by omega) (by omega)) ?_) (by rfl) ?_
        refine x_icmp_ge 157 dX8_copyFrom_133 (by decide) (fun z => by first | exact absurd z (by rw [hno]; exact nI_ge hi (by omega)) | exact absurd (by rw [hno]; exact nI_ge hi (by omega)) z) (fun _ => ?_)
        first | refine x_aload_n 1 dX8_copyFrom_136 rfl rfl ?_ | refine x_aload_nN 1 dX8_copyFrom_136 rfl rfl ?_
        refine x_get fX8_25 rfl dX8_copyFrom_137 (by with_reducible repeat first | assumption | exact hset_s | refine hget_n (by first | assumption | exact Ne.symm (by assumption) | exact nA (by assumption) (by omega) (by omega) (by omega)) ?_) (by rfl) ?_
        refine x_iload_n 0 dX8_copyFrom_140 rfl rfl ?_
        refine x_aald 5 rfl dX8_copyFrom_141 (by with_reducible repeat first | assumption | exact hset_s | refine hget_n (by first | assumption | exact Ne.symm (by assumption) | exact nA (by assumption) (by omega) (by omega) (by omega)) ?_) (vp_in_nI (by omega) (by omega)) (v := .ref (Ad G (B + 50 + i))) (by rw [nI_clamp (by omega)]; rfl) ?_
        first | refine x_aload_n 2 dX8_copyFrom_142 rfl rfl ?_ | refine x_aload_nN 2 dX8_copyFrom_142 rfl rfl ?_
        refine x_get fX8_25 rfl dX8_copyFrom_143 (by with_reducible repeat first | assumption | exact hset_s | refine hget_n (by first | assumption | exact Ne.symm (by assumption) | exact nA (by assumption) (by omega) (by omega) (by omega)) ?_) (by rfl) ?_
        refine x_iload_n 0 dX8_copyFrom_146 rfl rfl ?_
        refine x_aald 5 rfl dX8_copyFrom_147 (by with_reducible repeat first | assumption | exact hset_s | refine hget_n (by first | assumption | exact Ne.symm (by assumption) | exact nA (by assumption) (by omega) (by omega) (by omega)) ?_) (vp_in_nI (by omega) (by omega)) (v := .ref (Ad G (C + 50 + i))) (by rw [nI_clamp (by omega)]; rfl) ?_
        refine x_cV0 (As := [.ref _]) (ct_X3_copyFrom (by with_reducible repeat first | assumption | exact hset_s | refine hget_n (by first | assumption | exact Ne.symm (by assumption) | exact nA (by assumption) (by omega) (by omega) (by omega)) ?_) (by with_reducible repeat first | assumption | exact hset_s | refine hget_n (by first | assumption | exact Ne.symm (by assumption) | exact nA (by assumption) (by omega) (by omega) (by omega)) ?_) (nA ok (by omega) (by omega) (by omega)) (aA ok (by omega))) vX8_70 rfl (x_recv (by with_reducible repeat first | assumption | exact hset_s | refine hget_n (by first | assumption | exact Ne.symm (by assumption) | exact nA (by assumption) (by omega) (by omega) (by omega)) ?_) rfl) rfl ⟨ble rfl, ble rfl⟩ (ble rfl) dX8_copyFrom_148 rfl ?_
        refine x_iinc (L' := [(2, _), (0, _), (1, _)]) (j := 0) (nI (_ + 1)) dX8_copyFrom_151 rfl (nI_1 _) (ble rfl) rfl ?_
        refine x_goto 128 dX8_copyFrom_154 (by decide) ?_
        refine x_locs (L' := [(2, _), (0, _), (1, _)]) [0, 1, 2] rfl ?_
        exact ihi _ (I.o ok hB (by omega))
    · intro h1 I
      obtain ⟨fs, fp, fo, S, ⟨X1, X2, X3⟩, ja, jb, jc, F⟩ := id I
      obtain ⟨hsh, has, hap, hao, -, SS, SP, SO⟩ := id S
      have kas := F _ _ has0 (nB ok (by omega) (by omega) (by omega))
      have kap := F _ _ hap0 (nB ok (by omega) (by omega) (by omega))
      have kao := F _ _ hao0 (nB ok (by omega) (by omega) (by omega))
      have ksh := F _ _ hsh0 (nB ok (by omega) (by omega) (by omega))
      obtain ⟨k, sh, g, b, t, r, m, q, e⟩ := X2 i (by omega)
      have hs := (SP i (by omega)).trans (congrArg some e)
      have hs2 := F _ _ (hP0 i hi).2 (by rw [Nat.add_assoc]; exact nB ok (by omega) (by omega) (by omega))
      refine x_iload_n 0 dX8_copyFrom_97 rfl rfl ?_
      first | refine x_aload_n 1 dX8_copyFrom_98 rfl rfl ?_ | refine x_aload_nN 1 dX8_copyFrom_98 rfl rfl ?_
      refine x_get fX8_37 rfl dX8_copyFrom_99 (by with_reducible repeat first | assumption | exact hset_s | refine hget_n (by first | assumption | exact Ne.symm (by assumption) | exact nA (by assumption) (by omega) (by omega) (by omega)) ?_) (by rfl) ?_
      refine x_icmp_ge 126 dX8_copyFrom_102 (by decide) (fun z => by first | exact absurd z (by rw [hnp]; exact nI_ge hi (by omega)) | exact absurd (by rw [hnp]; exact nI_ge hi (by omega)) z) (fun _ => ?_)
      first | refine x_aload_n 1 dX8_copyFrom_105 rfl rfl ?_ | refine x_aload_nN 1 dX8_copyFrom_105 rfl rfl ?_
      refine x_get fX8_19 rfl dX8_copyFrom_106 (by with_reducible repeat first | assumption | exact hset_s | refine hget_n (by first | assumption | exact Ne.symm (by assumption) | exact nA (by assumption) (by omega) (by omega) (by omega)) ?_) (by rfl) ?_
      refine x_iload_n 0 dX8_copyFrom_109 rfl rfl ?_
      refine x_aald 4 rfl dX8_copyFrom_110 (by with_reducible repeat first | assumption | exact hset_s | refine hget_n (by first | assumption | exact Ne.symm (by assumption) | exact nA (by assumption) (by omega) (by omega) (by omega)) ?_) (vp_in_nI (by omega) (by omega)) (v := .ref (Ad G (B + 30 + i))) (by rw [nI_clamp (by omega)]; rfl) ?_
      first | refine x_aload_n 2 dX8_copyFrom_111 rfl rfl ?_ | refine x_aload_nN 2 dX8_copyFrom_111 rfl rfl ?_
      refine x_get fX8_19 rfl dX8_copyFrom_112 (by with_reducible repeat first | assumption | exact hset_s | refine hget_n (by first | assumption | exact Ne.symm (by assumption) | exact nA (by assumption) (by omega) (by omega) (by omega)) ?_) (by rfl) ?_
      refine x_iload_n 0 dX8_copyFrom_115 rfl rfl ?_
      refine x_aald 4 rfl dX8_copyFrom_116 (by with_reducible repeat first | assumption | exact hset_s | refine hget_n (by first | assumption | exact Ne.symm (by assumption) | exact nA (by assumption) (by omega) (by omega) (by omega)) ?_) (vp_in_nI (by omega) (by omega)) (v := .ref (Ad G (C + 30 + i))) (by rw [nI_clamp (by omega)]; rfl) ?_
      refine x_cV0 (As := [.ref _]) (ct_X4_copyFrom (by with_reducible repeat first | assumption | exact hset_s | refine hget_n (by first | assumption | exact Ne.symm (by assumption) | exact nA (by assumption) (by omega) (by omega) (by omega)) ?_) (by with_reducible repeat first | assumption | exact hset_s | refine hget_n (by first | assumption | exact Ne.symm (by assumption) | exact nA (by assumption) (by omega) (by omega) (by omega)) ?_) (nA ok (by omega) (by omega) (by omega)) (aA ok (by omega))) vX8_67 rfl (x_recv (by with_reducible repeat first | assumption | exact hset_s | refine hget_n (by first | assumption | exact Ne.symm (by assumption) | exact nA (by assumption) (by omega) (by omega) (by omega)) ?_) rfl) rfl ⟨ble rfl, ble rfl⟩ (ble rfl) dX8_copyFrom_117 rfl ?_
      refine x_iinc (L' := [(2, _), (0, _), (1, _)]) (j := 0) (nI (_ + 1)) dX8_copyFrom_120 rfl (nI_1 _) (ble rfl) rfl ?_
      refine x_goto 97 dX8_copyFrom_123 (by decide) ?_
      refine x_locs (L' := [(2, _), (0, _), (1, _)]) [0, 1, 2] rfl ?_
      exact ihi _ (I.p ok hB (by omega))
  · intro h1 I
    obtain ⟨fs, fp, fo, S, ⟨X1, X2, X3⟩, ja, jb, jc, F⟩ := id I
    obtain ⟨hsh, has, hap, hao, -, SS, SP, SO⟩ := id S
    have kas := F _ _ has0 (nB ok (by omega) (by omega) (by omega))
    have kap := F _ _ hap0 (nB ok (by omega) (by omega) (by omega))
    have kao := F _ _ hao0 (nB ok (by omega) (by omega) (by omega))
    have ksh := F _ _ hsh0 (nB ok (by omega) (by omega) (by omega))
    obtain ⟨g, fa, ar, ps, e⟩ := X1 i (by omega)
    have hs := (SS i (by omega)).trans (congrArg some e)
    have hs2 := F _ _ (hS0 i hi) (by rw [Nat.add_assoc]; exact nB ok (by omega) (by omega) (by omega))
    refine x_iload_n 0 dX8_copyFrom_66 rfl rfl ?_
    first | refine x_aload_n 1 dX8_copyFrom_67 rfl rfl ?_ | refine x_aload_nN 1 dX8_copyFrom_67 rfl rfl ?_
    refine x_get fX8_33 rfl dX8_copyFrom_68 (by with_reducible repeat first | assumption | exact hset_s | refine hget_n (by first | assumption | exact Ne.symm (by assumption) | exact nA (by assumption) (by omega) (by omega) (by omega)) ?_) (by rfl) ?_
    refine x_icmp_ge 95 dX8_copyFrom_71 (by decide) (fun z => by first | exact absurd z (by rw [hns]; exact nI_ge hi (by omega)) | exact absurd (by rw [hns]; exact nI_ge hi (by omega)) z) (fun _ => ?_)
    first | refine x_aload_n 1 dX8_copyFrom_74 rfl rfl ?_ | refine x_aload_nN 1 dX8_copyFrom_74 rfl rfl ?_
    refine x_get fX8_11 rfl dX8_copyFrom_75 (by with_reducible repeat first | assumption | exact hset_s | refine hget_n (by first | assumption | exact Ne.symm (by assumption) | exact nA (by assumption) (by omega) (by omega) (by omega)) ?_) (by rfl) ?_
    refine x_iload_n 0 dX8_copyFrom_78 rfl rfl ?_
    refine x_aald 3 rfl dX8_copyFrom_79 (by with_reducible repeat first | assumption | exact hset_s | refine hget_n (by first | assumption | exact Ne.symm (by assumption) | exact nA (by assumption) (by omega) (by omega) (by omega)) ?_) (vp_in_nI (by omega) (by omega)) (v := .ref (Ad G (B + 10 + i))) (by rw [nI_clamp (by omega)]; rfl) ?_
    first | refine x_aload_n 2 dX8_copyFrom_80 rfl rfl ?_ | refine x_aload_nN 2 dX8_copyFrom_80 rfl rfl ?_
    refine x_get fX8_11 rfl dX8_copyFrom_81 (by with_reducible repeat first | assumption | exact hset_s | refine hget_n (by first | assumption | exact Ne.symm (by assumption) | exact nA (by assumption) (by omega) (by omega) (by omega)) ?_) (by rfl) ?_
    refine x_iload_n 0 dX8_copyFrom_84 rfl rfl ?_
    refine x_aald 3 rfl dX8_copyFrom_85 (by with_reducible repeat first | assumption | exact hset_s | refine hget_n (by first | assumption | exact Ne.symm (by assumption) | exact nA (by assumption) (by omega) (by omega) (by omega)) ?_) (vp_in_nI (by omega) (by omega)) (v := .ref (Ad G (C + 10 + i))) (by rw [nI_clamp (by omega)]; rfl) ?_
    refine x_cV0 (As := [.ref _]) (ct_X7_copyFrom (by with_reducible repeat first | assumption | exact hset_s | refine hget_n (by first | assumption | exact Ne.symm (by assumption) | exact nA (by assumption) (by omega) (by omega) (by omega)) ?_) (by with_reducible repeat first | assumption | exact hset_s | refine hget_n (by first | assumption | exact Ne.symm (by assumption) | exact nA (by assumption) (by omega) (by omega) (by omega)) ?_) (nA ok (by omega) (by omega) (by omega)) (aA ok (by omega))) vX8_63 rfl (x_recv (by with_reducible repeat first | assumption | exact hset_s | refine hget_n (by first | assumption | exact Ne.symm (by assumption) | exact nA (by assumption) (by omega) (by omega) (by omega)) ?_) rfl) rfl ⟨ble rfl, ble rfl⟩ (ble rfl) dX8_copyFrom_86 rfl ?_
    refine x_iinc (L' := [(2, _), (0, _), (1, _)]) (j := 0) (nI (_ + 1)) dX8_copyFrom_89 rfl (nI_1 _) (ble rfl) rfl ?_
    refine x_goto 66 dX8_copyFrom_92 (by decide) ?_
    refine x_locs (L' := [(2, _), (0, _), (1, _)]) [0, 1, 2] rfl ?_
    exact ihi _ (I.s ok hB (by omega))
set_option maxRecDepth 100000 in
set_option maxHeartbeats 4000000 in
theorem ct_X1_note {l : Launch} {G : Gl} {h : Hp} (ok : Ok G) {nx cn : Nat} (H : HiW G h nx cn) (hx : nx < 9) {N M : Nat → Int32} {ns np no ns2 np2 no2 : Nat} (HR : ShW G h (100 * (nx + 1)) M ns2 np2 no2) (HS : ShW G h 1000 N ns np no) : CtP l G mX1_note 3 (0) (0) [.ref (Ad G 5), .ref (Ad G 1000)] h (none) (fun h' => ShW G h' (100 * (nx + 1)) N ns np no ∧ Fr (inB G (100 * (nx + 1)) 60) h h') := by
  obtain ⟨h5, h6⟩ := H
  refine Ct.of (L := [(0, _), (1, _)]) (by decide) (ble rfl) rfl ?_
  first | refine x_aload_n 0 dX1_note_0 rfl rfl ?_ | refine x_aload_nN 0 dX1_note_0 rfl rfl ?_
  refine x_get fX1_11 rfl dX1_note_1 (by with_reducible repeat first | assumption | exact hset_s | refine hget_n (by first | assumption | exact Ne.symm (by assumption) | exact nA (by assumption) (by omega) (by omega) (by omega)) ?_) (by rfl) ?_
  first | refine x_aload_n 0 dX1_note_4 rfl rfl ?_ | refine x_aload_nN 0 dX1_note_4 rfl rfl ?_
  refine x_get fX1_17 rfl dX1_note_5 (by with_reducible repeat first | assumption | exact hset_s | refine hget_n (by first | assumption | exact Ne.symm (by assumption) | exact nA (by assumption) (by omega) (by omega) (by omega)) ?_) (by rfl) ?_
  refine x_aald 6 rfl dX1_note_8 (by with_reducible repeat first | assumption | exact hset_s | refine hget_n (by first | assumption | exact Ne.symm (by assumption) | exact nA (by assumption) (by omega) (by omega) (by omega)) ?_) (vp_in_nI (by omega) (by omega)) (v := .ref (Ad G (100 * (nx + 1)))) (by rw [nI_clamp (by omega)]; rfl) ?_
  first | refine x_aload_n 1 dX1_note_9 rfl rfl ?_ | refine x_aload_nN 1 dX1_note_9 rfl rfl ?_
  refine x_pV0 (mc1 := 0) (ms1 := 0) (As := [.ref _]) (ct_X8_copyFrom ok (by omega) (by omega) (by omega) HR HS) vX1_25 rfl (x_recv HR.1 rfl) rfl ⟨ble rfl, ble rfl⟩ (ble rfl) dX1_note_10 rfl ⟨by omega, by omega⟩ (fun h10 q10 => ?_)
  refine x_vret rfl dX1_note_13 ?_
  exact ⟨rfl, q10⟩
theorem nB0 {G : Gl} (ok : Ok G) {lo n : Nat} (hl : lo + n ≤ 3000) {a : Nat} (ha : a < 3000) (h : a < lo ∨ lo + n ≤ a) : ∀ i, i < n → Ad G (lo + i) ≠ Ad G a := fun i hi => nA ok (by omega) ha (by omega)
