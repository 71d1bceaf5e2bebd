/-! ===== more of the calculus: wide constants, new objects and arrays ===== -/
section CALC4
variable {l : Launch} {G : Gl} {M : MM} {rm : Room} {K : List Frame → Array Value → State → State → Prop} {Q : Option Value → Hp → Prop} {mc ms pc : Nat} {L L' : List (Nat × Value)} {st : List Value} {h : Hp}
theorem x_ldcw {own : String} {index : Nat} {v : Int32} (hown : M.1.cls = own) (hc : Cond.constant own index v ∈ lw_tbl) (hd : decode M.2.1 pc = .ok (.ldc_w index, 3)) (k : XX l G M rm K mc ms (pc + 3) L (.int v :: st) h) : XX l G M rm K mc ms pc L st h :=
  fun p e s m args below meth c C H locs cells slots ls hR hS hl h1 h2 => lv_ldcw C.1 C.2.1 (C.own hown) (C.w (tg hc rfl)) hd (k p e s m args below meth c C H locs cells slots ls hR hS hl h1 h2)
theorem hset_self {a : Nat} {e : va_E} (he : h a = some e) : hset h a e = h := by
  funext q
  by_cases hq : q = a
  · subst hq; rw [hset_s, he]
  · rw [hset_n hq]
theorem x_new {own C0 : String} {T : u_T} {N ci index : Nat} (ty : Nat → FieldType) {fs : List Value} (hin : ∀ w ∈ u_ws C0 T N, w ∈ lw_tbl) (hty : ∀ k, k < N → parseFieldDescriptor (T k).2.2.1 = some (ty k)) (hc : vwCl[ci]? = some (C0, T, N)) (hown : M.1.cls = own) (w1 : Cond.classLink own index C0 ∈ lw_tbl) (w2 : Cond.instantiable C0 N ∈ lw_tbl) (w3 : Cond.initialized C0 ∈ lw_tbl) (hfs : ∀ j, j < N → defaultValue (ty j) = vp_V fs j) (hd : decode M.2.1 pc = .ok (.new index, 3))
    (kk : ∀ q : Nat, h q = none → G.2.2.1 q → XX l G M rm K mc ms (pc + 3) L (.ref q :: st) (hset h q (.inr (ci, fs)))) : XX l G M rm K (mc + 1) (ms + N) pc L st h := by
  intro p e s m args below meth c C H locs cells slots ls hR hS hl h1 h2
  have hKn := C.st.1.1 ci _ hc
  have hts : ∀ w ∈ Tg, w.before args s = true := fun w hw => C.w hw
  refine W.newcK C.1 C.2.1 (C.own hown) (C.w (tg w1 rfl)) (C.w (tg w2 rfl)) (C.w (tg w3 rfl)) rfl hd (by omega) (by omega) hKn.2.1 rfl fun H1 kC hkC e1 z1 o1 => ?_
  obtain ⟨g1, g2⟩ := hR.new (e := .inr (ci, fs)) ⟨_, hc, (u_born ty hts (tg_lay hin) hKn hkC e1 hty).to hfs⟩ (fun q hq => o1 q hq)
  exact kk H.size g1 (C.2.2.2.2.2.2.2.2.2 _ hS.1) p e s m args below meth c C H1 locs (cells + 1) (slots + N) ls g2 ⟨Nat.le_trans hS.1 (by omega), fun x h1 h2 => (o1 x (Nat.lt_of_lt_of_le h1 hS.1)).trans (hS.2.1 x h1 h2), hS.2.2⟩ hl (by omega) (by omega)
theorem x_newa {atype : ArrayType} {ty : FieldType} (t0 n : Nat) {cA : ClassId} {f : Nat → Int32} (hat : newarray.typeOf atype = ty) (ht : (tysOf G)[t0]? = some (cA, ty)) (w1 : Cond.arrayClass ty ∈ lw_tbl) (hdef : defaultValue ty = .int 0) (hf : f = fun _ => 0) (hnr : va_RA = va_RA) (href : ∀ C0 : String, ty ≠ .object C0) (hb : n * componentBytes ty ≤ 536870912) (hn31 : n < 2 ^ 31) (hd : decode M.2.1 pc = .ok (.newarray atype, 2))
    (kk : ∀ q : Nat, h q = none → G.2.2.1 q → XX l G M rm K mc ms (pc + 2) L (.ref q :: st) (hset h q (.inl (cA, n, .inl f)))) : XX l G M rm K (mc + 1) (ms + n) pc L (.int (nI n) :: st) h := by
  intro p e s m args below meth c C H locs cells slots ls hR hS hl h1 h2
  subst hat; subst hf
  have hcl := nI_clamp hn31
  refine W.newa C.1 C.2.1 (C.w (tg w1 rfl)) rfl hd rfl (nI_pos hn31) (by rw [hcl]; exact hb) (by omega) (by rw [hcl]; omega) fun cA' kA comp f1 f2 f3 => ?_
  rw [hcl]
  have hRA := (C.st.1.2 t0 _ ht).2
  have hid : cA' = cA := by
    have h9 : s.vm.findClass ("[" ++ (newarray.typeOf atype).toString) = some cA := by
      unfold va_RA at hRA
      split at hRA
      · rename_i C0 hC0
        exact absurd hC0 (href C0)
      · exact hRA
    exact Option.some.inj (f1.symm.trans h9)
  subst hid
  generalize hH1 : H.push ({ cls := cA', slots := Array.replicate n (defaultValue (newarray.typeOf atype)), vm := .none } : Cell) = H1
  have z1 : H1.size = H.size + 1 := by rw [← hH1, Array.size_push]
  have e1 : H1[H.size]? = some (arrV cA' n (fun _ => .int 0)) := by
    rw [← hH1, Array.getElem?_push_size, hdef]
    congr 1
    unfold arrV
    congr 1
    apply Array.ext
    · simp
    · intro i h1 h2
      simp
  have o1 : ∀ q : Nat, q < H.size → H1[q]? = H[q]? := fun q hq => by rw [← hH1, Array.getElem?_push, if_neg (Nat.ne_of_lt hq)]
  obtain ⟨g1, g2⟩ := hR.new (e := .inl (cA', n, .inl (fun _ => 0))) e1 (fun q hq => o1 q hq)
  exact kk H.size g1 (C.2.2.2.2.2.2.2.2.2 _ hS.1) p e s m args below meth c C H1 locs (cells + 1) (slots + n) ls g2 ⟨Nat.le_trans hS.1 (by omega), fun x h1 h2 => (o1 x (Nat.lt_of_lt_of_le h1 hS.1)).trans (hS.2.1 x h1 h2), hS.2.2⟩ hl (by omega) (by omega)
theorem x_newq {own C0 : String} {index : Nat} (t0 n : Nat) {cA : ClassId} (hown : M.1.cls = own) (ht : (tysOf G)[t0]? = some (cA, .object C0)) (w1 : Cond.classLink own index C0 ∈ lw_tbl) (w2 : Cond.arrayOver (.object C0) ∈ lw_tbl) (hb : n * 4 ≤ 536870912) (hn31 : n < 2 ^ 31) (hd : decode M.2.1 pc = .ok (.anewarray index, 3))
    (kk : ∀ q : Nat, h q = none → G.2.2.1 q → XX l G M rm K mc ms (pc + 3) L (.ref q :: st) (hset h q (.inl (cA, n, .inr (.inr (.inr (.inr (fun _ => none)))))))) : XX l G M rm K (mc + 1) (ms + n) pc L (.int (nI n) :: st) h := by
  intro p e s m args below meth c C H locs cells slots ls hR hS hl h1 h2
  have hcl := nI_clamp hn31
  refine W.anew C.1 C.2.1 (C.own hown) (C.w (tg w1 rfl)) (va_AO.use (C.st.2.2.1 C0 w2)) rfl hd rfl (nI_pos hn31) (by rw [hcl]; exact hb) (by omega) (by rw [hcl]; omega) fun cA' kA comp f1 f2 f3 f4 => ?_
  rw [hcl]
  obtain ⟨kA2, comp2, g1, g2, g3, g4⟩ := (C.st.1.2 t0 _ ht).2
  have hid : cA' = cA := Option.some.inj (f1.symm.trans g4)
  subst hid
  generalize hH1 : H.push ({ cls := cA', slots := Array.replicate n .null, vm := .none } : Cell) = H1
  have z1 : H1.size = H.size + 1 := by rw [← hH1, Array.size_push]
  have e1 : H1[H.size]? = some (arrV cA' n (fun _ => .null)) := by
    rw [← hH1, Array.getElem?_push_size]
    congr 1
    unfold arrV
    congr 1
    apply Array.ext
    · simp
    · intro i h1 h2
      simp
  have o1 : ∀ q : Nat, q < H.size → H1[q]? = H[q]? := fun q hq => by rw [← hH1, Array.getElem?_push, if_neg (Nat.ne_of_lt hq)]
  obtain ⟨g1, g2⟩ := hR.new (e := .inl (cA', n, .inr (.inr (.inr (.inr (fun _ => none)))))) e1 (fun q hq => o1 q hq)
  exact kk H.size g1 (C.2.2.2.2.2.2.2.2.2 _ hS.1) p e s m args below meth c C H1 locs (cells + 1) (slots + n) ls g2 ⟨Nat.le_trans hS.1 (by omega), fun x h1 h2 => (o1 x (Nat.lt_of_lt_of_le h1 hS.1)).trans (hS.2.1 x h1 h2), hS.2.2⟩ hl (by omega) (by omega)
/-- a reference into an array of its class -/
theorem x_aast {cA : ClassId} {C0 : String} {T : u_T} {N0 n a b ci : Nat} (t0 : Nat) {f : Nat → Option Nat} {fs : List Value} {i : Int32} (ht : (tysOf G)[t0]? = some (cA, .object C0)) (hd : decode M.2.1 pc = .ok (.aastore, 1)) (he : h a = some (.inl (cA, n, .inr (.inr (.inr (.inr f)))))) (hv : h b = some (.inr (ci, fs))) (hc : vwCl[ci]? = some (C0, T, N0)) (hin : vp_in i n) (hA : G.2.2.1 a)
    (kk : XX l G M rm K mc ms (pc + 1) L st (hset h a (.inl (cA, n, .inr (.inr (.inr (.inr (va_up f i.toNatClampNeg (some b)))))))))  : XX l G M rm K mc ms pc L (.ref b :: .int i :: .ref a :: st) h := by
  intro p e s m args below meth c C H locs cells slots ls hR hS hl h1 h2
  have hK := C.st.1
  have hlt : i.toNatClampNeg < n := Nat.not_le.mp fun q => hin (Or.inr q)
  have h0 : ¬ i < 0 := fun q => hin (Or.inl q)
  obtain ⟨r', hr', cellV, g1, g2, g3, -⟩ := hR b _ hv
  have hcls := (hK.1 ci _ hc).2
  obtain ⟨kA, comp, k1, k2, k3, -⟩ := (hK.2 t0 _ ht).2
  have hcomp : comp = G.1.1 ci := Option.some.inj (k3.symm.trans hcls.1)
  subst hcomp
  obtain ⟨kC, hkC, -⟩ := hcls.2
  refine W.aast C.1 C.2.1 (hR a _ he) (fun q h => by cases h) (fun h => by cases h) k1 k2 rfl hkC ⟨h0, by show _ < (arrV _ _ _).slots.size; rw [arrV_size]; exact hlt⟩ g1 (fun q h => by rw [g3] at h; cases h) (by rw [g2]; exact hkC) (by rw [g2]; exact va_assign hcls) rfl rfl hd fun H1 e z oq => ?_
  refine kk p _ s m args below meth c C H1 _ cells slots ls (hR.put ?_ oq) (hS.put z oq hA) hl h1 h2
  show H1[a]? = some (vp_cell _ _)
  rw [e]
  rw [vp_cell_q, vp_cell_q, arrV_store]
  congr 2
  funext q
  by_cases hq : q = i.toNatClampNeg
  · subst hq
    simp [updV, va_up, va_rf]
  · simp [updV, va_up, hq]
end CALC4
def bc0 (x : Int32) : Int32 := x - ((x.toUInt32 >>> ((1 : Int32).toUInt32 &&& Int32.toUInt32 31)).toInt32 &&& 1431655765)
def bc1 (x : Int32) : Int32 := (x &&& 858993459) + ((x.toUInt32 >>> ((2 : Int32).toUInt32 &&& Int32.toUInt32 31)).toInt32 &&& 858993459)
def bc2 (x : Int32) : Int32 := (x + (x.toUInt32 >>> ((4 : Int32).toUInt32 &&& Int32.toUInt32 31)).toInt32) &&& 252645135
def bc3 (x : Int32) : Int32 := x + (x.toUInt32 >>> ((8 : Int32).toUInt32 &&& Int32.toUInt32 31)).toInt32
def bc4 (x : Int32) : Int32 := x + (x.toUInt32 >>> ((16 : Int32).toUInt32 &&& Int32.toUInt32 31)).toInt32
/-- Integer.bitCount -/
def bcI (x : Int32) : Int32 := bc4 (bc3 (bc2 (bc1 (bc0 x)))) &&& 63
theorem orF_s (f : Nat → Int32) (n : Nat) : orF f (n + 1) = orF f n ||| f n := rfl
def lwB (N : Nat → Int32) (giv : Int32) (j i : Nat) : Bool := decide ((giv >>> (nI i &&& 31)) &&& 1 = 0) && !decide (goodN N i j = 0)
def lowN (N : Nat → Int32) (giv : Int32) (j np : Nat) : Int32 := lowF (lwB N giv j) np np
set_option maxRecDepth 100000 in
set_option maxHeartbeats 4000000 in
theorem ct_X8_lowestGood {l : Launch} {G : Gl} {h : Hp} {N : Nat → Int32} {B ns np no : Nat} (ok : Ok G) (hB : B + 60 < 3000) (H : ShW G h B N ns np no) {j : Nat} (hj : j < no) (giv : Int32) : CtR l G mX8_lowestGood 5 [.ref (Ad G B), .ref (Ad G (B + 50 + j)), .int giv] h (some (.int (lowN N giv j np))) (h) := by
  obtain ⟨hsh, has, hap, hao, ⟨gp, hag⟩, hns, hnp, hno, bs, bp, bo, hS, hP, hO, hS2, hP2, hO2⟩ := H
  obtain ⟨hk2, hq⟩ := hO j hj
  refine Ct.of (L := [(0, _), (1, _), (2, _)]) (by decide) (ble rfl) rfl ?_
  refine x_iconst (v := 0) dX8_lowestGood_0 rfl ?_
  refine x_istore_n (L' := [(3, _), (0, _), (1, _), (2, _)]) dX8_lowestGood_1 rfl (ble rfl) rfl ?_
  refine x_locs (L' := [(3, _), (0, _), (1, _), (2, _)]) [0, 1, 2, 3] rfl ?_
  refine dn (P := fun i => lowF (lwB N giv j) np (np - i) = lowN N giv j np → XX l G mX8_lowestGood (Rm 5 0 0) (KQ G (Rm 5 0 0) (fun w h' => w = some (.int (lowN N giv j np)) ∧ h' = h)) 0 0 2 [(3, .int (nI i)), (0, .ref (Ad G B)), (1, .ref (Ad G (B + 50 + j))), (2, .int giv)] [] h) (n := np) ?_ (fun i hi ihi => ?_) rfl
  · intro he
    refine x_iload_n 0 dX8_lowestGood_2 rfl rfl ?_
    first | refine x_aload_n 1 dX8_lowestGood_3 rfl rfl ?_ | refine x_aload_nN 1 dX8_lowestGood_3 rfl rfl ?_
    refine x_get fX8_37 rfl dX8_lowestGood_4 (by with_reducible repeat first | assumption | exact hset_s | refine hget_n (by first | assumption | exact Ne.symm (by assumption) | exact nA (by assumption) (by omega) (by omega) (by omega)) ?_) (by rfl) ?_
    refine x_icmp_ge 40 dX8_lowestGood_7 (by decide) (fun _ => ?_) (fun z => by first | exact absurd (by rw [hnp]; exact Int32.le_refl _) z | exact absurd z (by rw [hnp]; exact Int32.le_refl _))
    refine x_bipush (v := -4) dX8_lowestGood_40 rfl ?_
    refine x_iret rfl dX8_lowestGood_42 ?_
    refine ⟨congrArg (fun z => some (Value.int z)) ?_, rfl⟩
    first | (rw [lowF_at hi, if_pos (by unfold lwB goodN; simp_all)] at he; exact he) | (rw [Nat.sub_self] at he; exact he)
  · intro he
    obtain ⟨hk, hp⟩ := hP i hi
    refine x_iload_n 0 dX8_lowestGood_2 rfl rfl ?_
    first | refine x_aload_n 1 dX8_lowestGood_3 rfl rfl ?_ | refine x_aload_nN 1 dX8_lowestGood_3 rfl rfl ?_
    refine x_get fX8_37 rfl dX8_lowestGood_4 (by with_reducible repeat first | assumption | exact hset_s | refine hget_n (by first | assumption | exact Ne.symm (by assumption) | exact nA (by assumption) (by omega) (by omega) (by omega)) ?_) (by rfl) ?_
    refine x_icmp_ge 40 dX8_lowestGood_7 (by decide) (fun z => by first | exact absurd z (by rw [hnp]; exact nI_ge hi (by omega)) | exact absurd (by rw [hnp]; exact nI_ge hi (by omega)) z) (fun _ => ?_)
    refine x_iload_n 3 dX8_lowestGood_10 rfl rfl ?_
    refine x_iload_n 0 dX8_lowestGood_11 rfl rfl ?_
    refine x_ishr dX8_lowestGood_12 ?_
    refine x_iconst (v := 1) dX8_lowestGood_13 rfl ?_
    refine x_iand dX8_lowestGood_14 ?_
    refine x_if_ne 34 dX8_lowestGood_15 (by decide) (fun c15 => ?_) (fun c15 => ?_)
    · refine x_iinc (L' := [(3, _), (0, _), (1, _), (2, _)]) (j := 0) (nI (_ + 1)) dX8_lowestGood_34 rfl (nI_1 _) (ble rfl) rfl ?_
      refine x_goto 2 dX8_lowestGood_37 (by decide) ?_
      refine x_locs (L' := [(3, _), (0, _), (1, _), (2, _)]) [0, 1, 2, 3] rfl ?_
      refine ihi ?_
      rw [lowF_at hi, if_neg (by unfold lwB goodN; simp_all)] at he
      exact he
    · first | refine x_aload_n 1 dX8_lowestGood_18 rfl rfl ?_ | refine x_aload_nN 1 dX8_lowestGood_18 rfl rfl ?_
      first | refine x_aload_n 1 dX8_lowestGood_19 rfl rfl ?_ | refine x_aload_nN 1 dX8_lowestGood_19 rfl rfl ?_
      refine x_get fX8_19 rfl dX8_lowestGood_20 (by with_reducible repeat first | assumption | exact hset_s | refine hget_n (by first | assumption | exact Ne.symm (by assumption) | exact nA (by assumption) (by omega) (by omega) (by omega)) ?_) (by rfl) ?_
      refine x_iload_n 0 dX8_lowestGood_23 rfl rfl ?_
      refine x_aald 4 rfl dX8_lowestGood_24 (by with_reducible repeat first | assumption | exact hset_s | refine hget_n (by first | assumption | exact Ne.symm (by assumption) | exact nA (by assumption) (by omega) (by omega) (by omega)) ?_) (vp_in_nI (by omega) (by omega)) (v := .ref (Ad G (B + 30 + i))) (by rw [nI_clamp (by omega)]; rfl) ?_
      first | refine x_aload_n 2 dX8_lowestGood_25 rfl rfl ?_ | refine x_aload_nN 2 dX8_lowestGood_25 rfl rfl ?_
      refine x_cV1 (As := [.ref _, .ref _]) (ct_X8_isGood (by assumption) (by with_reducible repeat first | assumption | exact hset_s | refine hget_n (by first | assumption | exact Ne.symm (by assumption) | exact nA (by assumption) (by omega) (by omega) (by omega)) ?_) (by assumption) (by with_reducible repeat first | assumption | exact hset_s | refine hget_n (by first | assumption | exact Ne.symm (by assumption) | exact nA (by assumption) (by omega) (by omega) (by omega)) ?_) (by assumption)) vX8_108 rfl (x_recv (by with_reducible repeat first | assumption | exact hset_s | refine hget_n (by first | assumption | exact Ne.symm (by assumption) | exact nA (by assumption) (by omega) (by omega) (by omega)) ?_) rfl) rfl ⟨ble rfl, ble rfl⟩ (ble rfl) dX8_lowestGood_26 rfl ?_
      refine x_if_eq 34 dX8_lowestGood_29 (by decide) (fun c29 => ?_) (fun c29 => ?_)
      · refine x_iinc (L' := [(3, _), (0, _), (1, _), (2, _)]) (j := 0) (nI (_ + 1)) dX8_lowestGood_34 rfl (nI_1 _) (ble rfl) rfl ?_
        refine x_goto 2 dX8_lowestGood_37 (by decide) ?_
        refine x_locs (L' := [(3, _), (0, _), (1, _), (2, _)]) [0, 1, 2, 3] rfl ?_
        refine ihi ?_
        rw [lowF_at hi, if_neg (by unfold lwB goodN; simp_all)] at he
        exact he
      · refine x_iload_n 0 dX8_lowestGood_32 rfl rfl ?_
        refine x_iret rfl dX8_lowestGood_33 ?_
        refine ⟨congrArg (fun z => some (Value.int z)) ?_, rfl⟩
        first | (rw [lowF_at hi, if_pos (by unfold lwB goodN; simp_all)] at he; exact he) | (rw [Nat.sub_self] at he; exact he)
def allN (N : Nat → Int32) (j np : Nat) : Int32 := orF (fun i => if goodN N i j = 0 then 0 else (1 : Int32) <<< (nI i &&& 31)) np
def selN (gp : Nat → Int32) (set : Int32) (m : Nat) : Int32 := orF (fun i => if (set >>> (nI i &&& 31)) &&& 1 = 1 then gp i else 0) m
