/-! ===== calls in the library's text: of the super class, of its private methods, of tables, of copies ===== -/
def CWQ (G : Gl) (own : String) (index n : Nat) (M' : MM) : Prop := (∀ (args : Array Value) (s : State), (∀ w ∈ Tg, w.before args s = true) → Sta G s → (Cond.selects RJ4 M'.1 M'.1).before args s = true) ∧ Cond.methodLink own index M'.1 ∈ lw_tbl ∧ Cond.sameMethod M'.1.cls M'.1.cls M'.1.name M'.1.desc ∈ lw_tbl ∧ Cond.instanceMethod M'.1 ∈ lw_tbl ∧ Cond.initialized M'.1.cls ∈ lw_tbl ∧ Cond.code M'.1 M'.2.1 M'.2.2.1 M'.2.2.2 ∈ lw_tbl ∧ (M'.1.cls ≠ "java/lang/invoke/MethodHandle" ∧ M'.1.cls ≠ "java/lang/invoke/VarHandle" ∧ (parseMethodDescriptor M'.1.desc).map (fun d => d.parameters.length) = some n)
def CWSU (own : String) (index n : Nat) (M' : MM) : Prop := Cond.methodLink own index M'.1 ∈ lw_tbl ∧ Cond.sameMethod M'.1.cls M'.1.cls M'.1.name M'.1.desc ∈ lw_tbl ∧ Cond.superclass own M'.1.cls ∈ lw_tbl ∧ Cond.instanceMethod M'.1 ∈ lw_tbl ∧ Cond.initialized M'.1.cls ∈ lw_tbl ∧ Cond.code M'.1 M'.2.1 M'.2.2.1 M'.2.2.2 ∈ lw_tbl ∧ (M'.1.name ≠ "<init>" ∧ (parseMethodDescriptor M'.1.desc).map (fun d => d.parameters.length) = some n)
theorem sel_priv {G : Gl} {y : MethodName} (hp : y ∈ pmL) (args : Array Value) (s : State) (hS : Sta G s) : (Cond.selects RJ4 y y).before args s = true := va_tabs rfl rfl (hS.2.2.2.2.2.2.1 y hp)
section CALC7
variable {l : Launch} {G : Gl} {M : MM} {rm : Room} {K : List Frame → Array Value → State → State → Prop} {Q : Option Value → Hp → Prop} {mc ms pc : Nat} {L L' : List (Nat × Value)} {st : List Value} {h : Hp}
theorem x_callQ {own : String} {M' : MM} {index n d' mc' ms' mc1 ms1 b : Nat} {As st0 : List Value} {Q' : Option Value → Hp → Prop} (hct : Ct l G M' d' mc' ms' (.ref b :: As) h Q') (cw : CWQ G own index n M') (hown : M.1.cls = own)
    (hrecv : ∀ (s : State) (H : Heap) (locs : List Loc), Sta G s → Rep G h H → va_S G.2.2.1 s.heap H locs → ∃ cell : Cell, H[b]? = some cell ∧ cell.vm.isStatics = false ∧ s.vm.findClass RJ4 = some cell.cls)
    (hn : As.length = n) (hR : d' + 1 ≤ rm.frames ∧ 8 + (M'.2.2.1 + 11) + 38 * d' ≤ rm.locals) (hW : (st.map fun v => v.category).sum ≤ 8) (hd : decode M.2.1 pc = .ok (.invokevirtual index, 3)) (hst : st0 = As.reverse ++ .ref b :: st) (hb : mc' + mc1 ≤ mc ∧ ms' + ms1 ≤ ms)
    (kk : ∀ (v : Option Value) (h' : Hp), Q' v h' → XX l G M rm K mc1 ms1 (pc + 3) L (v.toList ++ st) h') : XX l G M rm K mc ms pc L st0 h := by
  intro p e s m args below meth c C H locs cells slots ls hRp hS hl h1 h2
  subst hst
  obtain ⟨w0, w1, w2, w3, w4, w5, w6⟩ := cw
  have hG : GoodIn Tg (wsOf M') := gi (by
    intro w hw
    unfold wsOf at hw
    rcases List.mem_cons.mp hw with rfl | hw
    · exact tg w5 rfl
    · exact hw)
  have hc : Cond.code M'.1 M'.2.1 M'.2.2.1 M'.2.2.2 ∈ wsOf M' := List.mem_cons_self
  have hcode : (Cond.code M'.1 M'.2.1 M'.2.2.1 M'.2.2.2).before args s = true := C.w (tg w5 rfl)
  have cu : va_CU rm s args own RJ4 M'.1.cls index M'.1 M'.1 M'.2.1 M'.2.2.1 M'.2.2.2 (wsOf M') (Rm d' mc' ms') mc' ms' n := by
    refine ⟨⟨rfl, rfl, hR.1, hR.2, pay_in (fun w hw => C.w hw) hG, hc⟩, hcode, C.w (tg w4 rfl), ⟨w6.1, w6.2.1⟩, fun sig h => ?_, C.w (tg w1 rfl), C.w (tg w2 rfl), va_Decl.of (C.w (tg w3 rfl)) hcode, w0 args s (fun w hw => C.w hw) C.st, C.w (tg w3 rfl)⟩
    have h2 := w6.2.2
    rw [h] at h2
    exact (Option.some.inj h2).symm
  refine x_run (va_runU (As := As) (rest := st) ⟨C.1, C.2.1, C.2.2.2.1, C.own hown, fun w hw => C.w hw⟩ hct cu ⟨PC.blind, hrecv s H locs C.st hRp hS, fun U hU hW => x_pc C hRp hS U hU hW⟩ rfl hn hl.1 rfl (lv_room hW) hd ⟨by omega, by omega⟩) hS ?_
  intro v h' H1 locs1 hq hR1 hS1
  exact kk v h' hq p e s m args below meth c C H1 locs1 (cells + mc') (slots + ms') ls hR1 hS1 hl (by omega) (by omega)
theorem x_callSU {own : String} {M' : MM} {index n d' mc' ms' mc1 ms1 b : Nat} {As st0 : List Value} {Q' : Option Value → Hp → Prop} (hct : Ct l G M' d' mc' ms' (.ref b :: As) h Q') (cw : CWSU own index n M') (hown : M.1.cls = own)
    (hrecv : ∀ (s : State) (H : Heap) (locs : List Loc), Sta G s → Rep G h H → va_S G.2.2.1 s.heap H locs → ∃ cell : Cell, H[b]? = some cell ∧ cell.vm.isStatics = false ∧ s.vm.findClass RJ4 = some cell.cls)
    (hn : As.length = n) (hR : d' + 1 ≤ rm.frames ∧ 8 + (M'.2.2.1 + 11) + 38 * d' ≤ rm.locals) (hW : (st.map fun v => v.category).sum ≤ 8) (hd : decode M.2.1 pc = .ok (.invokespecial index, 3)) (hst : st0 = As.reverse ++ .ref b :: st) (hb : mc' + mc1 ≤ mc ∧ ms' + ms1 ≤ ms)
    (kk : ∀ (v : Option Value) (h' : Hp), Q' v h' → XX l G M rm K mc1 ms1 (pc + 3) L (v.toList ++ st) h') : XX l G M rm K mc ms pc L st0 h := by
  intro p e s m args below meth c C H locs cells slots ls hRp hS hl h1 h2
  subst hst
  obtain ⟨w1, w2, w3, w4, w5, w7, w6⟩ := cw
  have hT : GoodIn Tg (va_wsSU own index M'.1 (wsOf M')) := gi (by
    intro w hw
    unfold va_wsSU wsOf at hw
    simp only [List.mem_append, List.mem_cons, List.not_mem_nil, or_false] at hw
    rcases hw with (rfl | rfl | rfl | rfl | rfl) | (rfl | hw)
    · exact tg w1 rfl
    · exact tg w2 rfl
    · exact tg w3 rfl
    · exact tg w4 rfl
    · exact tg w5 rfl
    · exact tg w7 rfl
    · exact hw)
  refine x_run (va_runSU (As := As) (rest := st) (C.st.1.1 0 _ rfl).2 ⟨C.1, C.2.1, C.2.2.2.1, C.own hown, fun w hw => C.w hw⟩ hct (va_cwSU n (fun w hw => C.w hw) hT rfl rfl rfl w6 hR) ⟨PC.blind, hrecv s H locs C.st hRp hS, fun U hU hW => x_pc C hRp hS U hU hW⟩ rfl hn hl.1 rfl (lv_room hW) hd ⟨by omega, by omega⟩) hS ?_
  intro v h' H1 locs1 hq hR1 hS1
  exact kk v h' hq p e s m args below meth c C H1 locs1 (cells + mc') (slots + ms') ls hR1 hS1 hl (by omega) (by omega)
theorem x_tbld {t N : Nat} {f : Nat → Int32} {i : Int32} (hT : ∀ s : State, Sta G s → va_T .byte t N (fun j => .int (f j)) G.2.2.1 s s.heap) (hin : vp_in i N) (hd : decode M.2.1 pc = .ok (.baload, 1)) (kk : XX l G M rm K mc ms (pc + 1) L (.int (f i.toNatClampNeg) :: st) h) : XX l G M rm K mc ms pc L (.int i :: .ref t :: st) h := by
  intro p e s m args below meth c C H locs cells slots ls hR hS hl h1 h2
  obtain ⟨cell, g1, g2, g3, g4, g5, g6, g7⟩ := (hT s C.st).kept hS.2.1
  have hlt : i.toNatClampNeg < N := Nat.not_le.mp fun q => hin (Or.inr q)
  exact W.bald C.1 C.2.1 g1 g2 g3 (fun q => hin (q.imp id (fun z => Nat.le_trans g4 z))) (g6 _ hlt) rfl rfl hd (kk p e s m args below meth c C H locs cells slots ls hR hS hl h1 h2)
theorem i_nn {z : Int32} (hz : ¬ z < 0) : z.toInt = (z.toNatClampNeg : Int) := by
  have hz0 : (0 : Int) ≤ z.toInt := by
    have := Int32.not_lt.mp hz
    simpa using Int32.le_iff_toInt_le.mp this
  show z.toInt = ((z.toInt.toNat : Nat) : Int)
  omega
/-- System.arraycopy between rows of bytes; what is not the row behind stays -/
theorem x_copy {own : String} {index a0 a n0 n1 sp dp n : Nat} {f g : Nat → Int32} (hown : M.1.cls = own) (w1 : Cond.methodLink own index arraycopyName ∈ lw_tbl) (w2 : Cond.native arraycopyName ∈ lw_tbl) (w3 : Cond.static arraycopyName ∈ lw_tbl) (w4 : Cond.initialized "java/lang/System" ∈ lw_tbl)
    (hsrc : ∀ (s : State) (H : Heap) (locs : List Loc), Sta G s → Rep G h H → va_S G.2.2.1 s.heap H locs → ∃ scr : Cell, H[a0]? = some scr ∧ s.isArrayOf scr .byte ∧ scr.vm ≠ .unknown ∧ n0 ≤ scr.slots.size ∧ ∀ j : Nat, j < n0 → scr.slots[j]? = some (.int (f j)))
    (he : h a = some (eB G n1 g)) (hA : G.2.2.1 a) (hb31 : n0 < 2 ^ 31 ∧ n1 < 2 ^ 31) (h4 : sp + n ≤ n0) (h5 : dp + n ≤ n1) (hfit : ∀ i : Nat, i < n → fits .byte (.int (f (sp + i))) = true)
    (hframes : 1 ≤ rm.frames) (hlocals : (st.map fun v => v.category).sum + (nativeFrameWords "java/lang/System" "arraycopy" 5 + 11) ≤ rm.locals) (hd : decode M.2.1 pc = .ok (.invokestatic index, 3))
    (kk : XX l G M rm K mc ms (pc + 3) L st (hset h a (eB G n1 (va_cpy f g sp dp n)))) : XX l G M rm K mc ms pc L (.int (nI n) :: .int (nI dp) :: .ref a :: .int (nI sp) :: .ref a0 :: st) h := by
  intro p e s m args below meth c C H locs cells slots ls hR hS hl h1 h2
  have e1 : (nI n).toNatClampNeg = n := nI_clamp (by omega)
  have e2 : (nI sp).toNatClampNeg = sp := nI_clamp (by omega)
  have e3 : (nI dp).toNatClampNeg = dp := nI_clamp (by omega)
  have p1 : ¬ nI n < 0 := nI_pos (by omega)
  have p2 : ¬ nI sp < 0 := nI_pos (by omega)
  have p3 : ¬ nI dp < 0 := nI_pos (by omega)
  intro T hT X
  obtain ⟨scr, hs1, ⟨hs6, k0, hk0, cm0, hkk0⟩, hs3, hs4, hs5⟩ := hsrc s H locs C.st hR hS
  have hc1 : H[a]? = some (vp_cell (G.2.1 2) (n1, .inl g)) := hR a _ he
  obtain ⟨-, k1, hk1, cm1, hkk1⟩ := (C.st.1.2 2 _ rfl).1 n1 (fun j => .int (g j))
  obtain ⟨vm', X', step⟩ := X.arraycopy C.1 (C.own hown) (C.w (tg w1 rfl)) (C.w (tg w2 rfl)) (C.w (tg w3 rfl)) (C.w (tg w4 rfl)) (src := a0) (dst := a) (cs := scr) (cd := vp_cell (G.2.1 2) (n1, .inl g)) (srcPos := nI sp) (destPos := nI dp) (n := nI n) (by rw [hT]; exact hs1) (by rw [hT]; exact hc1)
    hs6 (fun _ h => by cases h) hs3 (fun h => by cases h) hk0 hk1 hkk0 hkk1 (by simp [refKind]) p2 p3 p1
    (by rw [i_nn p2, i_nn p1, e1, e2]; omega)
    (by rw [i_nn p3, i_nn p1, e1, e3]; show ¬ _ > ((arrV (G.2.1 2) n1 (fun j => .int (g j))).slots.size : Int); rw [arrV_size]; omega)
    (fun vm₁ _ i hi => by
      rw [e1] at hi
      have e : scr.slots.getD ((nI sp).toNatClampNeg + i) .null = .int (f (sp + i)) := by
        rw [e2, Array.getD_eq_getD_getElem?, hs5 _ (by omega)]
        rfl
      refine ⟨?_, ?_⟩
      · rw [e]
        exact hfit i hi
      · rw [e]
        exact trivial)
    (g := F0 m pc ls (.int (nI n) :: .int (nI dp) :: .ref a :: .int (nI sp) :: .ref a0 :: st)) rfl (by show ls.size = _; rw [hl.1, C.2.2.2.1]) (rest := st) rfl (by rw [C.2.1]; exact hd) hframes (by show 2 * 0 + _ + _ ≤ _; omega)
  have e9 : copied scr (vp_cell (G.2.1 2) (n1, .inl g)) (nI sp) (nI dp) (nI n) = vp_cell (G.2.1 2) (n1, .inl (va_cpy f g sp dp n)) := by
    have := va_copiedX (n1 := n1) (sp := (nI sp).toNatClampNeg) (dp := (nI dp).toNatClampNeg) (n := (nI n).toNatClampNeg) (fun z => .int z) scr (G.2.1 2) f g (fun j hj => hs5 j hj) (by rw [e1, e2]; exact h4)
    rw [e1, e2, e3] at this
    unfold copied
    rw [e1, e2, e3]
    exact this
  rw [e9] at X' step
  have hlt : a < H.size := (Array.getElem?_eq_some_iff.mp hc1).1
  have hheap : ((T.setVm vm').setCell a (vp_cell (G.2.1 2) (n1, .inl (va_cpy f g sp dp n)))).heap = H.setIfInBounds a (vp_cell (G.2.1 2) (n1, .inl (va_cpy f g sp dp n))) := by rw [← hT]; rfl
  have oq : ∀ q : Nat, q ≠ a → (H.setIfInBounds a (vp_cell (G.2.1 2) (n1, .inl (va_cpy f g sp dp n))))[q]? = H[q]? := fun q hq => by simp [Array.getElem?_setIfInBounds, Ne.symm hq]
  obtain ⟨t, a1, b1⟩ := kk p e s m args below meth c C (H.setIfInBounds a (vp_cell (G.2.1 2) (n1, .inl (va_cpy f g sp dp n)))) _ cells slots ls (hR.put (show (H.setIfInBounds a _)[a]? = some _ by simp [Array.getElem?_setIfInBounds, hlt]) oq) ⟨by simp; exact hS.1, fun q g1 g2 => by
      rw [oq q (fun e => g2 (by rw [e]; exact hA))]
      exact hS.2.1 q g1 g2, fun q hq => by
      rcases List.mem_append.mp hq with h | h
      · exact hS.2.2 q h
      · obtain ⟨z, -, hz⟩ := List.mem_map.mp h
        rw [← hz]
        exact hA⟩ hl h1 h2 _ hheap X'
  exact ⟨t, step t a1, b1⟩
theorem src_dyn {a n : Nat} {f : Nat → Int32} (he : h a = some (eB G n f)) : ∀ (s : State) (H : Heap) (locs : List Loc), Sta G s → Rep G h H → va_S G.2.2.1 s.heap H locs → ∃ scr : Cell, H[a]? = some scr ∧ s.isArrayOf scr .byte ∧ scr.vm ≠ .unknown ∧ n ≤ scr.slots.size ∧ ∀ j : Nat, j < n → scr.slots[j]? = some (.int (f j)) := fun s H locs hSt hR hS =>
  ⟨vp_cell (G.2.1 2) (n, .inl f), hR a _ he, (hSt.1.2 2 _ rfl).1 n (fun j => .int (f j)), (fun q => by cases q), Nat.le_of_eq (arrV_size _ _ _).symm, fun j hj => by show (arrV _ _ _).slots[j]? = _; rw [arrV_read _ _ hj]⟩
theorem src_st {a n : Nat} {f : Nat → Int32} (hT : ∀ s : State, Sta G s → va_T .byte a n (fun j => .int (f j)) G.2.2.1 s s.heap) : ∀ (s : State) (H : Heap) (locs : List Loc), Sta G s → Rep G h H → va_S G.2.2.1 s.heap H locs → ∃ scr : Cell, H[a]? = some scr ∧ s.isArrayOf scr .byte ∧ scr.vm ≠ .unknown ∧ n ≤ scr.slots.size ∧ ∀ j : Nat, j < n → scr.slots[j]? = some (.int (f j)) := fun s H locs hSt hR hS => by
  obtain ⟨cell, g1, g2, g3, g4, g5, g6, g7⟩ := (hT s hSt).kept hS.2.1
  exact ⟨cell, g1, g2, g3, g4, g6⟩
end CALC7
/-! ===== constant texts ===== -/
section TXT
variable {G : Gl} {k : Nat}
def tsLen (k : Nat) : Nat := stN.getD k 0
def tsC (k j : Nat) : Int32 := (stB.getD k []).getD j 0
theorem zT_all (hk : k < 12) : ∀ s : State, Sta G s → va_O "java/lang/String" (G.2.2.2 (20 + k)) G.2.2.1 s s.heap ∧ va_OF "java/lang/String" "coder" "B" (.int 0) (G.2.2.2 (20 + k)) G.2.2.1 s s.heap ∧ va_OF "java/lang/String" "value" "[B" (.ref (G.2.2.2 (40 + k))) (G.2.2.2 (20 + k)) G.2.2.1 s s.heap ∧ va_T .byte (G.2.2.2 (40 + k)) (tsLen k) (fun j => .int (tsC k j)) G.2.2.1 s s.heap := fun s hS => hS.2.2.2.2.2.2.2.2.2.2.2.2.2.2.2.1.1 k hk
theorem zT_obj (hk : k < 12) : ∀ s : State, Sta G s → va_O "java/lang/String" (G.2.2.2 (20 + k)) G.2.2.1 s s.heap := fun s hS => (zT_all hk s hS).1
theorem zT_coder (hk : k < 12) : ∀ s : State, Sta G s → va_OF "java/lang/String" "coder" "B" (.int 0) (G.2.2.2 (20 + k)) G.2.2.1 s s.heap := fun s hS => (zT_all hk s hS).2.1
theorem zT_value (hk : k < 12) : ∀ s : State, Sta G s → va_OF "java/lang/String" "value" "[B" (.ref (G.2.2.2 (40 + k))) (G.2.2.2 (20 + k)) G.2.2.1 s s.heap := fun s hS => (zT_all hk s hS).2.2.1
theorem zT_tab (hk : k < 12) : ∀ s : State, Sta G s → va_T .byte (G.2.2.2 (40 + k)) (tsLen k) (fun j => .int (tsC k j)) G.2.2.1 s s.heap := fun s hS => (zT_all hk s hS).2.2.2
theorem zCS : ∀ s : State, Sta G s → va_Z "java/lang/String" "COMPACT_STRINGS" "Z" (.int 1) G.2.2.1 s s.heap := fun s hS => hS.2.2.2.2.2.2.2.2.2.2.2.2.2.2.2.2.1
theorem zDO : ∀ s : State, Sta G s → va_Z "java/lang/Integer" "DigitOnes" "[B" (.ref (G.2.2.2 12)) G.2.2.1 s s.heap := fun s hS => hS.2.2.2.2.2.2.2.2.2.2.2.2.2.2.2.2.2.1
theorem zDOt : ∀ s : State, Sta G s → va_T .byte (G.2.2.2 12) 100 (fun j => .int (dgO.getD j 0)) G.2.2.1 s s.heap := fun s hS => hS.2.2.2.2.2.2.2.2.2.2.2.2.2.2.2.2.2.2.1
theorem zDT : ∀ s : State, Sta G s → va_Z "java/lang/Integer" "DigitTens" "[B" (.ref (G.2.2.2 13)) G.2.2.1 s s.heap := fun s hS => hS.2.2.2.2.2.2.2.2.2.2.2.2.2.2.2.2.2.2.2.1
theorem zDTt : ∀ s : State, Sta G s → va_T .byte (G.2.2.2 13) 100 (fun j => .int (dgT.getD j 0)) G.2.2.1 s s.heap := fun s hS => hS.2.2.2.2.2.2.2.2.2.2.2.2.2.2.2.2.2.2.2.2.1
theorem zFM : ∀ s : State, Sta G s → va_Z "jdk/internal/util/Preconditions" "SIOOBE_FORMATTER" "Ljava/util/function/BiFunction;" (fmV G) G.2.2.1 s s.heap := fun s hS => hS.2.2.2.2.2.2.2.2.2.2.2.2.2.2.2.2.2.2.2.2.2
end TXT
theorem qJ5_83 {G : Gl} : CWQ G RJ5 83 0 mJ5_isLatin1_aae02 := ⟨fun args s hts _ => hts _ (tg (List.mem_append_right _ (List.mem_of_getElem? (i := 430) (by decide +kernel))) rfl), List.mem_append_right _ (List.mem_of_getElem? (i := 427) (by decide +kernel)), List.mem_append_right _ (List.mem_of_getElem? (i := 429) (by decide +kernel)), List.mem_append_right _ (List.mem_of_getElem? (i := 428) (by decide +kernel)), List.mem_append_right _ (List.mem_of_getElem? (i := 13) (by decide +kernel)), List.mem_append_right _ (List.mem_of_getElem? (i := 431) (by decide +kernel)), ⟨by decide +kernel, by decide +kernel, by decide +kernel⟩⟩
theorem qJ5_100 {G : Gl} : CWQ G RJ5 100 1 mJ5_ensureCapacityInternal_d00df := ⟨fun args s _ hS => sel_priv (by simp [pmL]) args s hS, List.mem_append_right _ (List.mem_of_getElem? (i := 392) (by decide +kernel)), List.mem_append_right _ (List.mem_of_getElem? (i := 1704) (by decide +kernel)), List.mem_append_right _ (List.mem_of_getElem? (i := 394) (by decide +kernel)), List.mem_append_right _ (List.mem_of_getElem? (i := 13) (by decide +kernel)), List.mem_append_right _ (List.mem_of_getElem? (i := 395) (by decide +kernel)), ⟨by decide +kernel, by decide +kernel, by decide +kernel⟩⟩
theorem qJ5_104 {G : Gl} : CWQ G RJ5 104 1 mJ5_newCapacity_0f7a4 := ⟨fun args s _ hS => sel_priv (by simp [pmL]) args s hS, List.mem_append_right _ (List.mem_of_getElem? (i := 396) (by decide +kernel)), List.mem_append_right _ (List.mem_of_getElem? (i := 1705) (by decide +kernel)), List.mem_append_right _ (List.mem_of_getElem? (i := 398) (by decide +kernel)), List.mem_append_right _ (List.mem_of_getElem? (i := 13) (by decide +kernel)), List.mem_append_right _ (List.mem_of_getElem? (i := 399) (by decide +kernel)), ⟨by decide +kernel, by decide +kernel, by decide +kernel⟩⟩
theorem qJ5_208 {G : Gl} : CWQ G RJ5 208 2 mJ5_putStringAt_47b60 := ⟨fun args s _ hS => sel_priv (by simp [pmL]) args s hS, List.mem_append_right _ (List.mem_of_getElem? (i := 1143) (by decide +kernel)), List.mem_append_right _ (List.mem_of_getElem? (i := 1711) (by decide +kernel)), List.mem_append_right _ (List.mem_of_getElem? (i := 1145) (by decide +kernel)), List.mem_append_right _ (List.mem_of_getElem? (i := 13) (by decide +kernel)), List.mem_append_right _ (List.mem_of_getElem? (i := 1146) (by decide +kernel)), ⟨by decide +kernel, by decide +kernel, by decide +kernel⟩⟩
theorem qJ5_397 {G : Gl} : CWQ G RJ5 397 1 mJ5_inflateIfNeededFor_a7421 := ⟨fun args s _ hS => sel_priv (by simp [pmL]) args s hS, List.mem_append_right _ (List.mem_of_getElem? (i := 1147) (by decide +kernel)), List.mem_append_right _ (List.mem_of_getElem? (i := 1712) (by decide +kernel)), List.mem_append_right _ (List.mem_of_getElem? (i := 1149) (by decide +kernel)), List.mem_append_right _ (List.mem_of_getElem? (i := 13) (by decide +kernel)), List.mem_append_right _ (List.mem_of_getElem? (i := 1150) (by decide +kernel)), ⟨by decide +kernel, by decide +kernel, by decide +kernel⟩⟩
theorem qJ4_29 : CWSU RJ4 29 1 mJ5_append_cf1ce := ⟨List.mem_append_right _ (List.mem_of_getElem? (i := 1132) (by decide +kernel)), List.mem_append_right _ (List.mem_of_getElem? (i := 1709) (by decide +kernel)), List.mem_append_right _ (List.mem_of_getElem? (i := 302) (by decide +kernel)), List.mem_append_right _ (List.mem_of_getElem? (i := 1133) (by decide +kernel)), List.mem_append_right _ (List.mem_of_getElem? (i := 13) (by decide +kernel)), List.mem_append_right _ (List.mem_of_getElem? (i := 1134) (by decide +kernel)), ⟨by decide +kernel, by decide +kernel⟩⟩
theorem qJ4_50 : CWSU RJ4 50 1 mJ5_append_3fe6f := ⟨List.mem_append_right _ (List.mem_of_getElem? (i := 389) (by decide +kernel)), List.mem_append_right _ (List.mem_of_getElem? (i := 1703) (by decide +kernel)), List.mem_append_right _ (List.mem_of_getElem? (i := 302) (by decide +kernel)), List.mem_append_right _ (List.mem_of_getElem? (i := 390) (by decide +kernel)), List.mem_append_right _ (List.mem_of_getElem? (i := 13) (by decide +kernel)), List.mem_append_right _ (List.mem_of_getElem? (i := 391) (by decide +kernel)), ⟨by decide +kernel, by decide +kernel⟩⟩
theorem qJ4_53 : CWSU RJ4 53 1 mJ5_append_c97b9 := ⟨List.mem_append_right _ (List.mem_of_getElem? (i := 1162) (by decide +kernel)), List.mem_append_right _ (List.mem_of_getElem? (i := 1713) (by decide +kernel)), List.mem_append_right _ (List.mem_of_getElem? (i := 302) (by decide +kernel)), List.mem_append_right _ (List.mem_of_getElem? (i := 1163) (by decide +kernel)), List.mem_append_right _ (List.mem_of_getElem? (i := 13) (by decide +kernel)), List.mem_append_right _ (List.mem_of_getElem? (i := 1164) (by decide +kernel)), ⟨by decide +kernel, by decide +kernel⟩⟩
theorem qJ4_329 : CWSU RJ4 329 1 mJ5_charAt_5068e := ⟨List.mem_append_right _ (List.mem_of_getElem? (i := 697) (by decide +kernel)), List.mem_append_right _ (List.mem_of_getElem? (i := 1707) (by decide +kernel)), List.mem_append_right _ (List.mem_of_getElem? (i := 302) (by decide +kernel)), List.mem_append_right _ (List.mem_of_getElem? (i := 698) (by decide +kernel)), List.mem_append_right _ (List.mem_of_getElem? (i := 13) (by decide +kernel)), List.mem_append_right _ (List.mem_of_getElem? (i := 699) (by decide +kernel)), ⟨by decide +kernel, by decide +kernel⟩⟩
theorem qJ4_333 : CWSU RJ4 333 1 mJ5_setLength_d00df := ⟨List.mem_append_right _ (List.mem_of_getElem? (i := 871) (by decide +kernel)), List.mem_append_right _ (List.mem_of_getElem? (i := 1708) (by decide +kernel)), List.mem_append_right _ (List.mem_of_getElem? (i := 302) (by decide +kernel)), List.mem_append_right _ (List.mem_of_getElem? (i := 872) (by decide +kernel)), List.mem_append_right _ (List.mem_of_getElem? (i := 13) (by decide +kernel)), List.mem_append_right _ (List.mem_of_getElem? (i := 873) (by decide +kernel)), ⟨by decide +kernel, by decide +kernel⟩⟩
theorem qJ4_343 : CWSU RJ4 343 0 mJ5_length_8abf5 := ⟨List.mem_append_right _ (List.mem_of_getElem? (i := 382) (by decide +kernel)), List.mem_append_right _ (List.mem_of_getElem? (i := 1702) (by decide +kernel)), List.mem_append_right _ (List.mem_of_getElem? (i := 302) (by decide +kernel)), List.mem_append_right _ (List.mem_of_getElem? (i := 383) (by decide +kernel)), List.mem_append_right _ (List.mem_of_getElem? (i := 13) (by decide +kernel)), List.mem_append_right _ (List.mem_of_getElem? (i := 384) (by decide +kernel)), ⟨by decide +kernel, by decide +kernel⟩⟩
section CALC8
variable {l : Launch} {G : Gl} {M : MM} {rm : Room} {K : List Frame → Array Value → State → State → Prop} {Q : Option Value → Hp → Prop} {mc ms pc : Nat} {L L' : List (Nat × Value)} {st : List Value} {h : Hp}
variable {own : String} {M' : MM} {index n d' b mc' ms' mc1 ms1 : Nat} {As st0 : List Value} {v : Value} {h2 : Hp} {P : Hp → Prop}
theorem x_qR1 (hct : CtR l G M' d' (.ref b :: As) h (some v) h2) (cw : CWQ G own index n M') (hown : M.1.cls = own) (hrecv : ∀ (s : State) (H : Heap) (locs : List Loc), Sta G s → Rep G h H → va_S G.2.2.1 s.heap H locs → ∃ cell : Cell, H[b]? = some cell ∧ cell.vm.isStatics = false ∧ s.vm.findClass RJ4 = some cell.cls) (hn : As.length = n) (hR : d' + 1 ≤ rm.frames ∧ 8 + (M'.2.2.1 + 11) + 38 * d' ≤ rm.locals) (hW : (st.map fun v => v.category).sum ≤ 8) (hd : decode M.2.1 pc = .ok (.invokevirtual index, 3)) (hst : st0 = As.reverse ++ .ref b :: st) (kk : XX l G M rm K mc ms (pc + 3) L (v :: st) h2) : XX l G M rm K mc ms pc L st0 h :=
  x_callQ (mc1 := mc) (ms1 := ms) hct cw hown hrecv hn hR hW hd hst ⟨by omega, by omega⟩ (fun w h' q => by obtain ⟨rfl, rfl⟩ := q; exact kk)
theorem x_qP1 (hct : CtP l G M' d' mc' ms' (.ref b :: As) h (some v) P) (cw : CWQ G own index n M') (hown : M.1.cls = own) (hrecv : ∀ (s : State) (H : Heap) (locs : List Loc), Sta G s → Rep G h H → va_S G.2.2.1 s.heap H locs → ∃ cell : Cell, H[b]? = some cell ∧ cell.vm.isStatics = false ∧ s.vm.findClass RJ4 = some cell.cls) (hn : As.length = n) (hR : d' + 1 ≤ rm.frames ∧ 8 + (M'.2.2.1 + 11) + 38 * d' ≤ rm.locals) (hW : (st.map fun v => v.category).sum ≤ 8) (hd : decode M.2.1 pc = .ok (.invokevirtual index, 3)) (hst : st0 = As.reverse ++ .ref b :: st) (hb : mc' + mc1 ≤ mc ∧ ms' + ms1 ≤ ms) (kk : ∀ h', P h' → XX l G M rm K mc1 ms1 (pc + 3) L (v :: st) h') : XX l G M rm K mc ms pc L st0 h :=
  x_callQ hct cw hown hrecv hn hR hW hd hst hb (fun w h' q => by obtain ⟨rfl, q⟩ := q; exact kk h' q)
theorem x_qR0 (hct : CtR l G M' d' (.ref b :: As) h none h2) (cw : CWQ G own index n M') (hown : M.1.cls = own) (hrecv : ∀ (s : State) (H : Heap) (locs : List Loc), Sta G s → Rep G h H → va_S G.2.2.1 s.heap H locs → ∃ cell : Cell, H[b]? = some cell ∧ cell.vm.isStatics = false ∧ s.vm.findClass RJ4 = some cell.cls) (hn : As.length = n) (hR : d' + 1 ≤ rm.frames ∧ 8 + (M'.2.2.1 + 11) + 38 * d' ≤ rm.locals) (hW : (st.map fun v => v.category).sum ≤ 8) (hd : decode M.2.1 pc = .ok (.invokevirtual index, 3)) (hst : st0 = As.reverse ++ .ref b :: st) (kk : XX l G M rm K mc ms (pc + 3) L st h2) : XX l G M rm K mc ms pc L st0 h :=
  x_callQ (mc1 := mc) (ms1 := ms) hct cw hown hrecv hn hR hW hd hst ⟨by omega, by omega⟩ (fun w h' q => by obtain ⟨rfl, rfl⟩ := q; exact kk)
theorem x_qP0 (hct : CtP l G M' d' mc' ms' (.ref b :: As) h none P) (cw : CWQ G own index n M') (hown : M.1.cls = own) (hrecv : ∀ (s : State) (H : Heap) (locs : List Loc), Sta G s → Rep G h H → va_S G.2.2.1 s.heap H locs → ∃ cell : Cell, H[b]? = some cell ∧ cell.vm.isStatics = false ∧ s.vm.findClass RJ4 = some cell.cls) (hn : As.length = n) (hR : d' + 1 ≤ rm.frames ∧ 8 + (M'.2.2.1 + 11) + 38 * d' ≤ rm.locals) (hW : (st.map fun v => v.category).sum ≤ 8) (hd : decode M.2.1 pc = .ok (.invokevirtual index, 3)) (hst : st0 = As.reverse ++ .ref b :: st) (hb : mc' + mc1 ≤ mc ∧ ms' + ms1 ≤ ms) (kk : ∀ h', P h' → XX l G M rm K mc1 ms1 (pc + 3) L st h') : XX l G M rm K mc ms pc L st0 h :=
  x_callQ hct cw hown hrecv hn hR hW hd hst hb (fun w h' q => by obtain ⟨rfl, q⟩ := q; exact kk h' q)
theorem x_suR1 (hct : CtR l G M' d' (.ref b :: As) h (some v) h2) (cw : CWSU own index n M') (hown : M.1.cls = own) (hrecv : ∀ (s : State) (H : Heap) (locs : List Loc), Sta G s → Rep G h H → va_S G.2.2.1 s.heap H locs → ∃ cell : Cell, H[b]? = some cell ∧ cell.vm.isStatics = false ∧ s.vm.findClass RJ4 = some cell.cls) (hn : As.length = n) (hR : d' + 1 ≤ rm.frames ∧ 8 + (M'.2.2.1 + 11) + 38 * d' ≤ rm.locals) (hW : (st.map fun v => v.category).sum ≤ 8) (hd : decode M.2.1 pc = .ok (.invokespecial index, 3)) (hst : st0 = As.reverse ++ .ref b :: st) (kk : XX l G M rm K mc ms (pc + 3) L (v :: st) h2) : XX l G M rm K mc ms pc L st0 h :=
  x_callSU (mc1 := mc) (ms1 := ms) hct cw hown hrecv hn hR hW hd hst ⟨by omega, by omega⟩ (fun w h' q => by obtain ⟨rfl, rfl⟩ := q; exact kk)
theorem x_suP1 (hct : CtP l G M' d' mc' ms' (.ref b :: As) h (some v) P) (cw : CWSU own index n M') (hown : M.1.cls = own) (hrecv : ∀ (s : State) (H : Heap) (locs : List Loc), Sta G s → Rep G h H → va_S G.2.2.1 s.heap H locs → ∃ cell : Cell, H[b]? = some cell ∧ cell.vm.isStatics = false ∧ s.vm.findClass RJ4 = some cell.cls) (hn : As.length = n) (hR : d' + 1 ≤ rm.frames ∧ 8 + (M'.2.2.1 + 11) + 38 * d' ≤ rm.locals) (hW : (st.map fun v => v.category).sum ≤ 8) (hd : decode M.2.1 pc = .ok (.invokespecial index, 3)) (hst : st0 = As.reverse ++ .ref b :: st) (hb : mc' + mc1 ≤ mc ∧ ms' + ms1 ≤ ms) (kk : ∀ h', P h' → XX l G M rm K mc1 ms1 (pc + 3) L (v :: st) h') : XX l G M rm K mc ms pc L st0 h :=
  x_callSU hct cw hown hrecv hn hR hW hd hst hb (fun w h' q => by obtain ⟨rfl, q⟩ := q; exact kk h' q)
theorem x_suR0 (hct : CtR l G M' d' (.ref b :: As) h none h2) (cw : CWSU own index n M') (hown : M.1.cls = own) (hrecv : ∀ (s : State) (H : Heap) (locs : List Loc), Sta G s → Rep G h H → va_S G.2.2.1 s.heap H locs → ∃ cell : Cell, H[b]? = some cell ∧ cell.vm.isStatics = false ∧ s.vm.findClass RJ4 = some cell.cls) (hn : As.length = n) (hR : d' + 1 ≤ rm.frames ∧ 8 + (M'.2.2.1 + 11) + 38 * d' ≤ rm.locals) (hW : (st.map fun v => v.category).sum ≤ 8) (hd : decode M.2.1 pc = .ok (.invokespecial index, 3)) (hst : st0 = As.reverse ++ .ref b :: st) (kk : XX l G M rm K mc ms (pc + 3) L st h2) : XX l G M rm K mc ms pc L st0 h :=
  x_callSU (mc1 := mc) (ms1 := ms) hct cw hown hrecv hn hR hW hd hst ⟨by omega, by omega⟩ (fun w h' q => by obtain ⟨rfl, rfl⟩ := q; exact kk)
theorem x_suP0 (hct : CtP l G M' d' mc' ms' (.ref b :: As) h none P) (cw : CWSU own index n M') (hown : M.1.cls = own) (hrecv : ∀ (s : State) (H : Heap) (locs : List Loc), Sta G s → Rep G h H → va_S G.2.2.1 s.heap H locs → ∃ cell : Cell, H[b]? = some cell ∧ cell.vm.isStatics = false ∧ s.vm.findClass RJ4 = some cell.cls) (hn : As.length = n) (hR : d' + 1 ≤ rm.frames ∧ 8 + (M'.2.2.1 + 11) + 38 * d' ≤ rm.locals) (hW : (st.map fun v => v.category).sum ≤ 8) (hd : decode M.2.1 pc = .ok (.invokespecial index, 3)) (hst : st0 = As.reverse ++ .ref b :: st) (hb : mc' + mc1 ≤ mc ∧ ms' + ms1 ≤ ms) (kk : ∀ h', P h' → XX l G M rm K mc1 ms1 (pc + 3) L st h') : XX l G M rm K mc ms pc L st0 h :=
  x_callSU hct cw hown hrecv hn hR hW hd hst hb (fun w h' q => by obtain ⟨rfl, q⟩ := q; exact kk h' q)
end CALC8
