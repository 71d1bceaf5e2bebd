/-! ===== rules for the law's own methods ===== -/
def XS (S : State → Prop) (l : Launch) (G : Gl) (M : MM) (rm : Room) (K : List Frame → Array Value → State → State → Prop) (mc ms pc : Nat) (L : List (Nat × Value)) (st : List Value) (h : Hp) : Prop :=
  ∀ (p : Program) (e : Env) (s : State) (m : MethodId) (args : Array Value) (below : List Frame) (meth : Method) (c : Code), Cx l G M p s m args meth c → S s →
  ∀ (H : Heap) (locs : List Loc) (cells slots : Nat) (ls : Array Slot), Rep G h H → va_S G.2.2.1 s.heap H locs → lv_has ls M.2.2.1 L → cells + mc ≤ rm.cells → slots + ms ≤ rm.slots →
  W p l e rm s m args below meth c H locs cells slots (K below args s) (F0 m pc ls st)
/-- the script: n ints xs at b, of the heap at the start -/
def Scr (b n : Nat) (xs : Nat → Int32) (s : State) : Prop := va_X b n xs s s.heap ∧ b < s.heap.size
section RULES
variable {S : State → Prop} {l : Launch} {G : Gl} {M : MM} {rm : Room} {K : List Frame → Array Value → State → State → Prop} {Q : Option Value → Hp → Prop} {mc ms pc : Nat} {L L' : List (Nat × Value)} {st st' : List Value} {h h2 : Hp}
theorem x_ixor {x y : Int32} (hd : decode M.2.1 pc = .ok (.ixor, 1)) (k : XX l G M rm K mc ms (pc + 1) L (.int (x ^^^ y) :: st) h) : XX l G M rm K mc ms pc L (.int y :: .int x :: st) h := fun p e s m args below meth c C H locs cells slots ls hR hS hl h1 h2 => lv_ixor C.1 C.2.1 hd (k p e s m args below meth c C H locs cells slots ls hR hS hl h1 h2)
theorem x_fcmp {x y : UInt32} {op : CmpOp} (hd : decode M.2.1 pc = .ok (.fcmp op, 1)) (k : XX l G M rm K mc ms (pc + 1) L (.int (Op.cmpValue (FP.fcmp x y) op) :: st) h) : XX l G M rm K mc ms pc L (.float y :: .float x :: st) h := fun p e s m args below meth c C H locs cells slots ls hR hS hl h1 h2 => lv_fcmp C.1 C.2.1 hd (k p e s m args below meth c C H locs cells slots ls hR hS hl h1 h2)
theorem x_dcmp {x y : UInt64} {op : CmpOp} (hd : decode M.2.1 pc = .ok (.dcmp op, 1)) (k : XX l G M rm K mc ms (pc + 1) L (.int (Op.cmpValue (FP.dcmp x y) op) :: st) h) : XX l G M rm K mc ms pc L (.double y :: .double x :: st) h := fun p e s m args below meth c C H locs cells slots ls hR hS hl h1 h2 => lv_dcmp C.1 C.2.1 hd (k p e s m args below meth c C H locs cells slots ls hR hS hl h1 h2)
theorem y_iload_n {n : Fin 4} {i : Nat} {x : Int32} (j : Nat) (hd : decode M.2.1 pc = .ok (.iload_n n, 1)) (hi : (n : Nat) = i) (hj : L[j]? = some (i, .int x)) (k : XS S l G M rm K mc ms (pc + 1) L (.int x :: st) h) : XS S l G M rm K mc ms (pc) L (st) h := fun p e s m args below meth c C hs H locs cells slots ls hR hS hl h1 h2 => lv_iload_n C.1 C.2.1 hd hi (lv_at hl j hj) (k p e s m args below meth c C hs H locs cells slots ls hR hS hl h1 h2)
theorem y_aload_n {n : Fin 4} {i : Nat} {x : Nat} (j : Nat) (hd : decode M.2.1 pc = .ok (.aload_n n, 1)) (hi : (n : Nat) = i) (hj : L[j]? = some (i, .ref x)) (k : XS S l G M rm K mc ms (pc + 1) L (.ref x :: st) h) : XS S l G M rm K mc ms (pc) L (st) h := fun p e s m args below meth c C hs H locs cells slots ls hR hS hl h1 h2 => lv_aload_n C.1 C.2.1 hd hi (lv_at hl j hj) (k p e s m args below meth c C hs H locs cells slots ls hR hS hl h1 h2)
theorem y_icmp_ge {x y : Int32} {off : Int} (tgt : Nat) (hd : decode M.2.1 pc = .ok (.if_icmp .ge off, 3)) (ht : (pc : Int) + off = (tgt : Int)) (kt : y ≤ x → XS S l G M rm K mc ms (tgt) L (st) h) (kf : ¬ y ≤ x → XS S l G M rm K mc ms (pc + 3) L (st) h) : XS S l G M rm K mc ms (pc) L (.int y :: .int x :: st) h := fun p e s m args below meth c C hs H locs cells slots ls hR hS hl h1 h2 => lv_icmp_ge C.1 C.2.1 hd ht (fun z => kt z p e s m args below meth c C hs H locs cells slots ls hR hS hl h1 h2) (fun z => kf z p e s m args below meth c C hs H locs cells slots ls hR hS hl h1 h2)
theorem y_fgt (k : XX l G M rm K mc ms pc L st h) : XS S l G M rm K mc ms pc L st h := fun p e s m args below meth c C _ => k p e s m args below meth c C
theorem x_scr (k : ∀ (n : Nat) (xs : Nat → Int32), n < 2 ^ 31 → ¬ G.2.2.1 (G.2.2.2 60) → XS (Scr (G.2.2.2 60) n xs) l G M rm K mc ms pc L st h) : XX l G M rm K mc ms pc L st h := fun p e s m args below meth c C H locs cells slots ls hR hS hl h1 h2 => by
  obtain ⟨-, -, -, -, -, -, -, n, xs, hn, hX, nb⟩ := Cx.st C
  exact k n xs hn nb p e s m args below meth c C ⟨hX, by obtain ⟨scr, e1, -⟩ := hX; exact (Array.getElem?_eq_some_iff.mp e1).1⟩ H locs cells slots ls hR hS hl h1 h2
theorem y_sld {b n i : Nat} {xs : Nat → Int32} (nb : ¬ G.2.2.1 b) (hi : i < n) (hn : n < 2 ^ 31) (hd : decode M.2.1 pc = .ok (.iaload, 1)) (kk : XS (Scr b n xs) l G M rm K mc ms (pc + 1) L (.int (xs i) :: st) h) : XS (Scr b n xs) l G M rm K mc ms pc L (.int (nI i) :: .ref b :: st) h := fun p e s m args below meth c C hs H locs cells slots ls hR hS hl h1 h2 => by
  refine va_sld C.1 C.2.1 hs.1 hs.2 nb hS (i := nI i) (vp_in_nI hi hn) hd ?_
  rw [nI_clamp (by omega)]
  exact kk p e s m args below meth c C hs H locs cells slots ls hR hS hl h1 h2
theorem y_slen {b n : Nat} {xs : Nat → Int32} (nb : ¬ G.2.2.1 b) (hd : decode M.2.1 pc = .ok (.arraylength, 1)) (kk : XS (Scr b n xs) l G M rm K mc ms (pc + 1) L (.int (nI n) :: st) h) : XS (Scr b n xs) l G M rm K mc ms pc L (.ref b :: st) h := fun p e s m args below meth c C hs H locs cells slots ls hR hS hl h1 h2 =>
  va_slen C.1 C.2.1 hs.1 hs.2 nb hS hd (kk p e s m args below meth c C hs H locs cells slots ls hR hS hl h1 h2)
end RULES
set_option maxRecDepth 100000 in
set_option maxHeartbeats 1000000 in
theorem ct_cell {l : Launch} {G : Gl} {h : Hp} {i : Nat} (hi : i < 2 ^ 31) : Ct l G mL_cell 1 0 0 [.ref (G.2.2.2 60), .int (nI i)] h (fun w h' => (∃ x, w = some (.int x)) ∧ h' = h) := by
  refine Ct.of (L := [(0, _), (1, _)]) (by decide) (ble rfl) rfl ?_
  have J : ∀ v : Int32, XX l G mL_cell (Rm 1 0 0) (KQ G (Rm 1 0 0) (fun w h' => (∃ x, w = some (.int x)) ∧ h' = h)) 0 0 15 [(0, .ref (G.2.2.2 60)), (1, .int (nI i))] [.int v, .int 69069] h := by
    intro v
    refine x_sipush (v := 1009) dL_cell_15 rfl ?_
    refine x_iload_n 1 dL_cell_18 rfl rfl ?_
    refine x_imul dL_cell_19 ?_
    refine x_iadd dL_cell_20 ?_
    refine x_imul dL_cell_21 ?_
    refine x_sipush (v := 12345) dL_cell_22 rfl ?_
    refine x_iadd dL_cell_25 ?_
    refine x_istore_n (L' := [(2, _), (0, _), (1, _)]) dL_cell_26 rfl (ble rfl) rfl ?_
    refine x_iload_n 0 dL_cell_27 rfl rfl ?_
    refine x_iload_n 0 dL_cell_28 rfl rfl ?_
    refine x_bipush (v := 13) dL_cell_29 rfl ?_
    refine x_iushr dL_cell_31 ?_
    refine x_ixor dL_cell_32 ?_
    refine x_ldc (v := 1103515245) rfl (List.mem_append_right _ (List.mem_of_getElem? (i := 355) (by decide +kernel))) dL_cell_33 ?_
    refine x_imul dL_cell_35 ?_
    refine x_istore_n (L' := [(2, _), (0, _), (1, _)]) dL_cell_36 rfl (ble rfl) rfl ?_
    refine x_iload_n 0 dL_cell_37 rfl rfl ?_
    refine x_iload_n 0 dL_cell_38 rfl rfl ?_
    refine x_bipush (v := 16) dL_cell_39 rfl ?_
    refine x_iushr dL_cell_41 ?_
    refine x_ixor dL_cell_42 ?_
    refine x_iret rfl dL_cell_43 ?_
    exact ⟨⟨_, rfl⟩, rfl⟩
  refine x_ldc (v := 69069) rfl (List.mem_append_right _ (List.mem_of_getElem? (i := 354) (by decide +kernel))) dL_cell_0 ?_
  refine x_scr (fun n xs hn nb => ?_)
  refine y_iload_n 1 dL_cell_2 rfl rfl ?_
  refine y_aload_n 0 dL_cell_3 rfl rfl ?_
  refine y_slen nb dL_cell_4 ?_
  refine y_icmp_ge 14 dL_cell_5 (by decide) (fun c => ?_) (fun c => ?_)
  · refine y_fgt ?_
    refine x_iconst (v := 0) dL_cell_14 rfl ?_
    exact J 0
  · have hin : i < n := Nat.not_le.mp fun z => c (nI_le z hi)
    refine y_aload_n 0 dL_cell_8 rfl rfl ?_
    refine y_iload_n 1 dL_cell_9 rfl rfl ?_
    refine y_sld nb hin hn dL_cell_10 ?_
    refine y_fgt ?_
    refine x_goto 15 dL_cell_11 (by decide) ?_
    exact J (xs i)
theorem u8_nI (x : Int32) : ∃ q : Nat, q < 2 ^ 31 ∧ (x.toUInt32 >>> ((8 : Int32).toUInt32 &&& Int32.toUInt32 31)).toInt32 = nI q := by
  refine ⟨(x.toUInt32 >>> 8).toNat, ?_, ?_⟩
  · have h1 : (x.toUInt32 >>> 8).toNat = x.toUInt32.toNat >>> 8 := by
      rw [UInt32.toNat_shiftRight]; rfl
    have h2 := x.toUInt32.toNat_lt
    rw [h1, Nat.shiftRight_eq_div_pow]
    omega
  · rw [show ((8 : Int32).toUInt32 &&& Int32.toUInt32 31) = 8 from rfl]
    generalize x.toUInt32 >>> 8 = u
    show u.toInt32 = Int32.ofNat u.toNat
    rw [← UInt32.toInt32_ofNat', UInt32.ofNat_toNat]
set_option maxRecDepth 100000 in
set_option maxHeartbeats 1000000 in
theorem ct_pick {l : Launch} {G : Gl} {h : Hp} {i m : Nat} (hi : i < 2 ^ 31) (hm0 : 0 < m) (hm : m < 2 ^ 31) : Ct l G mL_pick 2 0 0 [.ref (G.2.2.2 60), .int (nI i), .int (nI m)] h (fun w h' => (∃ r, r < m ∧ w = some (.int (nI r))) ∧ h' = h) := by
  refine Ct.of (L := [(0, _), (1, _), (2, _)]) (by decide) (ble rfl) rfl ?_
  have hmz : ¬ nI m = 0 := fun z => by have := (nI_eq (a := m) (b := 0) hm (by omega)).mp z; omega
  refine x_aload_n 0 dL_pick_0 rfl rfl ?_
  refine x_iload_n 1 dL_pick_1 rfl rfl ?_
  refine x_callS (mc1 := 0) (ms1 := 0) (As := [.ref _, .int _]) (ct_cell hi) vL_9 rfl rfl ⟨ble rfl, ble rfl⟩ (ble rfl) dL_pick_2 rfl ⟨by omega, by omega⟩ (fun w h1 q1 => ?_)
  obtain ⟨⟨x, rfl⟩, rfl⟩ := q1
  refine x_bipush (v := 8) dL_pick_5 rfl ?_
  refine x_iushr dL_pick_7 ?_
  refine x_iload_n 2 dL_pick_8 rfl rfl ?_
  refine x_irem dL_pick_9 hmz ?_
  obtain ⟨q, hq, e⟩ := u8_nI x
  rw [e, pk_rem hq hm0 hm]
  refine x_iret rfl dL_pick_10 ?_
  exact ⟨⟨_, Nat.mod_lt _ hm0, rfl⟩, rfl⟩
