/-! ===== calls whose answer and heap are known; constants of the kinds and verbs ===== -/
def CtR (l : Launch) (G : Gl) (M : MM) (d : Nat) (args : List Value) (h : Hp) (v : Option Value) (h2 : Hp) : Prop := Ct l G M d 0 0 args h (fun w h' => w = v ∧ h' = h2)
abbrev ble {a b : Nat} (h : Nat.ble a b = true) : a ≤ b := Nat.le_of_ble_eq_true h
section CALC3
variable {l : Launch} {G : Gl} {M : MM} {rm : Room} {K : List Frame → Array Value → State → State → Prop} {Q : Option Value → Hp → Prop} {mc ms pc : Nat} {L L' : List (Nat × Value)} {st : List Value} {h : Hp}
variable {own host : String} {M' : MM} {index n d' b : Nat} {As st0 : List Value} {v : Value} {h2 : Hp}
theorem x_cV1 (hct : CtR l G M' d' (.ref b :: As) h (some v) h2) (cw : CWV own index n M') (hown : M.1.cls = own) (hrecv : ∀ (s : State) (H : Heap) (locs : List Loc), Sta G s → Rep G h H → va_S G.2.2.1 s.heap H locs → ∃ cell : Cell, H[b]? = some cell ∧ cell.vm.isStatics = false ∧ s.vm.findClass M'.1.cls = some cell.cls) (hn : As.length = n) (hR : d' + 1 ≤ rm.frames ∧ 8 + (M'.2.2.1 + 11) + 38 * d' ≤ rm.locals) (hW : (st.map fun v => v.category).sum ≤ 8) (hd : decode M.2.1 pc = .ok (.invokevirtual index, 3)) (hst : st0 = As.reverse ++ .ref b :: st) (kk : XX l G M rm K mc ms (pc + 3) L (v :: st) h2) : XX l G M rm K mc ms pc L st0 h :=
  x_callW (mc1 := mc) (ms1 := ms) hct cw hown hrecv hn hR hW hd hst ⟨by omega, by omega⟩ (fun w h' q => by obtain ⟨rfl, rfl⟩ := q; exact kk)
theorem x_cV0 (hct : CtR l G M' d' (.ref b :: As) h none h2) (cw : CWV own index n M') (hown : M.1.cls = own) (hrecv : ∀ (s : State) (H : Heap) (locs : List Loc), Sta G s → Rep G h H → va_S G.2.2.1 s.heap H locs → ∃ cell : Cell, H[b]? = some cell ∧ cell.vm.isStatics = false ∧ s.vm.findClass M'.1.cls = some cell.cls) (hn : As.length = n) (hR : d' + 1 ≤ rm.frames ∧ 8 + (M'.2.2.1 + 11) + 38 * d' ≤ rm.locals) (hW : (st.map fun v => v.category).sum ≤ 8) (hd : decode M.2.1 pc = .ok (.invokevirtual index, 3)) (hst : st0 = As.reverse ++ .ref b :: st) (kk : XX l G M rm K mc ms (pc + 3) L st h2) : XX l G M rm K mc ms pc L st0 h :=
  x_callW (mc1 := mc) (ms1 := ms) hct cw hown hrecv hn hR hW hd hst ⟨by omega, by omega⟩ (fun w h' q => by obtain ⟨rfl, rfl⟩ := q; exact kk)
theorem x_cS1 (hct : CtR l G M' d' As h (some v) h2) (cw : CWS own index n M') (hown : M.1.cls = own) (hn : As.length = n) (hR : d' + 1 ≤ rm.frames ∧ 8 + (M'.2.2.1 + 11) + 38 * d' ≤ rm.locals) (hW : (st.map fun v => v.category).sum ≤ 8) (hd : decode M.2.1 pc = .ok (.invokestatic index, 3)) (hst : st0 = As.reverse ++ st) (kk : XX l G M rm K mc ms (pc + 3) L (v :: st) h2) : XX l G M rm K mc ms pc L st0 h :=
  x_callS (mc1 := mc) (ms1 := ms) hct cw hown hn hR hW hd hst ⟨by omega, by omega⟩ (fun w h' q => by obtain ⟨rfl, rfl⟩ := q; exact kk)
theorem x_cS0 (hct : CtR l G M' d' As h none h2) (cw : CWS own index n M') (hown : M.1.cls = own) (hn : As.length = n) (hR : d' + 1 ≤ rm.frames ∧ 8 + (M'.2.2.1 + 11) + 38 * d' ≤ rm.locals) (hW : (st.map fun v => v.category).sum ≤ 8) (hd : decode M.2.1 pc = .ok (.invokestatic index, 3)) (hst : st0 = As.reverse ++ st) (kk : XX l G M rm K mc ms (pc + 3) L st h2) : XX l G M rm K mc ms pc L st0 h :=
  x_callS (mc1 := mc) (ms1 := ms) hct cw hown hn hR hW hd hst ⟨by omega, by omega⟩ (fun w h' q => by obtain ⟨rfl, rfl⟩ := q; exact kk)
theorem x_cSN1 (hct : CtR l G M' d' As h (some v) h2) (cw : CWSN own index n host M') (hown : M.1.cls = own) (hn : As.length = n) (hR : d' + 1 ≤ rm.frames ∧ 8 + (M'.2.2.1 + 11) + 38 * d' ≤ rm.locals) (hW : (st.map fun v => v.category).sum ≤ 8) (hd : decode M.2.1 pc = .ok (.invokestatic index, 3)) (hst : st0 = As.reverse ++ st) (kk : XX l G M rm K mc ms (pc + 3) L (v :: st) h2) : XX l G M rm K mc ms pc L st0 h :=
  x_callSN (mc1 := mc) (ms1 := ms) hct cw hown hn hR hW hd hst ⟨by omega, by omega⟩ (fun w h' q => by obtain ⟨rfl, rfl⟩ := q; exact kk)
theorem x_putS {own C0 : String} {T : u_T} {N ci index k a : Nat} {ty : Nat → FieldType} {fs : List Value} {v : Value} (F : FW own index ci k C0 T N ty) (hown : M.1.cls = own) (hfin : (T k).2.2.2 = false) (hn : narrow (ty k) v = v) (hfit : fits (ty k) v = true) (hd : decode M.2.1 pc = .ok (.putfield index, 3)) (hl0 : k < fs.length) (hA : G.2.2.1 a) (kk : XX l G M rm K mc ms (pc + 3) L st (hset h a (.inr (ci, fs.set k v)))) : XX l G M rm K mc ms pc L (v :: .ref a :: st) (hset h a (.inr (ci, fs))) :=
  x_put F hown hfin hn hfit hd hset_s hl0 hA (by rw [hset_2]; exact kk)
theorem hget_n {h : Hp} {a b : Nat} {e x : va_E} (n : b ≠ a) (k : h b = some x) : hset h a e b = some x := by rw [hset_n n]; exact k
end CALC3
theorem CtR.cg {l : Launch} {G : Gl} {M : MM} {d : Nat} {args : List Value} {h : Hp} {v v' : Option Value} {h2 h2' : Hp} (k : CtR l G M d args h v h2) (e : v = v') (e2 : h2 = h2') : CtR l G M d args h v' h2' := by subst e; subst e2; exact k
def kNum (k : Nat) : Int32 := ([0, 1, 2] : List Int32).getD k 0
def kArea (k : Nat) : Int32 := ([12, 8, 20] : List Int32).getD k 0
def kSm (k : Nat) : Int32 := ([24, 16, 40] : List Int32).getD k 0
def kMeal (k : Nat) : Int32 := ([4, 2, 6] : List Int32).getD k 0
def kBare (k : Nat) : Int32 := ([30, 50, 10] : List Int32).getD k 0
def kThk (k : Nat) : Int32 := ([5, 4, 3] : List Int32).getD k 0
def kHalf (k : Nat) : Int32 := ([2, 4, 1] : List Int32).getD k 0
section CONSTS
variable {G : Gl} {k : Nat}
theorem zK_number (hk : k < 3) : ∀ s : State, Sta G s → va_OF RX2 "number" "I" (.int (kNum k)) (G.2.2.2 k) G.2.2.1 s s.heap := fun s hS => (hS.2.2.2.1.1 k hk).2.2 (RX2, "number", "I", [0, 1, 2]) (by simp [FKd])
theorem zK_area (hk : k < 3) : ∀ s : State, Sta G s → va_OF RX2 "area" "I" (.int (kArea k)) (G.2.2.2 k) G.2.2.1 s s.heap := fun s hS => (hS.2.2.2.1.1 k hk).2.2 (RX2, "area", "I", [12, 8, 20]) (by simp [FKd])
theorem zK_smoothBlows (hk : k < 3) : ∀ s : State, Sta G s → va_OF RX2 "smoothBlows" "I" (.int (kSm k)) (G.2.2.2 k) G.2.2.1 s s.heap := fun s hS => (hS.2.2.2.1.1 k hk).2.2 (RX2, "smoothBlows", "I", [24, 16, 40]) (by simp [FKd])
theorem zK_mealsToWear (hk : k < 3) : ∀ s : State, Sta G s → va_OF RX2 "mealsToWear" "I" (.int (kMeal k)) (G.2.2.2 k) G.2.2.1 s s.heap := fun s hS => (hS.2.2.2.1.1 k hk).2.2 (RX2, "mealsToWear", "I", [4, 2, 6]) (by simp [FKd])
theorem zK_bareSound (hk : k < 3) : ∀ s : State, Sta G s → va_OF RX2 "bareSound" "I" (.int (kBare k)) (G.2.2.2 k) G.2.2.1 s s.heap := fun s hS => (hS.2.2.2.1.1 k hk).2.2 (RX2, "bareSound", "I", [30, 50, 10]) (by simp [FKd])
theorem zK_soundByThickness (hk : k < 3) : ∀ s : State, Sta G s → va_OF RX2 "soundByThickness" "I" (.int (kThk k)) (G.2.2.2 k) G.2.2.1 s s.heap := fun s hS => (hS.2.2.2.1.1 k hk).2.2 (RX2, "soundByThickness", "I", [5, 4, 3]) (by simp [FKd])
theorem zK_halvesByTin (hk : k < 3) : ∀ s : State, Sta G s → va_OF RX2 "halvesByTin" "I" (.int (kHalf k)) (G.2.2.2 k) G.2.2.1 s s.heap := fun s hS => (hS.2.2.2.1.1 k hk).2.2 (RX2, "halvesByTin", "I", [2, 4, 1]) (by simp [FKd])
theorem zK_obj (hk : k < 3) : ∀ s : State, Sta G s → va_O RX2 (G.2.2.2 k) G.2.2.1 s s.heap := fun s hS => (hS.2.2.2.1.1 k hk).2.1
theorem zK_st (hk : k < 3) {nm : String} (hn : nmKd.getD k "" = nm) : ∀ s : State, Sta G s → va_Z RX2 nm "LCopperStreet$Kind;" (.ref (G.2.2.2 k)) G.2.2.1 s s.heap := fun s hS => hn ▸ (hS.2.2.2.1.1 k hk).1
theorem zK_ALL : ∀ s : State, Sta G s → va_Z RX2 "ALL" "[LCopperStreet$Kind;" (.ref (G.2.2.2 10)) G.2.2.1 s s.heap := fun s hS => hS.2.2.2.2.1
theorem zK_ALLt : ∀ s : State, Sta G s → va_T (.object RX2) (G.2.2.2 10) 3 (fun j => .ref (G.2.2.2 j)) G.2.2.1 s s.heap := fun s hS => hS.2.2.2.2.2.1
end CONSTS
/-! ===== what the cells of the class hold ===== -/
abbrev eI (G : Gl) (n : Nat) (f : Nat → Int32) : va_E := .inl (G.2.1 0, n, .inl f)
abbrev eZ (G : Gl) (n : Nat) (f : Nat → Int32) : va_E := .inl (G.2.1 1, n, .inl f)
abbrev eB (G : Gl) (n : Nat) (f : Nat → Int32) : va_E := .inl (G.2.1 2, n, .inl f)
abbrev eR (G : Gl) (t n : Nat) (f : Nat → Option Nat) : va_E := .inl (G.2.1 t, n, .inr (.inr (.inr (.inr f))))
abbrev eSheet (g fa ar ps : Int32) : va_E := .inr (7, [.int g, .int fa, .int ar, .int ps])
abbrev ePot (G : Gl) (n : Int32) (k : Nat) (sh g b t r m o : Int32) : va_E := .inr (4, [.int n, .ref (G.2.2.2 k), .int sh, .int g, .int b, .int t, .int r, .int m, .int o])
abbrev eOrd (G : Gl) (k : Nat) (t p po pd : Int32) : va_E := .inr (3, [.ref (G.2.2.2 k), .int t, .int p, .int po, .int pd])
def mx (a b : Int32) : Int32 := if a < b then b else a
def mn (a b : Int32) : Int32 := if b < a then b else a
def b2i (c : Prop) [Decidable c] : Int32 := if c then 1 else 0
theorem wX11_188 : Cond.methodLink RX11 188 Lib.Math.min.name ∈ lw_tbl := List.mem_append_right _ (List.mem_of_getElem? (i := 677) (by decide +kernel))
theorem wX11_323 : Cond.methodLink RX11 323 Lib.Math.abs.name ∈ lw_tbl := List.mem_append_right _ (List.mem_of_getElem? (i := 773) (by decide +kernel))
theorem wX0_49 : Cond.methodLink RX0 49 Lib.Math.abs.name ∈ lw_tbl := List.mem_append_right _ (List.mem_of_getElem? (i := 762) (by decide +kernel))
theorem wX1_29 : Cond.methodLink RX1 29 Lib.Math.min.name ∈ lw_tbl := List.mem_append_right _ (List.mem_of_getElem? (i := 410) (by decide +kernel))
theorem wX3_39 : Cond.methodLink RX3 39 Lib.Math.max.name ∈ lw_tbl := List.mem_append_right _ (List.mem_of_getElem? (i := 601) (by decide +kernel))
theorem wX4_48 : Cond.methodLink RX4 48 Lib.Math.max.name ∈ lw_tbl := List.mem_append_right _ (List.mem_of_getElem? (i := 460) (by decide +kernel))
theorem wX5_26 : Cond.methodLink RX5 26 Lib.Math.min.name ∈ lw_tbl := List.mem_append_right _ (List.mem_of_getElem? (i := 395) (by decide +kernel))
theorem wL_42 : Cond.methodLink RL 42 Lib.Math.max.name ∈ lw_tbl := List.mem_append_right _ (List.mem_of_getElem? (i := 551) (by decide +kernel))
theorem wL_125 : Cond.methodLink RL 125 Lib.Math.abs.name ∈ lw_tbl := List.mem_append_right _ (List.mem_of_getElem? (i := 765) (by decide +kernel))
