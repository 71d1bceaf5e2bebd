/-! ===== the calculus: fields, arrays, constants, new objects, calls ===== -/
theorem gi {ws : List Cond} (h : ∀ w ∈ ws, w ∈ Tg) : GoodIn Tg ws := fun w hw => ⟨h w hw, good_of_word (List.mem_filter.mp (h w hw)).2⟩
theorem Cx.own {l : Launch} {G : Gl} {M : MM} {p : Program} {s : State} {m : MethodId} {args : Array Value} {meth : Method} {c : Code} (C : Cx l G M p s m args meth c) {own : String} (h : M.1.cls = own) : s.vm.findClass own = some m.cls := by rw [← h]; exact C.2.2.2.2.1
theorem Cx.w {l : Launch} {G : Gl} {M : MM} {p : Program} {s : State} {m : MethodId} {args : Array Value} {meth : Method} {c : Code} (C : Cx l G M p s m args meth c) {x : Cond} (h : x ∈ Tg) : x.before args s = true := C.2.2.2.2.2.1 x h
theorem Cx.st {l : Launch} {G : Gl} {M : MM} {p : Program} {s : State} {m : MethodId} {args : Array Value} {meth : Method} {c : Code} (C : Cx l G M p s m args meth c) : Sta G s := C.2.2.2.2.2.2.2.2.1
/-- what a field of a class is, by program: the class at its place, its words, its types -/
def FW (own : String) (index ci k : Nat) (C : String) (T : u_T) (N : Nat) (ty : Nat → FieldType) : Prop :=
  (∀ w ∈ u_ws C T N, w ∈ lw_tbl) ∧ vwCl[ci]? = some (C, T, N) ∧ k < N ∧ Cond.fieldLink own index (T k).1 (T k).2.1 (T k).2.2.1 ∈ lw_tbl ∧ (∀ k, k < N → parseFieldDescriptor (T k).2.2.1 = some (ty k)) ∧ ∀ a, a < N → ∀ b, b < N → a ≠ b → (T a).2.1 ≠ (T b).2.1
def CWV (own : String) (index n : Nat) (M' : MM) : Prop := Cond.methodLink own index M'.1 ∈ lw_tbl ∧ Cond.instanceMethod M'.1 ∈ lw_tbl ∧ Cond.selects M'.1.cls M'.1 M'.1 ∈ lw_tbl ∧ Cond.initialized M'.1.cls ∈ lw_tbl ∧ Cond.code M'.1 M'.2.1 M'.2.2.1 M'.2.2.2 ∈ lw_tbl ∧ (M'.1.cls ≠ "java/lang/invoke/MethodHandle" ∧ M'.1.cls ≠ "java/lang/invoke/VarHandle" ∧ (parseMethodDescriptor M'.1.desc).map (fun d => d.parameters.length) = some n)
def CWS (own : String) (index n : Nat) (M' : MM) : Prop := Cond.methodLink own index M'.1 ∈ lw_tbl ∧ Cond.static M'.1 ∈ lw_tbl ∧ Cond.initialized M'.1.cls ∈ lw_tbl ∧ Cond.code M'.1 M'.2.1 M'.2.2.1 M'.2.2.2 ∈ lw_tbl ∧ (M'.1.cls ≠ "java/lang/invoke/MethodHandle" ∧ M'.1.cls ≠ "java/lang/invoke/VarHandle" ∧ (parseMethodDescriptor M'.1.desc).map (fun d => d.parameters.length) = some n)
def CWI (own : String) (index n : Nat) (M' : MM) : Prop := Cond.methodLink own index M'.1 ∈ lw_tbl ∧ Cond.instanceMethod M'.1 ∈ lw_tbl ∧ Cond.initialized M'.1.cls ∈ lw_tbl ∧ Cond.code M'.1 M'.2.1 M'.2.2.1 none ∈ lw_tbl ∧ M'.1.name = "<init>" ∧ M'.2.2.2 = none ∧ (M'.1.cls ≠ "java/lang/invoke/MethodHandle" ∧ M'.1.cls ≠ "java/lang/invoke/VarHandle" ∧ (parseMethodDescriptor M'.1.desc).map (fun d => d.parameters.length) = some n)
def CWN (own : String) (index n : Nat) (host : String) (M' : MM) : Prop := Cond.methodLinkNest own index M'.1 host ∈ lw_tbl ∧ Cond.instanceMethod M'.1 ∈ lw_tbl ∧ Cond.initialized M'.1.cls ∈ lw_tbl ∧ Cond.code M'.1 M'.2.1 M'.2.2.1 none ∈ lw_tbl ∧ M'.1.name = "<init>" ∧ M'.2.2.2 = none ∧ (M'.1.cls ≠ "java/lang/invoke/MethodHandle" ∧ M'.1.cls ≠ "java/lang/invoke/VarHandle" ∧ (parseMethodDescriptor M'.1.desc).map (fun d => d.parameters.length) = some n)
def CWSN (own : String) (index n : Nat) (host : String) (M' : MM) : Prop := Cond.methodLinkNest own index M'.1 host ∈ lw_tbl ∧ Cond.static M'.1 ∈ lw_tbl ∧ Cond.initialized M'.1.cls ∈ lw_tbl ∧ Cond.code M'.1 M'.2.1 M'.2.2.1 M'.2.2.2 ∈ lw_tbl ∧ (M'.1.cls ≠ "java/lang/invoke/MethodHandle" ∧ M'.1.cls ≠ "java/lang/invoke/VarHandle" ∧ (parseMethodDescriptor M'.1.desc).map (fun d => d.parameters.length) = some n)
section CALC2
variable {l : Launch} {G : Gl} {M : MM} {rm : Room} {K : List Frame → Array Value → State → State → Prop} {Q : Option Value → Hp → Prop} {mc ms pc : Nat} {L L' : List (Nat × Value)} {st : List Value} {h : Hp}
theorem x_get {own C0 : String} {T : u_T} {N ci index k a : Nat} {ty : Nat → FieldType} {fs : List Value} {v : Value} (F : FW own index ci k C0 T N ty) (hown : M.1.cls = own) (hd : decode M.2.1 pc = .ok (.getfield index, 3)) (he : h a = some (.inr (ci, fs))) (hv : fs[k]? = some v) (kk : XX l G M rm K mc ms (pc + 3) L (v :: st) h) : XX l G M rm K mc ms pc L (.ref a :: st) h :=
  fun p e s m args below meth c C H locs cells slots ls hR hS hl h1 h2 => va_get C.1 C.2.1 (fun w hw => C.w hw) (tg_lay F.1) (C.own hown) C.st.1 (hR.one he) 0 rfl F.2.1 k F.2.2.1 (C.w (tg F.2.2.2.1 rfl)) (fun _ z => z) hv hd (kk p e s m args below meth c C H locs cells slots ls hR hS hl h1 h2)
theorem x_put {own C0 : String} {T : u_T} {N ci index k a : Nat} {ty : Nat → FieldType} {fs : List Value} {v : Value} (F : FW own index ci k C0 T N ty) (hown : M.1.cls = own) (hfin : (T k).2.2.2 = false) (hn : narrow (ty k) v = v) (hfit : fits (ty k) v = true) (hd : decode M.2.1 pc = .ok (.putfield index, 3)) (he : h a = some (.inr (ci, fs))) (hl0 : k < fs.length) (hA : G.2.2.1 a) (kk : XX l G M rm K mc ms (pc + 3) L st (hset h a (.inr (ci, fs.set k v)))) : XX l G M rm K mc ms pc L (v :: .ref a :: st) h := by
  intro p e s m args below meth c C H locs cells slots ls hR hS hl h1 h2
  obtain ⟨hin, hc, hk, hlk, hty, hnm⟩ := F
  have hts : ∀ w ∈ Tg, w.before args s = true := fun w hw => C.w hw
  have hK := C.st.1
  have hap := va_apart (own := own) hts (tg_lay hin) ty hty hnm hK hc
  obtain ⟨r, g1, cell, q1, q2, q3, q4⟩ := hR a _ he
  have hr : r = (C0, T, N) := Option.some.inj (g1.symm.trans hc)
  subst hr
  obtain ⟨hSl, hfc, kC, hkC, hkind⟩ := hK.1 ci _ hc
  obtain ⟨cf, kf, fi, f, hi, hsl⟩ := hSl k hk
  have hlay := hts _ (tg_lay hin _ (u_in_lay hk))
  unfold u_lay at hlay
  rw [if_neg (by rw [hfin]; decide)] at hlay
  have hst := (u_facts hfc hkC (u_lays hts (tg_lay hin) hk) hi).1
  have h6 := u_store hfc hkC hkind hlay hi (hty k hk) hn hfit
  refine W.putK C.1 C.2.1 (f := f) ⟨C.own hown, C.w (tg hlk rfl), ⟨_, _, _, hi⟩, hst⟩ (by rw [q2]; exact h6) q1 q3 (by rw [hsl]; exact k2_hasslot (q4 k hk)) rfl rfl hd fun H' e1 e2 e3 => ?_
  rw [hsl] at e1 ⊢
  exact kk p e s m args below meth c C H' _ cells slots ls (hR.put ⟨_, hc, t_OB.to (V := updV (vp_V fs) k v) ⟨_, e1, q2, q3, t_set q4 hap hk v⟩ (fun j _ => vp_updV_set hl0 v j)⟩ e3) (hS.put e2 e3 hA) hl h1 h2
theorem x_putF {own C0 : String} {T : u_T} {N ci index k a : Nat} {ty : Nat → FieldType} {fs : List Value} {v : Value} (F : FW own index ci k C0 T N ty) (hown : M.1.cls = own) (hfin : (T k).2.2.2 = true) (hin2 : M.1.name = "<init>") (hdecl : (T k).1 = own) (hn : narrow (ty k) v = v) (hfit : fits (ty k) v = true) (hd : decode M.2.1 pc = .ok (.putfield index, 3)) (he : h a = some (.inr (ci, fs))) (hl0 : k < fs.length) (hA : G.2.2.1 a) (kk : XX l G M rm K mc ms (pc + 3) L st (hset h a (.inr (ci, fs.set k v)))) : XX l G M rm K mc ms pc L (v :: .ref a :: st) h := by
  intro p e s m args below meth c C H locs cells slots ls hR hS hl h1 h2
  obtain ⟨hin, hc, hk, hlk, hty, hnm⟩ := F
  have hts : ∀ w ∈ Tg, w.before args s = true := fun w hw => C.w hw
  have hown' := C.own hown
  have hK := C.st.1
  have hap := va_apart (own := own) hts (tg_lay hin) ty hty hnm hK hc
  obtain ⟨r, g1, cell, q1, q2, q3, q4⟩ := hR a _ he
  have hr : r = (C0, T, N) := Option.some.inj (g1.symm.trans hc)
  subst hr
  obtain ⟨hSl, hfc, kC, hkC, hkind⟩ := hK.1 ci _ hc
  obtain ⟨cf, kf, fi, f, hi, hsl⟩ := hSl k hk
  have hlay := hts _ (tg_lay hin _ (u_in_lay hk))
  unfold u_lay at hlay
  rw [if_pos hfin] at hlay
  have hst := (u_facts hfc hkC (u_lays hts (tg_lay hin) hk) hi).1
  have hcf : m.cls = cf := by
    obtain ⟨_, _, c', _, _, _, -, -, hf', -, -, -, hown2, -⟩ := Cond.laysFinal_spec hlay
    have e1 : c' = cf := by have := hi.symm.trans hf'; simp at this; exact this.1.symm
    rw [hdecl] at hown2
    rw [← e1]; exact Option.some.inj (hown'.symm.trans hown2)
  have h6 := u_fits hfc hkC hkind (Or.inr hlay) hi (hty k hk) hn hfit
  refine W.putFinK C.1 C.2.1 hown' (C.w (tg hlk rfl)) hi hst hcf (C.2.2.2.2.2.2.2.1.trans hin2) (by rw [q2]; exact h6) q1 q3 (by rw [hsl]; exact k2_hasslot (q4 k hk)) rfl rfl hd fun H' e1 e2 e3 => ?_
  rw [hsl] at e1 ⊢
  exact kk p e s m args below meth c C H' _ cells slots ls (hR.put ⟨_, hc, t_OB.to (V := updV (vp_V fs) k v) ⟨_, e1, q2, q3, t_set q4 hap hk v⟩ (fun j _ => vp_updV_set hl0 v j)⟩ e3) (hS.put e2 e3 hA) hl h1 h2
theorem x_iald {a n : Nat} {f : Nat → Int32} {i : Int32} (hd : decode M.2.1 pc = .ok (.iaload, 1)) (he : h a = some (.inl (G.2.1 0, n, .inl f))) (hin : vp_in i n) (kk : XX l G M rm K mc ms (pc + 1) L (.int (f i.toNatClampNeg) :: st) h) : XX l G M rm K mc ms pc L (.int i :: .ref a :: st) h :=
  fun p e s m args below meth c C H locs cells slots ls hR hS hl h1 h2 => va_iald C.1 C.2.1 C.st.1 (hR.one he) 0 0 rfl rfl hin hd (kk p e s m args below meth c C H locs cells slots ls hR hS hl h1 h2)
theorem x_bald {a n : Nat} {f : Nat → Int32} {i : Int32} (hd : decode M.2.1 pc = .ok (.baload, 1)) (he : h a = some (.inl (G.2.1 2, n, .inl f))) (hin : vp_in i n) (kk : XX l G M rm K mc ms (pc + 1) L (.int (f i.toNatClampNeg) :: st) h) : XX l G M rm K mc ms pc L (.int i :: .ref a :: st) h :=
  fun p e s m args below meth c C H locs cells slots ls hR hS hl h1 h2 => va_bald C.1 C.2.1 C.st.1 (hR.one he) 0 2 rfl rfl hin hd (kk p e s m args below meth c C H locs cells slots ls hR hS hl h1 h2)
theorem x_aald {a n : Nat} {cA : ClassId} {C0 : String} (t0 : Nat) {f : Nat → Option Nat} {i : Int32} (ht : (tysOf G)[t0]? = some (cA, .object C0)) (hd : decode M.2.1 pc = .ok (.aaload, 1)) (he : h a = some (.inl (cA, n, .inr (.inr (.inr (.inr f)))))) (hin : vp_in i n) {v : Value} (hv : va_rf (f i.toNatClampNeg) = v) (kk : XX l G M rm K mc ms (pc + 1) L (v :: st) h) : XX l G M rm K mc ms pc L (.int i :: .ref a :: st) h := by
  subst hv
  exact fun p e s m args below meth c C H locs cells slots ls hR hS hl h1 h2 => va_aldq C.1 C.2.1 C.st.1 (hR.one he) 0 t0 rfl ht hin hd (kk p e s m args below meth c C H locs cells slots ls hR hS hl h1 h2)
theorem x_alen {a : Nat} {cA : ClassId} {x : vp_A} {ty : FieldType} (t0 : Nat) (ht : (tysOf G)[t0]? = some (cA, ty)) (hd : decode M.2.1 pc = .ok (.arraylength, 1)) (he : h a = some (.inl (cA, x))) {v : Int32} (hv : Int32.ofNat x.1 = v) (kk : XX l G M rm K mc ms (pc + 1) L (.int v :: st) h) : XX l G M rm K mc ms pc L (.ref a :: st) h :=
  fun p e s m args below meth c C H locs cells slots ls hR hS hl h1 h2 => va_alen C.1 C.2.1 C.st.1 (hR.one he) 0 t0 rfl ht hv hd (kk p e s m args below meth c C H locs cells slots ls hR hS hl h1 h2)
theorem x_iast {a n : Nat} {f : Nat → Int32} {i x : Int32} (hd : decode M.2.1 pc = .ok (.iastore, 1)) (he : h a = some (.inl (G.2.1 0, n, .inl f))) (hin : vp_in i n) (hA : G.2.2.1 a) (kk : XX l G M rm K mc ms (pc + 1) L st (hset h a (.inl (G.2.1 0, n, .inl (upd f i.toNatClampNeg x))))) : XX l G M rm K mc ms pc L (.int x :: .int i :: .ref a :: st) h := by
  intro p e s m args below meth c C H locs cells slots ls hR hS hl h1 h2
  have hK := C.st.1
  refine W.iast C.1 C.2.1 (hR a _ he) ((hK.2 0 _ rfl).1 n (fun j => .int (f j))) (fun q => by cases q) (by show ¬ (i < 0 ∨ (arrV _ _ _).slots.size ≤ _); rw [arrV_size]; exact hin) rfl rfl hd fun H1 e z oq => ?_
  refine kk p _ s m args below meth c C H1 _ cells slots ls (hR.put ?_ oq) (hS.put z oq hA) hl h1 h2
  show H1[a]? = some (vp_cell _ _)
  rw [e]
  rw [vp_cell_i, vp_cell_i, arrV_store]
  congr 2
  funext q
  by_cases hq : q = i.toNatClampNeg
  · subst hq
    simp [updV, upd]
  · simp [updV, upd, hq]
theorem x_bast {a n : Nat} {f : Nat → Int32} {i x : Int32} (hd : decode M.2.1 pc = .ok (.bastore, 1)) (he : h a = some (.inl (G.2.1 2, n, .inl f))) (hin : vp_in i n) (hA : G.2.2.1 a) (kk : XX l G M rm K mc ms (pc + 1) L st (hset h a (.inl (G.2.1 2, n, .inl (upd f i.toNatClampNeg x.toInt8.toInt32))))) : XX l G M rm K mc ms pc L (.int x :: .int i :: .ref a :: st) h := by
  intro p e s m args below meth c C H locs cells slots ls hR hS hl h1 h2
  have hK := C.st.1
  refine W.bast C.1 C.2.1 (hR a _ he) ((hK.2 2 _ rfl).1 n (fun j => .int (f j))) (fun q => by cases q) (by show ¬ (i < 0 ∨ (arrV _ _ _).slots.size ≤ _); rw [arrV_size]; exact hin) rfl rfl hd fun H1 e z oq => ?_
  refine kk p _ s m args below meth c C H1 _ cells slots ls (hR.put ?_ oq) (hS.put z oq hA) hl h1 h2
  show H1[a]? = some (vp_cell _ _)
  rw [e]
  rw [vp_cell_i, vp_cell_i, arrV_store]
  congr 2
  funext q
  by_cases hq : q = i.toNatClampNeg
  · subst hq
    simp [updV, upd, narrow]
  · simp [updV, upd, hq]
theorem x_gets {C0 n d own : String} {index : Nat} {v : Value} (hZ : ∀ s : State, Sta G s → va_Z C0 n d v G.2.2.1 s s.heap) (hown : M.1.cls = own) (hlk : Cond.fieldLink own index C0 n d ∈ lw_tbl) (hd : decode M.2.1 pc = .ok (.getstatic index, 3)) (kk : XX l G M rm K mc ms (pc + 3) L (v :: st) h) : XX l G M rm K mc ms pc L st h :=
  fun p e s m args below meth c C H locs cells slots ls hR hS hl h1 h2 => va_gets C.1 C.2.1 (hZ s C.st) hS (C.own hown) (C.w (tg hlk rfl)) (fun _ z => z) hd (kk p e s m args below meth c C H locs cells slots ls hR hS hl h1 h2)
/-- a field of a constant object -/
theorem x_getO {o n d own : String} {index q : Nat} {v : Value} (hZ : ∀ s : State, Sta G s → va_OF o n d v q G.2.2.1 s s.heap) (hown : M.1.cls = own) (hlk : Cond.fieldLink own index o n d ∈ lw_tbl) (hd : decode M.2.1 pc = .ok (.getfield index, 3)) (kk : XX l G M rm K mc ms (pc + 3) L (v :: st) h) : XX l G M rm K mc ms pc L (.ref q :: st) h :=
  fun p e s m args below meth c C H locs cells slots ls hR hS hl h1 h2 => vk_getf C.1 C.2.1 (hZ s C.st) hS (C.own hown) (C.w (tg hlk rfl)) (fun _ z => z) hd (kk p e s m args below meth c C H locs cells slots ls hR hS hl h1 h2)
/-- a place of a static table of objects -/
theorem x_tald {E : String} {t N : Nat} {f : Nat → Value} {i : Int32} (hT : ∀ s : State, Sta G s → va_T (.object E) t N f G.2.2.1 s s.heap) (hin : vp_in i N) (hd : decode M.2.1 pc = .ok (.aaload, 1)) (kk : XX l G M rm K mc ms (pc + 1) L (f i.toNatClampNeg :: st) h) : XX l G M rm K mc ms pc L (.int i :: .ref t :: st) h := by
  intro p e s m args below meth c C H locs cells slots ls hR hS hl h1 h2
  obtain ⟨cell, g1, g2, g3, g4, g5, g6, g7⟩ := (hT s C.st).kept hS.2.1
  have hlt : i.toNatClampNeg < N := Nat.not_le.mp fun q => hin (Or.inr q)
  exact W.aald C.1 C.2.1 g1 g2 rfl g3 (fun q => hin (q.imp id (fun z => Nat.le_trans g4 z))) (g6 _ hlt) rfl rfl hd (kk p e s m args below meth c C H locs cells slots ls hR hS hl h1 h2)
theorem x_tlen {ty : FieldType} {t N : Nat} {f : Nat → Value} {v : Int32} (hT : ∀ s : State, Sta G s → va_T ty t N f G.2.2.1 s s.heap) (hv : Int32.ofNat N = v) (hd : decode M.2.1 pc = .ok (.arraylength, 1)) (kk : XX l G M rm K mc ms (pc + 1) L (.int v :: st) h) : XX l G M rm K mc ms pc L (.ref t :: st) h := by
  intro p e s m args below meth c C H locs cells slots ls hR hS hl h1 h2
  obtain ⟨cell, g1, g2, g3, g4, g5, g6, g7⟩ := (hT s C.st).kept hS.2.1
  exact W.alen C.1 C.2.1 g1 g2 (g5.trans hv) rfl rfl hd (kk p e s m args below meth c C H locs cells slots ls hR hS hl h1 h2)
/-- a call's answer -/
theorem x_run {p : Program} {e : Env} {R : Room} {s : State} {m : MethodId} {args a : Array Value} {below : List Frame} {meth : Method} {c : Code} {H : Heap} {locs : List Loc} {cells slots mc' ms' : Nat} {Qs : State → Prop} {ls : Array Slot} {st0 rest : List Value} {Q' : Option Value → Hp → Prop}
    (hr : va_Run p l e R s m args below meth c H locs cells slots mc' ms' (F0 m pc ls st0) rest (QC G Q' a) G.2.2.1) (hS : va_S G.2.2.1 s.heap H locs)
    (kk : ∀ (v : Option Value) (h' : Hp) (H1 : Heap) (locs1 : List Loc), Q' v h' → Rep G h' H1 → va_S G.2.2.1 s.heap H1 locs1 → W p l e R s m args below meth c H1 locs1 (cells + mc') (slots + ms') Qs (F0 m (pc + 3) ls (v.toList ++ rest))) : W p l e R s m args below meth c H locs cells slots Qs (F0 m pc ls st0) := by
  intro T hT X
  obtain ⟨v0, st₀, t, T', L, h0, X', hL, e1, e2, ⟨⟨v, h', hv, hq, hR⟩, hz, hk⟩, sts⟩ := hr T hT X
  obtain rfl : v0 = v := by cases hv; rfl
  rw [h0] at hz hk
  obtain ⟨t2, a1, b1⟩ := kk v0 h' T'.heap (locs ++ L) hq (by rw [e1]; exact hR)
    ⟨Nat.le_trans hS.1 (by rw [e1]; exact hz), fun q h1 h2 => by rw [e1, hk q (Nat.lt_of_lt_of_le h1 hS.1) h2]; exact hS.2.1 q h1 h2, fun q hq => by
      rcases List.mem_append.mp hq with h | h
      · exact hS.2.2 q h
      · exact hL q h⟩ T' rfl X'
  exact ⟨t2, sts t2 a1, b1⟩
theorem x_pc {p : Program} {s : State} {m : MethodId} {args : Array Value} {meth : Method} {c : Code} {H : Heap} {locs : List Loc} {As : List Value} (C : Cx l G M p s m args meth c) (hR : Rep G h H) (hS : va_S G.2.2.1 s.heap H locs) (U : State) (hU : U.heap = H) (hW : s.WarmedH U.vm) : PC G As h As.toArray U :=
  ⟨rfl, by rw [hU]; exact hR, Sta.warm hW (fun a h1 h2 => by rw [hU]; exact hS.2.1 a h1 h2) C.st, fun q hq => C.2.2.2.2.2.2.2.2.2 q (Nat.le_trans hS.1 (by rw [← hU]; exact hq))⟩
theorem x_callW {own : String} {M' : MM} {index n d' mc' ms' mc1 ms1 b : Nat} {As st0 : List Value} {Q' : Option Value → Hp → Prop} (hct : Ct l G M' d' mc' ms' (.ref b :: As) h Q') (cw : CWV own index n M') (hown : M.1.cls = own)
    (hrecv : ∀ (s : State) (H : Heap) (locs : List Loc), Sta G s → Rep G h H → va_S G.2.2.1 s.heap H locs → ∃ cell : Cell, H[b]? = some cell ∧ cell.vm.isStatics = false ∧ s.vm.findClass M'.1.cls = some cell.cls)
    (hn : As.length = n) (hR : d' + 1 ≤ rm.frames ∧ 8 + (M'.2.2.1 + 11) + 38 * d' ≤ rm.locals) (hW : (st.map fun v => v.category).sum ≤ 8) (hd : decode M.2.1 pc = .ok (.invokevirtual index, 3)) (hst : st0 = As.reverse ++ .ref b :: st) (hb : mc' + mc1 ≤ mc ∧ ms' + ms1 ≤ ms)
    (kk : ∀ (v : Option Value) (h' : Hp), Q' v h' → XX l G M rm K mc1 ms1 (pc + 3) L (v.toList ++ st) h') : XX l G M rm K mc ms pc L st0 h := by
  intro p e s m args below meth c C H locs cells slots ls hRp hS hl h1 h2
  subst hst
  obtain ⟨w1, w2, w3, w4, w5, w6⟩ := cw
  have hT : GoodIn Tg (wsV own index M'.1.cls M'.1 (wsOf M')) := gi (by
    intro w hw
    unfold wsV wsOf at hw
    simp only [List.mem_append, List.mem_cons, List.not_mem_nil, or_false] at hw
    rcases hw with (rfl | rfl | rfl | rfl) | (rfl | hw)
    · exact tg w1 rfl
    · exact tg w2 rfl
    · exact tg w3 rfl
    · exact tg w4 rfl
    · exact tg w5 rfl
    · exact hw)
  refine x_run (va_runV (As := As) (rest := st) ⟨C.1, C.2.1, C.2.2.2.1, C.own hown, fun w hw => C.w hw⟩ hct (cwV n (fun w hw => C.w hw) hT rfl rfl rfl ⟨rfl, w6⟩ hR) ⟨PC.blind, hrecv s H locs C.st hRp hS, fun U hU hW => x_pc C hRp hS U hU hW⟩ rfl hn hl.1 rfl (lv_room hW) hd ⟨by omega, by omega⟩) hS ?_
  intro v h' H1 locs1 hq hR1 hS1
  exact kk v h' hq p e s m args below meth c C H1 locs1 (cells + mc') (slots + ms') ls hR1 hS1 hl (by omega) (by omega)
theorem x_recv {own : String} {T : u_T} {N ci b : Nat} {fs : List Value} (he : h b = some (.inr (ci, fs))) (hc : vwCl[ci]? = some (own, T, N)) : ∀ (s : State) (H : Heap) (locs : List Loc), Sta G s → Rep G h H → va_S G.2.2.1 s.heap H locs → ∃ cell : Cell, H[b]? = some cell ∧ cell.vm.isStatics = false ∧ s.vm.findClass own = some cell.cls :=
  fun _ _ _ hSt hR _ => va_recv hSt.1 (hR.one he) hc (q0 := 0) rfl
theorem x_recvO {own : String} {b : Nat} (hO : ∀ s : State, Sta G s → va_O own b G.2.2.1 s s.heap) : ∀ (s : State) (H : Heap) (locs : List Loc), Sta G s → Rep G h H → va_S G.2.2.1 s.heap H locs → ∃ cell : Cell, H[b]? = some cell ∧ cell.vm.isStatics = false ∧ s.vm.findClass own = some cell.cls := by
  intro s H locs hSt hR hS
  obtain ⟨cell, h1, h2, h3, -⟩ := (hO s hSt).kept hS.2.1
  exact ⟨cell, h1, h2, h3⟩
theorem x_callS {own : String} {M' : MM} {index n d' mc' ms' mc1 ms1 : Nat} {As st0 : List Value} {Q' : Option Value → Hp → Prop} (hct : Ct l G M' d' mc' ms' As h Q') (cw : CWS own index n M') (hown : M.1.cls = own)
    (hn : As.length = n) (hR : d' + 1 ≤ rm.frames ∧ 8 + (M'.2.2.1 + 11) + 38 * d' ≤ rm.locals) (hW : (st.map fun v => v.category).sum ≤ 8) (hd : decode M.2.1 pc = .ok (.invokestatic index, 3)) (hst : st0 = As.reverse ++ st) (hb : mc' + mc1 ≤ mc ∧ ms' + ms1 ≤ ms)
    (kk : ∀ (v : Option Value) (h' : Hp), Q' v h' → XX l G M rm K mc1 ms1 (pc + 3) L (v.toList ++ st) h') : XX l G M rm K mc ms pc L st0 h := by
  intro p e s m args below meth c C H locs cells slots ls hRp hS hl h1 h2
  subst hst
  obtain ⟨w1, w2, w4, w5, w6⟩ := cw
  have hT : GoodIn Tg (va_wsS own index M'.1 (wsOf M')) := gi (by
    intro w hw
    unfold va_wsS wsOf at hw
    simp only [List.mem_append, List.mem_cons, List.not_mem_nil, or_false] at hw
    rcases hw with (rfl | rfl | rfl) | (rfl | hw)
    · exact tg w1 rfl
    · exact tg w2 rfl
    · exact tg w4 rfl
    · exact tg w5 rfl
    · exact hw)
  refine x_run (va_runS (As := As) (rest := st) ⟨C.1, C.2.1, C.2.2.2.1, C.own hown, fun w hw => C.w hw⟩ hct (va_cwS n (fun w hw => C.w hw) hT rfl rfl rfl w6 hR) ⟨PC.blind, fun U hU hW => x_pc C hRp hS U hU hW⟩ rfl hn hl.1 rfl (lv_room hW) hd ⟨by omega, by omega⟩) hS ?_
  intro v h' H1 locs1 hq hR1 hS1
  exact kk v h' hq p e s m args below meth c C H1 locs1 (cells + mc') (slots + ms') ls hR1 hS1 hl (by omega) (by omega)
theorem x_callSN {own host : String} {M' : MM} {index n d' mc' ms' mc1 ms1 : Nat} {As st0 : List Value} {Q' : Option Value → Hp → Prop} (hct : Ct l G M' d' mc' ms' As h Q') (cw : CWSN own index n host M') (hown : M.1.cls = own)
    (hn : As.length = n) (hR : d' + 1 ≤ rm.frames ∧ 8 + (M'.2.2.1 + 11) + 38 * d' ≤ rm.locals) (hW : (st.map fun v => v.category).sum ≤ 8) (hd : decode M.2.1 pc = .ok (.invokestatic index, 3)) (hst : st0 = As.reverse ++ st) (hb : mc' + mc1 ≤ mc ∧ ms' + ms1 ≤ ms)
    (kk : ∀ (v : Option Value) (h' : Hp), Q' v h' → XX l G M rm K mc1 ms1 (pc + 3) L (v.toList ++ st) h') : XX l G M rm K mc ms pc L st0 h := by
  intro p e s m args below meth c C H locs cells slots ls hRp hS hl h1 h2
  subst hst
  obtain ⟨w1, w2, w4, w5, w6⟩ := cw
  have hT : GoodIn Tg (wsOf M') := gi (by
    intro w hw
    unfold wsOf at hw
    rcases List.mem_cons.mp hw with rfl | hw
    · exact tg w5 rfl
    · exact hw)
  refine x_run (va_runSN (As := As) (rest := st) ⟨C.1, C.2.1, C.2.2.2.1, C.own hown, fun w hw => C.w hw⟩ hct ⟨va_cnB n (fun w hw => C.w hw) hT rfl rfl rfl (C.st.2.1 _ _ _ _ w1) (C.w (tg w4 rfl)) w6 hR, C.w (tg w2 rfl), trivial⟩ ⟨PC.blind, fun U hU hW => x_pc C hRp hS U hU hW⟩ rfl hn hl.1 rfl (lv_room hW) hd ⟨by omega, by omega⟩) hS ?_
  intro v h' H1 locs1 hq hR1 hS1
  exact kk v h' hq p e s m args below meth c C H1 locs1 (cells + mc') (slots + ms') ls hR1 hS1 hl (by omega) (by omega)
theorem x_callI {own : String} {M' : MM} {index n d' mc' ms' mc1 ms1 b : Nat} {As st0 : List Value} {Q' : Option Value → Hp → Prop} (hct : Ct l G M' d' mc' ms' (.ref b :: As) h Q') (cw : CWI own index n M') (hown : M.1.cls = own)
    (hn : As.length = n) (hR : d' + 1 ≤ rm.frames ∧ 8 + (M'.2.2.1 + 11) + 38 * d' ≤ rm.locals) (hW : (st.map fun v => v.category).sum ≤ 8) (hd : decode M.2.1 pc = .ok (.invokespecial index, 3)) (hst : st0 = As.reverse ++ .ref b :: st) (hb : mc' + mc1 ≤ mc ∧ ms' + ms1 ≤ ms)
    (kk : ∀ (v : Option Value) (h' : Hp), Q' v h' → XX l G M rm K mc1 ms1 (pc + 3) L (v.toList ++ st) h') : XX l G M rm K mc ms pc L st0 h := by
  intro p e s m args below meth c C H locs cells slots ls hRp hS hl h1 h2
  subst hst
  obtain ⟨y, cc, nL, rt⟩ := M'
  obtain ⟨w1, w2, w4, w5, w7, w8, w6⟩ := cw
  dsimp only at w1 w2 w4 w5 w7 w8 w6
  subst w8
  have hT : GoodIn Tg (wsOf (y, cc, nL, none)) := gi (by
    intro w hw
    unfold wsOf at hw
    rcases List.mem_cons.mp hw with rfl | hw
    · exact tg w5 rfl
    · exact hw)
  refine x_run (va_runI (As := As) (rest := st) ⟨C.1, C.2.1, C.2.2.2.1, C.own hown, fun w hw => C.w hw⟩ hct (cwI n (fun w hw => C.w hw) hT rfl rfl rfl (C.w (tg w4 rfl)) (C.w (tg w1 rfl)) (C.w (tg w2 rfl)) w7 w6 hR) ⟨PC.blind, fun U hU hW => x_pc C hRp hS U hU hW⟩ rfl hn hl.1 rfl (lv_room hW) hd ⟨by omega, by omega⟩) hS ?_
  intro v h' H1 locs1 hq hR1 hS1
  exact kk v h' hq p e s m args below meth c C H1 locs1 (cells + mc') (slots + ms') ls hR1 hS1 hl (by omega) (by omega)
theorem x_callIN {own host : String} {M' : MM} {index n d' mc' ms' mc1 ms1 b : Nat} {As st0 : List Value} {Q' : Option Value → Hp → Prop} (hct : Ct l G M' d' mc' ms' (.ref b :: As) h Q') (cw : CWN own index n host M') (hown : M.1.cls = own)
    (hn : As.length = n) (hR : d' + 1 ≤ rm.frames ∧ 8 + (M'.2.2.1 + 11) + 38 * d' ≤ rm.locals) (hW : (st.map fun v => v.category).sum ≤ 8) (hd : decode M.2.1 pc = .ok (.invokespecial index, 3)) (hst : st0 = As.reverse ++ .ref b :: st) (hb : mc' + mc1 ≤ mc ∧ ms' + ms1 ≤ ms)
    (kk : ∀ (v : Option Value) (h' : Hp), Q' v h' → XX l G M rm K mc1 ms1 (pc + 3) L (v.toList ++ st) h') : XX l G M rm K mc ms pc L st0 h := by
  intro p e s m args below meth c C H locs cells slots ls hRp hS hl h1 h2
  subst hst
  obtain ⟨y, cc, nL, rt⟩ := M'
  obtain ⟨w1, w2, w4, w5, w7, w8, w6⟩ := cw
  dsimp only at w1 w2 w4 w5 w7 w8 w6
  subst w8
  have hT : GoodIn Tg (wsOf (y, cc, nL, none)) := gi (by
    intro w hw
    unfold wsOf at hw
    rcases List.mem_cons.mp hw with rfl | hw
    · exact tg w5 rfl
    · exact hw)
  refine x_run (va_runIN (As := As) (rest := st) ⟨C.1, C.2.1, C.2.2.2.1, C.own hown, fun w hw => C.w hw⟩ hct ⟨va_cnB n (fun w hw => C.w hw) hT rfl rfl rfl (C.st.2.1 _ _ _ _ w1) (C.w (tg w4 rfl)) w6 hR, w7, C.w (tg w2 rfl)⟩ ⟨PC.blind, fun U hU hW => x_pc C hRp hS U hU hW⟩ rfl hn hl.1 rfl (lv_room hW) hd ⟨by omega, by omega⟩) hS ?_
  intro v h' H1 locs1 hq hR1 hS1
  exact kk v h' hq p e s m args below meth c C H1 locs1 (cells + mc') (slots + ms') ls hR1 hS1 hl (by omega) (by omega)
/-- Object() -/
theorem x_objInit {own : String} {idx b : Nat} (hown : M.1.cls = own) (w1 : Cond.methodLink own idx Lib.objectInit ∈ lw_tbl) (w2 : Cond.instanceMethod Lib.objectInit ∈ lw_tbl) (w3 : Cond.code Lib.objectInit ⟨#[0xb1]⟩ 1 none ∈ lw_tbl) (hd : decode M.2.1 pc = .ok (.invokespecial idx, 3)) (hf : 1 ≤ rm.frames) (hW : (st.map fun v => v.category).sum + 12 ≤ rm.locals) (kk : XX l G M rm K mc ms (pc + 3) L st h) : XX l G M rm K mc ms pc L (.ref b :: st) h :=
  fun p e s m args below meth c C H locs cells slots ls hR hS hl h1 h2 => W.objInit C.1 C.2.1 (C.own hown) (C.w (tg w1 rfl)) (C.w (tg w2 rfl)) (C.w (tg w3 rfl)) rfl (by rw [C.2.2.2.1]; exact hl.1) rfl hd hf (by show 2 * 0 + _ + 12 ≤ _; omega) (kk p e s m args below meth c C H locs cells slots ls hR hS hl h1 h2)
theorem x_mmax {own : String} {index : Nat} {x y : Int32} (hown : M.1.cls = own) (w1 : Cond.methodLink own index Lib.Math.max.name ∈ lw_tbl) (w2 : Cond.static Lib.Math.max.name ∈ lw_tbl) (w3 : Cond.initialized "java/lang/Math" ∈ lw_tbl) (w4 : Cond.code Lib.Math.max.name Lib.Math.max.code 2 (some .int) ∈ lw_tbl) (hf : 1 ≤ rm.frames) (hW : (st.map fun v => v.category).sum + 13 ≤ rm.locals) (hd : decode M.2.1 pc = .ok (.invokestatic index, 3)) (kk : XX l G M rm K mc ms (pc + 3) L (.int (if x < y then y else x) :: st) h) : XX l G M rm K mc ms pc L (.int y :: .int x :: st) h :=
  fun p e s m args below meth c C H locs cells slots ls hR hS hl h1 h2 => va_mmax C.1 C.2.1 (by rw [C.2.2.2.1]; exact hl.1.symm) (C.own hown) (C.w (tg w1 rfl)) (C.w (tg w2 rfl)) (C.w (tg w3 rfl)) (C.w (tg w4 rfl)) hf hW (by omega) (by omega) hd (kk p e s m args below meth c C H locs cells slots ls hR hS hl h1 h2)
theorem x_mmin {own : String} {index : Nat} {x y : Int32} (hown : M.1.cls = own) (w1 : Cond.methodLink own index Lib.Math.min.name ∈ lw_tbl) (w2 : Cond.static Lib.Math.min.name ∈ lw_tbl) (w3 : Cond.initialized "java/lang/Math" ∈ lw_tbl) (w4 : Cond.code Lib.Math.min.name Lib.Math.min.code 2 (some .int) ∈ lw_tbl) (hf : 1 ≤ rm.frames) (hW : (st.map fun v => v.category).sum + 13 ≤ rm.locals) (hd : decode M.2.1 pc = .ok (.invokestatic index, 3)) (kk : XX l G M rm K mc ms (pc + 3) L (.int (if y < x then y else x) :: st) h) : XX l G M rm K mc ms pc L (.int y :: .int x :: st) h :=
  fun p e s m args below meth c C H locs cells slots ls hR hS hl h1 h2 => va_mmin C.1 C.2.1 (by rw [C.2.2.2.1]; exact hl.1.symm) (C.own hown) (C.w (tg w1 rfl)) (C.w (tg w2 rfl)) (C.w (tg w3 rfl)) (C.w (tg w4 rfl)) hf hW (by omega) (by omega) hd (kk p e s m args below meth c C H locs cells slots ls hR hS hl h1 h2)
theorem x_mabs {own : String} {index : Nat} {x : Int32} (hown : M.1.cls = own) (w1 : Cond.methodLink own index Lib.Math.abs.name ∈ lw_tbl) (w2 : Cond.static Lib.Math.abs.name ∈ lw_tbl) (w3 : Cond.initialized "java/lang/Math" ∈ lw_tbl) (w4 : Cond.code Lib.Math.abs.name Lib.Math.abs.code 1 (some .int) ∈ lw_tbl) (hf : 1 ≤ rm.frames) (hW : (st.map fun v => v.category).sum + 13 ≤ rm.locals) (hd : decode M.2.1 pc = .ok (.invokestatic index, 3)) (kk : XX l G M rm K mc ms (pc + 3) L (.int (if 0 ≤ x then x else 0 - x) :: st) h) : XX l G M rm K mc ms pc L (.int x :: st) h :=
  fun p e s m args below meth c C H locs cells slots ls hR hS hl h1 h2 => va_mabs C.1 C.2.1 (by rw [C.2.2.2.1]; exact hl.1.symm) (C.own hown) (C.w (tg w1 rfl)) (C.w (tg w2 rfl)) (C.w (tg w3 rfl)) (C.w (tg w4 rfl)) hf hW (by omega) (by omega) hd (kk p e s m args below meth c C H locs cells slots ls hR hS hl h1 h2)
end CALC2
