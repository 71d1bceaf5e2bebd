theorem snew {s s' : State} {L : List Loc} {k n : Nat} (h : s.sameButNew s' L k n) (hL : ∀ q ∈ L, s.heap.size ≤ q.base) : s.sameButNew s' [] k n := by
  obtain ⟨e1, e2, e3, e4, e5, e6⟩ := h
  refine ⟨e1, e2, e3, e4, e5, fun a c hc => ?_⟩
  obtain ⟨c', g1, g2, g3, g4⟩ := e6 a c hc
  have ha : a < s.heap.size := (Array.getElem?_eq_some_iff.mp hc).1
  refine ⟨c', g1, g2, g3, fun i _ => g4 i (fun z => ?_)⟩
  exact absurd ha (Nat.not_lt.mpr (hL _ z))
/-- from the entry, for every script of at most 260 ints, the law comes to its end with true -/
theorem whole_start {p : Program} {e : Env} {s : State} {m : MethodId} {below : List Frame} {meth : Method} {c : Code} (l : Launch) (hflags : l.flags = flags0) {b L : Nat} {xs : Nat → Int32} (hL : L ≤ 260) (C0 : lw_At p s m meth c b L xs) : W p l e room_1 s m #[Value.ref b] below meth c s.heap [] 0 0 (lw_Z below #[Value.ref b] s) (entryFrame m ([Value.ref b] : List Value).toArray 4) := by
  obtain ⟨hx, hcode, hret, hml, hfc, hts, hX, hbl, hlk, hgv⟩ := C0
  have hnar : narrow_1.before #[Value.ref b] s = true := by
    rw [Cond.before_and, Bool.and_eq_true] at hgv
    exact hgv.2
  obtain ⟨G, hA, hSta, k3, k6, rfl⟩ := sta0 hts hnar hX hbl (by omega)
  have hA1 : ∀ q : Nat, s.heap.size ≤ q → G.2.2.1 q := fun q hq => by rw [hA]; exact hq
  have K := law_start (l := l) (G := G) (nm := meth.name) (h := fun _ => none) ⟨s.heap.size, hA1⟩ k3 k6
  have hl := lv_entry ([Value.ref (G.2.2.2 60)]) (n := 4) (Nat.le_of_ble_eq_true rfl)
  rw [lg_entry_eq]
  have K2 := K p e s m #[Value.ref (G.2.2.2 60)] below meth c ⟨hx, hcode, hret, hml, hfc, fun w hw => hts w (List.mem_filter.mp hw).1, hlk, rfl, hSta, hA1⟩ s.heap [] 0 0 _ (fun a e he => by cases he) va_S.rf hl (Nat.le_of_ble_eq_true rfl) (Nat.le_of_ble_eq_true rfl)
  intro T hT X
  obtain ⟨t, st, o, h1, h2, ⟨⟨v, h', e1, e2, -⟩, -⟩, LL, ⟨f1, f2, f3⟩, f4⟩ := K2 T hT X
  have e3 : o = .returned (some (.int 1)) := by rw [e1, show v = some (.int 1) from e2]
  refine ⟨t, st, o, h1, h2, e3, ?_⟩
  have f5 := snew f3 (fun q hq => by
    have := f4 q hq
    rw [hA] at this
    exact this)
  exact lw_closed (d0 := s.drawn) (Drawn.sameBut.refl s.drawn lw_cs) ⟨_, e3⟩ f2 f5
