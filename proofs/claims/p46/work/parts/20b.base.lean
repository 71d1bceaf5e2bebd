def K3 (x : Int32) : Prop := x = nI (kOf x) ∧ kOf x < 3
def PotI (N : Nat → Int32) (i : Nat) : Prop := K3 (N (60 + 8 * i)) ∧ (∃ g, N (61 + 8 * i) = nI g ∧ 1 ≤ g ∧ g ≤ 9) ∧ (∃ b, N (62 + 8 * i) = nI b ∧ b ≤ 200) ∧ (∃ t, N (63 + 8 * i) = nI t ∧ t ≤ 9) ∧ (∃ r, N (65 + 8 * i) = nI r ∧ r ≤ 6)
def OrdI (N : Nat → Int32) (j : Nat) : Prop := K3 (N (188 + 5 * j)) ∧ (∃ t, N (189 + 5 * j) = nI t ∧ 1 ≤ t ∧ t ≤ 9) ∧ (∃ p, N (190 + 5 * j) = nI p ∧ 1 ≤ p ∧ p ≤ 99)
/-- what a row of numbers holds, as far as the deeds ask -/
def RowA (N : Nat → Int32) (ns np no : Nat) : Prop := N 2 = nI ns ∧ N 3 = nI np ∧ N 4 = nI no ∧ ns ≤ 12 ∧ np ≤ 16 ∧ no ≤ 8 ∧ (∀ i, i < np → PotI N i) ∧ ∀ j, j < no → OrdI N j
theorem rg_of {x : Int32} {n : Nat} (hn : n < 2 ^ 31) (h : 0 ≤ x ∧ x < nI n) : ∃ i, i < n ∧ x = nI i := by
  obtain ⟨i, hi, rfl⟩ := nI_of (Int32.not_lt.mpr h.1)
  exact ⟨i, Nat.not_le.mp fun z => absurd h.2 (nI_nlt z hi), rfl⟩
def OutOk : Out → Prop
  | .inl c => c < 0
  | .inr (.inl (w, _, _, _)) => ¬ w = 0
  | .inr (.inr (v, _)) => 0 ≤ v
def zfN (N : Nat → Int32) (n : Nat) : Nat → Int32 := fun q => if q < n then 0 else N q
def clN (N : Nat → Int32) : Nat → Int32 := upd (upd (upd (zfN N 228) 0 30) 1 20) 11 20
theorem sm_s (f : Nat → Int32) (n : Nat) : sm f (n + 1) = sm f n + f n := rfl
def fwG (p : Nat → Bool) : Nat → Int32
  | 0 => -4
  | i + 1 => if fwG p i = -4 ∧ p i = true then nI i else fwG p i
theorem fwG_s (p : Nat → Bool) (i : Nat) : fwG p (i + 1) = if fwG p i = -4 ∧ p i = true then nI i else fwG p i := rfl
def snM (N : Nat → Int32) (i : Nat) : Int32 := ringK (kOf (N (60 + 8 * i))) (N (61 + 8 * i)) (N (62 + 8 * i)) (N (63 + 8 * i))
def alM (N : Nat → Int32) (a i : Nat) : Int32 := if soldK (N (66 + 8 * a)) = 0 ∧ soldK (N (66 + 8 * (a + 1 + i))) = 0 ∧ ¬ alK (snM N a) (snM N (a + 1 + i)) = 0 then 1 else 0
def rkM (N : Nat → Int32) (p q : Nat) : Int32 := if ¬ nI q = nI p ∧ soldK (N (66 + 8 * q)) = 0 ∧ (0 < snM N q - snM N p ∨ (snM N q - snM N p = 0 ∧ nI q < nI p)) then 1 else 0
def fdM (N : Nat → Int32) (np : Nat) (x : Int32) : Nat → Int32
  | 0 => -1
  | p + 1 => if soldK (N (66 + 8 * p)) = 0 ∧ sm (rkM N p) np = x then nI p else fdM N np x p
theorem fdM_s (N : Nat → Int32) (np : Nat) (x : Int32) (p : Nat) : fdM N np x (p + 1) = if soldK (N (66 + 8 * p)) = 0 ∧ sm (rkM N p) np = x then nI p else fdM N np x p := rfl
def nxM (N : Nat → Int32) (x : Int32) : Nat → Int32
  | 0 => -1
  | p + 1 => if (soldK (N (66 + 8 * p)) = 0 ∧ x < snM N p) ∧ (nxM N x p = -1 ∨ snM N p < nxM N x p) then snM N p else nxM N x p
theorem nxM_s (N : Nat → Int32) (x : Int32) (p : Nat) : nxM N x (p + 1) = if (soldK (N (66 + 8 * p)) = 0 ∧ x < snM N p) ∧ (nxM N x p = -1 ∨ snM N p < nxM N x p) then snM N p else nxM N x p := rfl
def nrM (N : Nat → Int32) (x : Int32) : Nat → Int32
  | 0 => -4
  | p + 1 => if soldK (N (66 + 8 * p)) = 0 ∧ (nrM N x p = -4 ∨ ab (snM N p - x) < ab (snM N (kOf (nrM N x p)) - x)) then nI p else nrM N x p
theorem nrM_s (N : Nat → Int32) (x : Int32) (p : Nat) : nrM N x (p + 1) = if soldK (N (66 + 8 * p)) = 0 ∧ (nrM N x p = -4 ∨ ab (snM N p - x) < ab (snM N (kOf (nrM N x p)) - x)) then nI p else nrM N x p := rfl
def cM (N : Nat → Int32) (np : Nat) : Nat → Int32
  | 0 => nxM N (-1) np
  | i + 1 => nxM N (cM N np i) np
def fwW (N : Nat → Int32) (t : Int32) (j : Nat) : Nat → Int32
  | 0 => -1
  | i + 1 => if fwW N t j i = -1 ∧ (t >>> (nI i &&& 31)) &&& 1 = 0 ∧ ¬ goodN N i j = 0 then nI i else fwW N t j i
theorem fwW_s (N : Nat → Int32) (t : Int32) (j i : Nat) : fwW N t j (i + 1) = if fwW N t j i = -1 ∧ (t >>> (nI i &&& 31)) &&& 1 = 0 ∧ ¬ goodN N i j = 0 then nI i else fwW N t j i := rfl
def fvW (N : Nat → Int32) (np : Nat) (t : Int32) (j : Nat) : Int32 := if N (191 + 5 * j) = -4 then fwW N t j np else -1
def wMt (N : Nat → Int32) (np : Nat) : Nat → Int32
  | 0 => 0
  | j + 1 => wMt N np j ||| (if fvW N np (wMt N np j) j = -1 then 0 else (1 : Int32) <<< (fvW N np (wMt N np j) j &&& 31))
def wMs (N : Nat → Int32) (np : Nat) : Nat → Int32
  | 0 => 0
  | j + 1 => wMs N np j + (if fvW N np (wMt N np j) j = -1 then 0 else payK (N (64 + 8 * kOf (fvW N np (wMt N np j) j))) (N (190 + 5 * j)))
theorem wMt_s (N : Nat → Int32) (np j : Nat) : wMt N np (j + 1) = wMt N np j ||| (if fvW N np (wMt N np j) j = -1 then 0 else (1 : Int32) <<< (fvW N np (wMt N np j) j &&& 31)) := rfl
theorem wMs_s (N : Nat → Int32) (np j : Nat) : wMs N np (j + 1) = wMs N np j + (if fvW N np (wMt N np j) j = -1 then 0 else payK (N (64 + 8 * kOf (fvW N np (wMt N np j) j))) (N (190 + 5 * j))) := rfl
/-- a command's deed -/
def pDo (N : Nat → Int32) (c : Nat × Int32 × Int32) : Out := if c.1 = 0 then pRaise N c.2.1 c.2.2 else if c.1 = 1 then pHit N c.2.1 c.2.2 else if c.1 = 2 then pTin N c.2.1 c.2.2 else if c.1 = 3 then pCook N c.2.1 c.2.2 else if c.1 = 4 then pSell N c.2.1 c.2.2 else pBars N c.2.1
theorem zCS {G : Gl} : ∀ s : State, Sta G s → va_Z "java/lang/String" "COMPACT_STRINGS" "Z" (.int 1) G.2.2.1 s s.heap := fun s hS => hS.2.2.2.2.2.2.1
