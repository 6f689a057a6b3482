/-! the law's world -/
abbrev wPn (cI cZ : ClassId) (a : Nat → Nat) (n : Nat) (P : cP) : va_W := wP cI cZ (a (11 + 7 * n)) (a (12 + 7 * n)) (a (13 + 7 * n)) (a (14 + 7 * n)) (a (15 + 7 * n)) (a (16 + 7 * n)) (a (17 + 7 * n)) P
abbrev wLa (cI cZ : ClassId) (a : Nat → Nat) (L : cL) : va_W := wL cI cZ (a 1) (a 2) (a 3) (a 4) (a 5) (a 6) (a 7) (a 8) (a 9) L
abbrev wBa (cI cZ cQ : ClassId) (a : Nat → Nat) (q : Nat → Option Nat) : va_W := wB cI cZ cQ (a 0) (a 10) (a 1) q
abbrev wMa (cI cZ : ClassId) (a : Nat → Nat) (M : cM) : va_W := wM cI cZ (a 39) (a 40) (a 41) (a 42) (a 43) (a 44) (a 45) (a 46) (a 47) (a 48) (a 49) (a 50) (a 51) (a 52) (a 53) (a 54) (a 55) (a 56) (a 57) (a 58) (a 59) M
abbrev wLw (cI cZ cQ : ClassId) (a : Nat → Nat) (q : Nat → Option Nat) (L : cL) (F : Nat → cP) (M : cM) : va_W := [(a 0, .inr (3, [.ref (a 1), .ref (a 10)]))] ++ wLa cI cZ a L ++ [(a 10, .inl (cQ, 4, .inr (.inr (.inr (.inr q)))))] ++ wPn cI cZ a 0 (F 0) ++ wPn cI cZ a 1 (F 1) ++ wPn cI cZ a 2 (F 2) ++ wPn cI cZ a 3 (F 3) ++ wMa cI cZ a M
def lr_0 : List Nat := [0, 10, 1, 2, 3, 4, 5, 6, 7, 8, 9]
def lr_i (n : Nat) : List Nat := [0, 10, 1, 2, 3, 4, 5, 6, 7, 8, 9] ++ List.range' (11 + 7 * n) 7
def lr_j (n o : Nat) : List Nat := [0, 10, 1, 2, 3, 4, 5, 6, 7, 8, 9] ++ List.range' (11 + 7 * n) 7 ++ List.range' (11 + 7 * o) 7
def lr_m : List Nat := List.range' 39 21
theorem lr_n1 : ∀ n : Nat, n < 4 → va_nd (lr_i n) = true
  | 0, _ => rfl
  | 1, _ => rfl
  | 2, _ => rfl
  | 3, _ => rfl
  | n + 4, h => absurd h (by omega)
theorem lr_C0 (cI cZ cQ : ClassId) (a : Nat → Nat) (q : Nat → Option Nat) (L : cL) (F : Nat → cP) (M : cM) : lr_0.map (fun i => (wLw cI cZ cQ a q L F M)[i]?) = (wBa cI cZ cQ a q ++ wLa cI cZ a L).map some := rfl
theorem lr_U0 (cI cZ cQ : ClassId) (a : Nat → Nat) (q : Nat → Option Nat) (L : cL) (F : Nat → cP) (M : cM) : vz_put (wLw cI cZ cQ a q L F M) lr_0 (wBa cI cZ cQ a q ++ wLa cI cZ a L) = wLw cI cZ cQ a q L F M := rfl
theorem lr_C1 (cI cZ cQ : ClassId) (a : Nat → Nat) (q : Nat → Option Nat) (L : cL) (F : Nat → cP) (M : cM) : ∀ n : Nat, n < 4 → (lr_i n).map (fun i => (wLw cI cZ cQ a q L F M)[i]?) = (wBa cI cZ cQ a q ++ wLa cI cZ a L ++ wPn cI cZ a n (F n)).map some
  | 0, _ => rfl
  | 1, _ => rfl
  | 2, _ => rfl
  | 3, _ => rfl
  | n + 4, h => absurd h (by omega)
theorem lr_U1 (cI cZ cQ : ClassId) (a : Nat → Nat) (q : Nat → Option Nat) (L : cL) (F : Nat → cP) (M : cM) (L' : cL) (P' : cP) : ∀ n : Nat, n < 4 → vz_put (wLw cI cZ cQ a q L F M) (lr_i n) (wBa cI cZ cQ a q ++ wLa cI cZ a L' ++ wPn cI cZ a n P') = wLw cI cZ cQ a q L' (fU F n P') M
  | 0, _ => rfl
  | 1, _ => rfl
  | 2, _ => rfl
  | 3, _ => rfl
  | n + 4, h => absurd h (by omega)
theorem lr_n2 (n o : Nat) (hn : n < 4) (ho : o < 4) (hno : n ≠ o) : va_nd (lr_j n o) = true := by
  rcases (show n = 0 ∨ n = 1 ∨ n = 2 ∨ n = 3 by omega) with rfl | rfl | rfl | rfl <;> rcases (show o = 0 ∨ o = 1 ∨ o = 2 ∨ o = 3 by omega) with rfl | rfl | rfl | rfl <;> first | exact absurd rfl hno | rfl
theorem lr_C2 (cI cZ cQ : ClassId) (a : Nat → Nat) (q : Nat → Option Nat) (L : cL) (F : Nat → cP) (M : cM) (n o : Nat) (hn : n < 4) (ho : o < 4) : (lr_j n o).map (fun i => (wLw cI cZ cQ a q L F M)[i]?) = (wBa cI cZ cQ a q ++ wLa cI cZ a L ++ wPn cI cZ a n (F n) ++ wPn cI cZ a o (F o)).map some := by
  rcases (show n = 0 ∨ n = 1 ∨ n = 2 ∨ n = 3 by omega) with rfl | rfl | rfl | rfl <;> rcases (show o = 0 ∨ o = 1 ∨ o = 2 ∨ o = 3 by omega) with rfl | rfl | rfl | rfl <;> rfl
theorem lr_U2 (cI cZ cQ : ClassId) (a : Nat → Nat) (q : Nat → Option Nat) (L : cL) (F : Nat → cP) (M : cM) (P' : cP) (n o : Nat) (hn : n < 4) (ho : o < 4) (hno : n ≠ o) : vz_put (wLw cI cZ cQ a q L F M) (lr_j n o) (wBa cI cZ cQ a q ++ wLa cI cZ a L ++ wPn cI cZ a n P' ++ wPn cI cZ a o (F o)) = wLw cI cZ cQ a q L (fU F n P') M := by
  rcases (show n = 0 ∨ n = 1 ∨ n = 2 ∨ n = 3 by omega) with rfl | rfl | rfl | rfl <;> rcases (show o = 0 ∨ o = 1 ∨ o = 2 ∨ o = 3 by omega) with rfl | rfl | rfl | rfl <;> first | exact absurd rfl hno | rfl
theorem lr_CM (cI cZ cQ : ClassId) (a : Nat → Nat) (q : Nat → Option Nat) (L : cL) (F : Nat → cP) (M : cM) : lr_m.map (fun i => (wLw cI cZ cQ a q L F M)[i]?) = (wMa cI cZ a M).map some := rfl
theorem lr_UM (cI cZ cQ : ClassId) (a : Nat → Nat) (q : Nat → Option Nat) (L : cL) (F : Nat → cP) (M M' : cM) : vz_put (wLw cI cZ cQ a q L F M) lr_m (wMa cI cZ a M') = wLw cI cZ cQ a q L F M' := rfl
theorem lr_in {i j Ln : Nat} (h : i + j < Ln) (hL : Ln ≤ 2560) : vp_in (pq i + pq j) Ln := by
  rw [pq_add]
  exact vp_in_iff.mpr ⟨by rw [pq_i (by omega)]; omega, by rw [pq_i (by omega)]; omega⟩
