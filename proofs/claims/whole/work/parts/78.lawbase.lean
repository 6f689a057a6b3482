/-! the law's world -/
abbrev wPn (cI cZ : ClassId) (a : Nat → Nat) (n : Nat) (P : cP) : va_W := wP cI cZ (a (11 + 7 * n)) (a (12 + 7 * n)) (a (13 + 7 * n)) (a (14 + 7 * n)) (a (15 + 7 * n)) (a (16 + 7 * n)) (a (17 + 7 * n)) P
abbrev wLa (cI cZ : ClassId) (a : Nat → Nat) (L : cL) : va_W := wL cI cZ (a 1) (a 2) (a 3) (a 4) (a 5) (a 6) (a 7) (a 8) (a 9) L
abbrev wBa (cI cZ cQ : ClassId) (a : Nat → Nat) (q : Nat → Option Nat) : va_W := wB cI cZ cQ (a 0) (a 10) (a 1) q
abbrev wMa (cI cZ : ClassId) (a : Nat → Nat) (M : cM) : va_W := wM cI cZ (a 39) (a 40) (a 41) (a 42) (a 43) (a 44) (a 45) (a 46) (a 47) (a 48) (a 49) (a 50) (a 51) (a 52) (a 53) (a 54) (a 55) (a 56) (a 57) (a 58) (a 59) M
abbrev wLw (cI cZ cQ : ClassId) (a : Nat → Nat) (q : Nat → Option Nat) (L : cL) (F : Nat → cP) (M : cM) : va_W := [(a 0, .inr (3, [.ref (a 1), .ref (a 10)]))] ++ (wLa cI cZ a L ++ ([(a 10, .inl (cQ, 4, .inr (.inr (.inr (.inr q)))))] ++ (wPn cI cZ a 0 (F 0) ++ (wPn cI cZ a 1 (F 1) ++ (wPn cI cZ a 2 (F 2) ++ (wPn cI cZ a 3 (F 3) ++ wMa cI cZ a M))))))
def lr_0 : List Nat := [0, 10, 1, 2, 3, 4, 5, 6, 7, 8, 9]
def lr_i (n : Nat) : List Nat := [0, 10, 1, 2, 3, 4, 5, 6, 7, 8, 9] ++ List.range' (11 + 7 * n) 7
def lr_j (n o : Nat) : List Nat := [0, 10, 1, 2, 3, 4, 5, 6, 7, 8, 9] ++ List.range' (11 + 7 * n) 7 ++ List.range' (11 + 7 * o) 7
def lr_m : List Nat := List.range' 39 21
theorem lr_n1 : ∀ n : Nat, n < 4 → va_nd (lr_i n) = true
  | 0, _ => rfl
  | 1, _ => rfl
  | 2, _ => rfl
  | 3, _ => rfl
  | n + 4, h => absurd h (by omega)
theorem lr_C0 (cI cZ cQ : ClassId) (a : Nat → Nat) (q : Nat → Option Nat) (L : cL) (F : Nat → cP) (M : cM) : lr_0.map (fun i => (wLw cI cZ cQ a q L F M)[i]?) = (wBa cI cZ cQ a q ++ wLa cI cZ a L).map some := rfl
theorem lr_C1 (cI cZ cQ : ClassId) (a : Nat → Nat) (q : Nat → Option Nat) (L : cL) (F : Nat → cP) (M : cM) : ∀ n : Nat, n < 4 → (lr_i n).map (fun i => (wLw cI cZ cQ a q L F M)[i]?) = (wBa cI cZ cQ a q ++ wLa cI cZ a L ++ wPn cI cZ a n (F n)).map some
  | 0, _ => rfl
  | 1, _ => rfl
  | 2, _ => rfl
  | 3, _ => rfl
  | n + 4, h => absurd h (by omega)
theorem lr_n2 (n o : Nat) (hn : n < 4) (ho : o < 4) (hno : n ≠ o) : va_nd (lr_j n o) = true := by
  rcases (show n = 0 ∨ n = 1 ∨ n = 2 ∨ n = 3 by omega) with rfl | rfl | rfl | rfl <;> rcases (show o = 0 ∨ o = 1 ∨ o = 2 ∨ o = 3 by omega) with rfl | rfl | rfl | rfl <;> first | exact absurd rfl hno | rfl
theorem lr_C2 (cI cZ cQ : ClassId) (a : Nat → Nat) (q : Nat → Option Nat) (L : cL) (F : Nat → cP) (M : cM) (n o : Nat) (hn : n < 4) (ho : o < 4) : (lr_j n o).map (fun i => (wLw cI cZ cQ a q L F M)[i]?) = (wBa cI cZ cQ a q ++ wLa cI cZ a L ++ wPn cI cZ a n (F n) ++ wPn cI cZ a o (F o)).map some := by
  rcases (show n = 0 ∨ n = 1 ∨ n = 2 ∨ n = 3 by omega) with rfl | rfl | rfl | rfl <;> rcases (show o = 0 ∨ o = 1 ∨ o = 2 ∨ o = 3 by omega) with rfl | rfl | rfl | rfl <;> rfl
theorem lr_CM (cI cZ cQ : ClassId) (a : Nat → Nat) (q : Nat → Option Nat) (L : cL) (F : Nat → cP) (M : cM) : lr_m.map (fun i => (wLw cI cZ cQ a q L F M)[i]?) = (wMa cI cZ a M).map some := rfl
theorem vz_put_app : ∀ (is1 : List Nat) (v1 ws : va_W) (is2 : List Nat) (v2 : va_W), is1.length = v1.length → vz_put ws (is1 ++ is2) (v1 ++ v2) = vz_put (vz_put ws is1 v1) is2 v2
  | [], [], ws, is2, v2, _ => rfl
  | i :: is, c :: cs, ws, is2, v2, h => vz_put_app is cs (ws.set i c) is2 v2 (by simpa using h)
  | [], c :: cs, ws, is2, v2, h => by simp at h
  | i :: is, [], ws, is2, v2, h => by simp at h
theorem vz_put_mid : ∀ (mid w1 pre post : va_W), mid.length = w1.length → vz_put (pre ++ (mid ++ post)) (List.range' pre.length mid.length) w1 = pre ++ (w1 ++ post)
  | [], [], pre, post, _ => by simp [vz_put]
  | a :: as, b :: bs, pre, post, h => by
    have h' : as.length = bs.length := by simpa using h
    have e1 : List.range' pre.length (a :: as).length = pre.length :: List.range' (pre ++ [b]).length as.length := by
      simp [List.range'_succ]
    rw [e1]
    show vz_put ((pre ++ ((a :: as) ++ post)).set pre.length b) (List.range' (pre ++ [b]).length as.length) bs = _
    have e2 : (pre ++ ((a :: as) ++ post)).set pre.length b = (pre ++ [b]) ++ (as ++ post) := by simp
    rw [e2, vz_put_mid as bs (pre ++ [b]) post h']
    simp
  | [], b :: bs, pre, post, h => by simp at h
  | a :: as, [], pre, post, h => by simp at h
theorem lx_B (c0 c10 : Nat × va_E) (l l' r : va_W) (h1 : l.length = 9) (h2 : l'.length = 9) : vz_put ([c0] ++ (l ++ ([c10] ++ r))) lr_0 ([c0, c10] ++ l') = [c0] ++ (l' ++ ([c10] ++ r)) := by
  have e0 : lr_0 = [0, 10] ++ List.range' 1 9 := rfl
  rw [e0, vz_put_app _ _ _ _ _ rfl]
  have e1 : vz_put ([c0] ++ (l ++ ([c10] ++ r))) [0, 10] [c0, c10] = [c0] ++ (l ++ ([c10] ++ r)) := by
    show ((c0 :: (l ++ (c10 :: r))).set 0 c0).set 10 c10 = c0 :: (l ++ (c10 :: r))
    show c0 :: ((l ++ (c10 :: r)).set 9 c10) = c0 :: (l ++ (c10 :: r))
    rw [List.set_append_right _ _ (by omega), h1]; rfl
  rw [e1]
  have := vz_put_mid l l' [c0] ([c10] ++ r) (by omega)
  rw [h1] at this
  exact this
theorem lx_P (pre p p' post : va_W) (k : Nat) (h0 : pre.length = k) (h1 : p.length = 7) (h2 : p'.length = 7) : vz_put (pre ++ (p ++ post)) (List.range' k 7) p' = pre ++ (p' ++ post) := by
  have := vz_put_mid p p' pre post (by omega)
  rw [h0, h1] at this
  exact this
theorem lr_B (cI cZ cQ : ClassId) (a : Nat → Nat) (q : Nat → Option Nat) (L L' : cL) (F : Nat → cP) (M : cM) : vz_put (wLw cI cZ cQ a q L F M) lr_0 (wBa cI cZ cQ a q ++ wLa cI cZ a L') = wLw cI cZ cQ a q L' F M :=
  lx_B (a 0, .inr (3, [.ref (a 1), .ref (a 10)])) (a 10, .inl (cQ, 4, .inr (.inr (.inr (.inr q))))) (wLa cI cZ a L) (wLa cI cZ a L') (wPn cI cZ a 0 (F 0) ++ (wPn cI cZ a 1 (F 1) ++ (wPn cI cZ a 2 (F 2) ++ (wPn cI cZ a 3 (F 3) ++ wMa cI cZ a M)))) rfl rfl
theorem lx_4 (b l c p0 p1 p2 p3 m r : va_W) : b ++ (l ++ (c ++ (p0 ++ (p1 ++ (p2 ++ (p3 ++ m)))))) = (b ++ (l ++ c)) ++ (p0 ++ (p1 ++ (p2 ++ (p3 ++ m)))) ∧ b ++ (l ++ (c ++ (p0 ++ (p1 ++ (p2 ++ (p3 ++ m)))))) = (b ++ (l ++ (c ++ p0))) ++ (p1 ++ (p2 ++ (p3 ++ m))) ∧ b ++ (l ++ (c ++ (p0 ++ (p1 ++ (p2 ++ (p3 ++ m)))))) = (b ++ (l ++ (c ++ (p0 ++ p1)))) ++ (p2 ++ (p3 ++ m)) ∧ b ++ (l ++ (c ++ (p0 ++ (p1 ++ (p2 ++ (p3 ++ m)))))) = (b ++ (l ++ (c ++ (p0 ++ (p1 ++ p2))))) ++ (p3 ++ m) ∧ b ++ (l ++ (c ++ (p0 ++ (p1 ++ (p2 ++ (p3 ++ m)))))) = (b ++ (l ++ (c ++ (p0 ++ (p1 ++ (p2 ++ p3)))))) ++ m := by
  simp only [List.append_assoc, and_self]
theorem lx_P4 (b l c p0 p1 p2 p3 m p' : va_W) (hb : b.length = 1) (hl : l.length = 9) (hc : c.length = 1) (h0 : p0.length = 7) (h1 : p1.length = 7) (h2 : p2.length = 7) (h3 : p3.length = 7) (h' : p'.length = 7) :
    vz_put (b ++ (l ++ (c ++ (p0 ++ (p1 ++ (p2 ++ (p3 ++ m))))))) (List.range' 11 7) p' = b ++ (l ++ (c ++ (p' ++ (p1 ++ (p2 ++ (p3 ++ m)))))) ∧ vz_put (b ++ (l ++ (c ++ (p0 ++ (p1 ++ (p2 ++ (p3 ++ m))))))) (List.range' 18 7) p' = b ++ (l ++ (c ++ (p0 ++ (p' ++ (p2 ++ (p3 ++ m)))))) ∧ vz_put (b ++ (l ++ (c ++ (p0 ++ (p1 ++ (p2 ++ (p3 ++ m))))))) (List.range' 25 7) p' = b ++ (l ++ (c ++ (p0 ++ (p1 ++ (p' ++ (p3 ++ m)))))) ∧ vz_put (b ++ (l ++ (c ++ (p0 ++ (p1 ++ (p2 ++ (p3 ++ m))))))) (List.range' 32 7) p' = b ++ (l ++ (c ++ (p0 ++ (p1 ++ (p2 ++ (p' ++ m)))))) := by
  refine ⟨?_, ?_, ?_, ?_⟩
  · rw [(lx_4 b l c p0 p1 p2 p3 m []).1, lx_P _ _ _ _ 11 (by simp only [List.length_append]; omega) h0 h', (lx_4 b l c p' p1 p2 p3 m []).1]
  · rw [(lx_4 b l c p0 p1 p2 p3 m []).2.1, lx_P _ _ _ _ 18 (by simp only [List.length_append]; omega) h1 h', (lx_4 b l c p0 p' p2 p3 m []).2.1]
  · rw [(lx_4 b l c p0 p1 p2 p3 m []).2.2.1, lx_P _ _ _ _ 25 (by simp only [List.length_append]; omega) h2 h', (lx_4 b l c p0 p1 p' p3 m []).2.2.1]
  · rw [(lx_4 b l c p0 p1 p2 p3 m []).2.2.2.1, lx_P _ _ _ _ 32 (by simp only [List.length_append]; omega) h3 h', (lx_4 b l c p0 p1 p2 p' m []).2.2.2.1]
theorem lr_P (cI cZ cQ : ClassId) (a : Nat → Nat) (q : Nat → Option Nat) (L : cL) (F : Nat → cP) (M : cM) (P' : cP) : ∀ n : Nat, n < 4 → vz_put (wLw cI cZ cQ a q L F M) (List.range' (11 + 7 * n) 7) (wPn cI cZ a n P') = wLw cI cZ cQ a q L (fU F n P') M
  | 0, _ => (lx_P4 [(a 0, .inr (3, [.ref (a 1), .ref (a 10)]))] (wLa cI cZ a L) [(a 10, .inl (cQ, 4, .inr (.inr (.inr (.inr q)))))] (wPn cI cZ a 0 (F 0)) (wPn cI cZ a 1 (F 1)) (wPn cI cZ a 2 (F 2)) (wPn cI cZ a 3 (F 3)) (wMa cI cZ a M) (wPn cI cZ a 0 P') rfl rfl rfl rfl rfl rfl rfl rfl).1
  | 1, _ => (lx_P4 [(a 0, .inr (3, [.ref (a 1), .ref (a 10)]))] (wLa cI cZ a L) [(a 10, .inl (cQ, 4, .inr (.inr (.inr (.inr q)))))] (wPn cI cZ a 0 (F 0)) (wPn cI cZ a 1 (F 1)) (wPn cI cZ a 2 (F 2)) (wPn cI cZ a 3 (F 3)) (wMa cI cZ a M) (wPn cI cZ a 1 P') rfl rfl rfl rfl rfl rfl rfl rfl).2.1
  | 2, _ => (lx_P4 [(a 0, .inr (3, [.ref (a 1), .ref (a 10)]))] (wLa cI cZ a L) [(a 10, .inl (cQ, 4, .inr (.inr (.inr (.inr q)))))] (wPn cI cZ a 0 (F 0)) (wPn cI cZ a 1 (F 1)) (wPn cI cZ a 2 (F 2)) (wPn cI cZ a 3 (F 3)) (wMa cI cZ a M) (wPn cI cZ a 2 P') rfl rfl rfl rfl rfl rfl rfl rfl).2.2.1
  | 3, _ => (lx_P4 [(a 0, .inr (3, [.ref (a 1), .ref (a 10)]))] (wLa cI cZ a L) [(a 10, .inl (cQ, 4, .inr (.inr (.inr (.inr q)))))] (wPn cI cZ a 0 (F 0)) (wPn cI cZ a 1 (F 1)) (wPn cI cZ a 2 (F 2)) (wPn cI cZ a 3 (F 3)) (wMa cI cZ a M) (wPn cI cZ a 3 P') rfl rfl rfl rfl rfl rfl rfl rfl).2.2.2
  | n + 4, h => absurd h (by omega)
theorem lr_U0 (cI cZ cQ : ClassId) (a : Nat → Nat) (q : Nat → Option Nat) (L : cL) (F : Nat → cP) (M : cM) : vz_put (wLw cI cZ cQ a q L F M) lr_0 (wBa cI cZ cQ a q ++ wLa cI cZ a L) = wLw cI cZ cQ a q L F M := lr_B cI cZ cQ a q L L F M
theorem lr_U1 (cI cZ cQ : ClassId) (a : Nat → Nat) (q : Nat → Option Nat) (L : cL) (F : Nat → cP) (M : cM) (L' : cL) (P' : cP) (n : Nat) (hn : n < 4) : vz_put (wLw cI cZ cQ a q L F M) (lr_i n) (wBa cI cZ cQ a q ++ wLa cI cZ a L' ++ wPn cI cZ a n P') = wLw cI cZ cQ a q L' (fU F n P') M := by
  show vz_put _ (lr_0 ++ List.range' (11 + 7 * n) 7) _ = _
  rw [vz_put_app lr_0 (wBa cI cZ cQ a q ++ wLa cI cZ a L') _ _ _ rfl, lr_B]
  exact lr_P cI cZ cQ a q L' F M P' n hn
theorem lr_U2 (cI cZ cQ : ClassId) (a : Nat → Nat) (q : Nat → Option Nat) (L : cL) (F : Nat → cP) (M : cM) (P' : cP) (n o : Nat) (hn : n < 4) (ho : o < 4) (hno : n ≠ o) : vz_put (wLw cI cZ cQ a q L F M) (lr_j n o) (wBa cI cZ cQ a q ++ wLa cI cZ a L ++ wPn cI cZ a n P' ++ wPn cI cZ a o (F o)) = wLw cI cZ cQ a q L (fU F n P') M := by
  show vz_put _ (lr_i n ++ List.range' (11 + 7 * o) 7) _ = _
  rw [vz_put_app (lr_i n) (wBa cI cZ cQ a q ++ wLa cI cZ a L ++ wPn cI cZ a n P') _ _ _ rfl, lr_U1 cI cZ cQ a q L F M L P' n hn]
  have e : F o = fU F n P' o := (fU_n (Ne.symm hno)).symm
  have := lr_P cI cZ cQ a q L (fU F n P') M (fU F n P' o) o ho
  rw [fU_id, ← e] at this
  exact this
theorem lr_UM (cI cZ cQ : ClassId) (a : Nat → Nat) (q : Nat → Option Nat) (L : cL) (F : Nat → cP) (M M' : cM) : vz_put (wLw cI cZ cQ a q L F M) lr_m (wMa cI cZ a M') = wLw cI cZ cQ a q L F M' := by
  have e1 := (lx_4 [(a 0, .inr (3, [.ref (a 1), .ref (a 10)]))] (wLa cI cZ a L) [(a 10, .inl (cQ, 4, .inr (.inr (.inr (.inr q)))))] (wPn cI cZ a 0 (F 0)) (wPn cI cZ a 1 (F 1)) (wPn cI cZ a 2 (F 2)) (wPn cI cZ a 3 (F 3)) (wMa cI cZ a M) []).2.2.2.2
  have e2 := (lx_4 [(a 0, .inr (3, [.ref (a 1), .ref (a 10)]))] (wLa cI cZ a L) [(a 10, .inl (cQ, 4, .inr (.inr (.inr (.inr q)))))] (wPn cI cZ a 0 (F 0)) (wPn cI cZ a 1 (F 1)) (wPn cI cZ a 2 (F 2)) (wPn cI cZ a 3 (F 3)) (wMa cI cZ a M') []).2.2.2.2
  have e3 := vz_allU0 (wMa cI cZ a M) ([(a 0, .inr (3, [.ref (a 1), .ref (a 10)]))] ++ (wLa cI cZ a L ++ ([(a 10, .inl (cQ, 4, .inr (.inr (.inr (.inr q)))))] ++ (wPn cI cZ a 0 (F 0) ++ (wPn cI cZ a 1 (F 1) ++ (wPn cI cZ a 2 (F 2) ++ wPn cI cZ a 3 (F 3))))))) (wMa cI cZ a M') rfl
  exact (congrArg (fun z => vz_put z lr_m (wMa cI cZ a M')) e1).trans (e3.trans e2.symm)
theorem lr_in {i j Ln : Nat} (h : i + j < Ln) (hL : Ln ≤ 2560) : vp_in (pq i + pq j) Ln := by
  rw [pq_add]
  exact vp_in_iff.mpr ⟨by rw [pq_i (by omega)]; omega, by rw [pq_i (by omega)]; omega⟩
