/-! both states -/
def fU (F : Nat → cP) (n : Nat) (P : cP) : Nat → cP := fun i => if i = n then P else F i
theorem fU_s {F : Nat → cP} {n : Nat} {P : cP} : fU F n P n = P := if_pos rfl
theorem fU_n {F : Nat → cP} {n i : Nat} {P : cP} (h : i ≠ n) : fU F n P i = F i := if_neg h
def pR1 (L : cL) (M : cM) (c : Nat) (n : Nat) (P : cP) : Prop := pKn c P.1 ∧ pCt L c P ∧ okT P.2.1 ∧ rN M.2.1.1 (pq n) P.1 ∧ M.2.1.2.1 n = P.2.2.2.1 ∧ M.2.1.2.2 n = P.2.2.2.2
def pR0 (L : cL) (F : Nat → cP) (M : cM) (c md : Nat) : Prop :=
  pLog L c md ∧ rR M.1 L c md ∧ (∀ j, j < 1204 → M.2.1.1 j = 0 ∨ M.2.1.1 j = 1) ∧ (∀ j, j < 301 → 0 ≤ (M.2.2.2.1.2.2.2 j).toInt ∧ (M.2.2.2.1.2.2.2 j).toInt < 301)
  ∧ (∀ j, j < 301 → M.1.2.2.1 j = 4 → 0 ≤ (M.1.2.2.2.2.2.1 j).toInt ∧ (M.1.2.2.2.2.2.1 j).toInt < 301) ∧ ∀ n, n < 4 → pR1 L M c n (F n)
def pREL (L : cL) (F : Nat → cP) (M : cM) (c md : Nat) : Prop :=
  pR0 L F M c md ∧ (∀ n, n < 4 → pTr L c (F n) ∧ pOwn L c (pq n) (F n)) ∧ ∀ n, n < 4 → M.2.2.2.1.1 = pq n → pBt M L c (F n).1
theorem p301 {n : Nat} (hn : n < 4) {x : Int32} (h0 : 0 ≤ x.toInt) (h1 : x.toInt ≤ 300) : ((301 * pq n) + x).toNatClampNeg = 301 * n + x.toNatClampNeg := by
  have hi := pn_i h0
  have : 301 * pq n + x = pq (301 * n + x.toNatClampNeg) := by
    rw [← pq_301, pq_mul]
    have hx := pq_of h0
    rw [← hx, pq_add, hx]
  rw [this, pq_n (by omega)]
theorem rN_upd {g f : cA} {n : Nat} (hn : n < 4) {r : Int32} (hr : 1 ≤ r.toInt ∧ r.toInt ≤ 300) (h : rN g (pq n) f) : rN (upd g ((301 * pq n) + r).toNatClampNeg 1) (pq n) (upd f r.toNatClampNeg 1) := by
  intro x h0 h1
  have hr0 : 0 ≤ r.toInt := by omega
  have hr1 : r.toInt ≤ 300 := by omega
  rw [p301 hn h0 h1, p301 hn hr0 hr1]
  by_cases e : x = r
  · rw [e, pk_us, pk_us]
  · have hne : x.toNatClampNeg ≠ r.toNatClampNeg := fun e2 => e (pn_inj h0 hr0 e2)
    rw [pk_un hne, pk_un (by omega), ← p301 hn h0 h1]
    exact h x h0 h1
theorem rN_oth {g f : cA} {n m : Nat} (hn : n < 4) (hm : m < 4) (hnm : m ≠ n) {r : Int32} (hr : 1 ≤ r.toInt ∧ r.toInt ≤ 300) (h : rN g (pq m) f) : rN (upd g ((301 * pq n) + r).toNatClampNeg 1) (pq m) f := by
  intro x h0 h1
  have hr0 : 0 ≤ r.toInt := by omega
  have hr1 : r.toInt ≤ 300 := by omega
  have hi := pn_i h0
  have hj := pn_i hr0
  rw [p301 hm h0 h1, p301 hn hr0 hr1, pk_un (by omega), ← p301 hm h0 h1]
  exact h x h0 h1
theorem learnM_eq {M : cM} {x1 x2 : Int32} : m_M_learn M x1 x2 = (M.1, (upd M.2.1.1 ((301 * x1) + x2).toNatClampNeg 1, upd M.2.1.2.1 x1.toNatClampNeg (if (M.1.2.2.2.2.1 x2.toNatClampNeg) ≤ (M.2.1.2.1 x1.toNatClampNeg) then (M.2.1.2.1 x1.toNatClampNeg) else (M.1.2.2.2.2.1 x2.toNatClampNeg)), upd M.2.1.2.2 x1.toNatClampNeg (m_M_costOf (M.1, (upd M.2.1.1 ((301 * x1) + x2).toNatClampNeg 1, upd M.2.1.2.1 x1.toNatClampNeg (if (M.1.2.2.2.2.1 x2.toNatClampNeg) ≤ (M.2.1.2.1 x1.toNatClampNeg) then (M.2.1.2.1 x1.toNatClampNeg) else (M.1.2.2.2.2.1 x2.toNatClampNeg)), M.2.1.2.2), M.2.2.1, M.2.2.2.1, M.2.2.2.2) x1 x2)), M.2.2.1, (-1, M.2.2.2.1.2.1, M.2.2.2.1.2.2.1, M.2.2.2.1.2.2.2), M.2.2.2.2) := by
  unfold m_M_learn
  by_cases h : (M.1.2.2.2.2.1 x2.toNatClampNeg) ≤ (M.2.1.2.1 x1.toNatClampNeg)
  · rw [if_pos h, if_pos h]
  · rw [if_neg h, if_neg h]
theorem upd01' {f : cA} {n k : Nat} (h : ∀ j, j < n → f j = 0 ∨ f j = 1) : ∀ j, j < n → upd f k 1 j = 0 ∨ upd f k 1 j = 1 := fun j hj => by
  by_cases e : j = k
  · rw [e, pk_us]; exact Or.inr rfl
  · rw [pk_un e]; exact h j hj
theorem pw_learn {L : cL} {F : Nat → cP} {M : cM} {c md : Nat} (h : pR0 L F M c md) {n : Nat} (hn : n < 4) {r : Int32} (hr : r ∈ rws c) (hf : (F n).1 r.toNatClampNeg = 0) : pR0 L (fU F n (m_P_learn L (F n) r)) (m_M_learn M (pq n) r) c md ∧ (m_M_learn M (pq n) r).2.2.2.1.1 = -1 := by
  obtain ⟨hL, hR, h01, hor, h4, hP⟩ := h
  have hc := hL.1.1
  have hr1 := (rws_m hc).mp hr
  have hr2 : 1 ≤ r.toInt ∧ r.toInt ≤ 300 := by omega
  obtain ⟨x1, x2, x3, x4, x5, x6⟩ := hR.2.2 r hr
  have hnn : (pq n).toNatClampNeg = n := pq_n (by omega)
  obtain ⟨k1, k2, k3, k4, k5, k6⟩ := hP n hn
  obtain ⟨a1, a2, a3, a4, a5, a6⟩ := pl_learn hL hr hf k1 k2
  rw [learnM_eq]
  refine ⟨⟨hL, hR, upd01' h01, hor, h4, fun m hm => ?_⟩, rfl⟩
  by_cases e : m = n
  · subst e
    rw [fU_s]
    have hrN : rN (upd M.2.1.1 ((301 * pq m) + r).toNatClampNeg 1) (pq m) (upd (F m).1 r.toNatClampNeg 1) := rN_upd hm hr2 k4
    refine ⟨a1, a2, by rw [a4]; exact k3, by rw [a3]; exact hrN, ?_, ?_⟩
    · show upd M.2.1.2.1 (pq m).toNatClampNeg _ m = _
      rw [hnn, pk_us, a5, x3, k5]
      have ha := @Int32.le_iff_toInt_le (zlT L r) (F m).2.2.2.1
      have hb := @Int32.lt_iff_toInt_lt (F m).2.2.2.1 (zlT L r)
      by_cases g : zlT L r ≤ (F m).2.2.2.1
      · rw [if_pos g, if_neg (fun h => by have := ha.mp g; have := hb.mp h; omega)]
      · rw [if_neg g, if_pos (hb.mpr (by have := mt ha.mpr g; omega))]
    · show upd M.2.1.2.2 (pq m).toNatClampNeg _ m = _
      rw [hnn, pk_us, a6]
      exact pv_cost (M := (M.1, (upd M.2.1.1 ((301 * pq m) + r).toNatClampNeg 1, upd M.2.1.2.1 m (if (M.1.2.2.2.2.1 r.toNatClampNeg) ≤ (M.2.1.2.1 m) then (M.2.1.2.1 m) else (M.1.2.2.2.2.1 r.toNatClampNeg)), M.2.1.2.2), M.2.2.1, M.2.2.2.1, M.2.2.2.2)) hL hR hrN hr
  · rw [fU_n e]
    obtain ⟨j1, j2, j3, j4, j5, j6⟩ := hP m hm
    refine ⟨j1, j2, j3, rN_oth hn hm e hr2 j4, ?_, ?_⟩
    · show upd M.2.1.2.1 (pq n).toNatClampNeg _ m = _
      rw [hnn, pk_un e]; exact j5
    · show upd M.2.1.2.2 (pq n).toNatClampNeg _ m = _
      rw [hnn, pk_un e]; exact j6
/-- another holder of the same knowledge -/
theorem pR1_same {L : cL} {M : cM} {c n : Nat} {P Q : cP} (h : pR1 L M c n P) (h1 : ∀ j, Q.1 j = 0 ↔ P.1 j = 0) (h2 : Q.2.2 = P.2.2) (h3 : okT Q.2.1) : pR1 L M c n Q := by
  obtain ⟨j1, j2, j3, j4, j5, j6⟩ := h
  refine ⟨pKn_congr h1 j1, pCt_congr h1 h2 j2, h3, fun x h0 h1' => ?_, by rw [h2]; exact j5, by rw [h2]; exact j6⟩
  rw [j4 x h0 h1', h1]
theorem pm1_ne {n : Nat} (h : n < 4) : ¬ (-1 : Int32) = pq n := fun e => pq_ne1 (n := n) (by omega) e.symm
/-- see, and what comes of an added row -/
theorem pw_told {L : cL} {F : Nat → cP} {M : cM} {c md : Nat} (h : pR0 L F M c md) {n : Nat} (hn : n < 4) {r : Int32} (hr : r ∈ rws c) (hf : (F n).1 r.toNatClampNeg = 0) (hT : ∀ m, m < 4 → pTr L c (F m)) (hO : ∀ m, m < 4 → ∀ x ∈ rws c, x ≠ r ∨ m ≠ n → zlN L x = pq m → kb (F m).1 x = true) (x1 : Int32) :
    pREL L (fU F n (m_B_told L (F n) x1 r).2) (m_M_learn M (pq n) r) c md ∧ (m_B_told L (F n) x1 r).1 = r ∧ (m_B_told L (F n) x1 r).2.2.2.2.2 = (m_M_learn M (pq n) r).2.1.2.2 n := by
  have hL := h.1
  have hc := hL.1.1
  have hr1 := (rws_m hc).mp hr
  obtain ⟨w1, w2⟩ := pw_learn h hn hr hf
  obtain ⟨k1, k2, k3, k4, k5, k6⟩ := h.2.2.2.2.2 n hn
  obtain ⟨t1, t2, t3, t4⟩ := pl_told hL x1 hr hf ⟨k1, hT n hn, k2⟩
  obtain ⟨a1, a2, a3, a4, a5, a6⟩ := pl_learn hL hr hf k1 k2
  have hself := w1.2.2.2.2.2 n hn
  rw [fU_s] at hself
  have hnew : pR1 L (m_M_learn M (pq n) r) c n (m_B_told L (F n) x1 r).2 := pR1_same hself (fun j => by rw [t3, a3]) t4 t2.2.1.1.1
  refine ⟨⟨⟨w1.1, w1.2.1, w1.2.2.1, w1.2.2.2.1, w1.2.2.2.2.1, fun m hm => ?_⟩, fun m hm => ?_, fun m hm hb => ?_⟩, t1, ?_⟩
  · by_cases e : m = n
    · subst e; rw [fU_s]; exact hnew
    · have := w1.2.2.2.2.2 m hm
      rw [fU_n e] at this ⊢; exact this
  · by_cases e : m = n
    · subst e; rw [fU_s]
      refine ⟨t2.2.1, fun x hx hN => ?_⟩
      have hx1 := (rws_m hc).mp hx
      rw [kb_congr t3, kb_upd (by omega) (by omega)]
      by_cases ex : x = r
      · rw [ex]; simp
      · rw [hO m hm x hx (Or.inl ex) hN]; rfl
    · rw [fU_n e]
      exact ⟨hT m hm, fun x hx hN => hO m hm x hx (Or.inr e) hN⟩
  · rw [w2] at hb; exact absurd hb (pm1_ne hm)
  · rw [t4]; exact hself.2.2.2.2.2.symm
