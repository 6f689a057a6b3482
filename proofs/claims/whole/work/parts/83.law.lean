set_option maxHeartbeats 1000000 in
set_option maxRecDepth 100000 in
theorem whole_start {p : Program} {e : Env} {s : State} {m : MethodId} {below : List Frame} {meth : Method} {c : Code} (l : Launch) {b L : Nat} {xs : Nat → Int32} (hL : L ≤ 2560) (C0 : lw_At p s m meth c b L xs) : W p l e room_1 s m #[Value.ref b] below meth c s.heap [] 0 0 (lw_Z below #[Value.ref b] s) (entryFrame m ([Value.ref b] : List Value).toArray 4) := by
  obtain ⟨hx, hb, hr, hml, hown, hts, hX, hbl, hlocks, hgv⟩ := id C0
  have hT : ∀ w ∈ vz_tbl, w.before #[Value.ref b] s = true := fun w hw => hts w (vz_lw hw)
  obtain ⟨A, hAe⟩ : ∃ A : Nat → Prop, A = (fun q : Nat => s.heap.size ≤ q) := ⟨_, rfl⟩
  have hA : ∀ q : Nat, s.heap.size ≤ q → A q := fun _ h => by rw [hAe]; exact h
  obtain ⟨kT, iT, hKnT⟩ := u_known (C := R_T) (T := F_T) (N := 5) (n := 5) hT i_T (hT _ kw_77)
  obtain ⟨kL9, iL, hKnL⟩ := u_known (C := R_L) (T := F_L) (N := 10) (n := 10) hT i_L (hT _ kw_16)
  obtain ⟨kP, iP, hKnP⟩ := u_known (C := R_P) (T := F_P) (N := 5) (n := 5) hT i_P (hT _ kw_71)
  obtain ⟨kB, iB, hKnB⟩ := u_known (C := R_B) (T := F_B) (N := 2) (n := 2) hT i_B (hT _ kw_8)
  obtain ⟨kM, iM, hKnM⟩ := u_known (C := R_M) (T := F_M) (N := 26) (n := 26) hT i_M (hT _ kw_311)
  obtain ⟨dC, dI, hKc⟩ : ∃ (dC : Nat → ClassId) (dI : Nat → Nat → Nat), ∀ (k : Nat) (q : vw_C), classes[k]? = some q → u_Kn s q.1 q.2.1 q.2.2 (dC k) (dI k) := by
    refine ⟨fun k => if k = 0 then kT else if k = 1 then kL9 else if k = 2 then kP else if k = 3 then kB else kM, fun k => if k = 0 then iT else if k = 1 then iL else if k = 2 then iP else if k = 3 then iB else iM, ?_⟩
    intro k q hq
    match k, hq with
    | 0, hq => cases hq; exact hKnT
    | 1, hq => cases hq; exact hKnL
    | 2, hq => cases hq; exact hKnP
    | 3, hq => cases hq; exact hKnB
    | 4, hq => cases hq; exact hKnM
    | k + 5, hq => simp [classes] at hq
  obtain ⟨cI, kI, mI, fI, gI, hI⟩ := Cond.arrayClass_spec (hT _ kw_68)
  obtain ⟨cZ, kZ, mZ, fZ, gZ, hZ⟩ := Cond.arrayClass_spec (hT _ kw_106)
  obtain ⟨mQ, cQ, kQ, fQ, iQ, gQ, hQ, nQ⟩ := Cond.arrayOver_spec (hts _ kw_70)
  have hK : va_K (dC, dI) classes [(cI, .int), (cZ, .boolean), (cQ, .object "BinTrees$Person")] s := by
    refine ⟨hKc, fun k q hq => ?_⟩
    match k, hq with
    | 0, hq => cases hq; exact ⟨fun N z => ⟨(fun k h => by cases h), kI, gI, mI, hI⟩, fI⟩
    | 1, hq => cases hq; exact ⟨fun N z => ⟨(fun k h => by cases h), kZ, gZ, mZ, hZ⟩, fZ⟩
    | 2, hq => cases hq; exact ⟨fun N z => ⟨(fun k h => by cases h), kQ, gQ, mQ, hQ⟩, kQ, mQ, gQ, hQ, fQ, nQ⟩
    | k + 3, hq => simp at hq
  have hS : va_S A s.heap s.heap [] := va_S.rf
  have hP : va_P (dC, dI) classes [] s.heap := fun k q h => by simp at h
  have hD : va_D A [] := ⟨fun i j p q h => by simp at h, fun k q h => by simp at h⟩
  have hl := lv_entry ([.ref b]) (n := 4) (Nat.le_of_ble_eq_true rfl)
  rw [lg_entry_eq]
  generalize (lg_sl ([.ref b]) ++ List.replicate (4 - (lg_sl ([.ref b])).length) Slot.unset).toArray = ls at hl ⊢
  have hl : lv_has ls 4 [(0, .ref b)] := hl
  refine va_new (ci := 3) (fs := [.null, .null]) (C := R_B) (T := F_B) (N := 2) hx hb hT i_B tt_B tt_B_ok hown (hT _ kw_7) (hT _ kw_8) (hT _ kw_1) hK hP hD hS hA rfl (fun j hj => nd_B j hj) (Nat.le_of_ble_eq_true rfl) (Nat.le_of_ble_eq_true rfl) d_law_0 (fun b0 H hP hD hS => ?_)
  have hP : va_P (dC, dI) classes [(b0, .inr (3, [.null, .null]))] H := hP
  have hD : va_D A [(b0, .inr (3, [.null, .null]))] := hD
  refine W.widen (k := 1) (n := 2) (Nat.le_of_ble_eq_true rfl) (Nat.le_of_ble_eq_true rfl) ?_
  refine lv_dup hx hb d_law_3 rfl ?_
  have hE : va_Nw (.methodLinkNest "BinTrees" 9 y_L_init "BinTrees") s ∧ va_Nw (.methodLinkNest "BinTrees" 22 y_P_init "BinTrees") s ∧ va_AO "BinTrees$Person" s := ⟨va_Nw.of rfl (hts _ kw_17), va_Nw.of rfl (hts _ kw_72), va_AO.of (hts _ kw_70)⟩
  refine vz_callI (rest := [.ref b0]) ⟨hx, hb, hml, hown, hT⟩ (c_B_init l dC dI cI cZ cQ b0) kw_11 kw_9 kw_10 kw_1 rfl hd_B_init ⟨⟨rfl, rfl⟩, Nat.le_of_ble_eq_true rfl, Nat.le_of_ble_eq_true rfl⟩ hK hP hD hS hA (fun a U g mk h => ⟨va_Nw.same rfl (u := U) (U := U.calling g mk a) rfl h.1, va_Nw.same rfl (u := U) (U := U.calling g mk a) rfl h.2.1, va_AO.moved (u := U) (U := U.calling g mk a) (Vm.Alike.refl U.vm) h.2.2⟩) (fun U hW => ⟨va_Nw.warmM hW hE.1, va_Nw.warmM hW hE.2.1, va_AO.moved hW.alike hE.2.2⟩) [0] [] rfl rfl (wr := []) rfl rfl (by decide) hl.1 rfl (Nat.le_of_ble_eq_true rfl) ⟨Nat.le_of_ble_eq_true rfl, Nat.le_of_ble_eq_true rfl⟩ d_law_4 (fun w1 H locs hz hP hD hS => ?_)
  obtain ⟨u0, u1, u2, u3, u4, u5, u6, u7, u8, b1, pa0, pb0, pc0, pd0, pe0, pf0, pg0, pa1, pb1, pc1, pd1, pe1, pf1, pg1, pa2, pb2, pc2, pd2, pe2, pf2, pg2, pa3, pb3, pc3, pd3, pe3, pf3, pg3, rfl⟩ := hz
  obtain ⟨q, hqe⟩ : ∃ q : Nat → Option Nat, (va_up (va_up (va_up (va_up (fun _ => none) 0 (some pa0)) 1 (some pa1)) 2 (some pa2)) 3 (some pa3)) = q := ⟨_, rfl⟩
  rw [hqe] at hP hD
  obtain ⟨P9, hP9⟩ : ∃ P9, s0P = P9 := ⟨_, rfl⟩
  have hP9b : ((fun _ => 0), m_T_startAnew ((fun _ => 0), (fun _ => 0), (fun _ => 0), (fun _ => 0), 0), 0, 0, 0) = P9 := hP9
  rw [hP9b] at hP hD
  have hP : va_P (dC, dI) classes ([(b0, .inr (3, [.ref u0, .ref b1]))] ++ wL cI cZ u0 u1 u2 u3 u4 u5 u6 u7 u8 s0L ++ [(b1, .inl (cQ, 4, .inr (.inr (.inr (.inr q)))))] ++ wP cI cZ pa0 pb0 pc0 pd0 pe0 pf0 pg0 P9 ++ wP cI cZ pa1 pb1 pc1 pd1 pe1 pf1 pg1 P9 ++ wP cI cZ pa2 pb2 pc2 pd2 pe2 pf2 pg2 P9 ++ wP cI cZ pa3 pb3 pc3 pd3 pe3 pf3 pg3 P9) H := hP
  have hD : va_D A ([(b0, .inr (3, [.ref u0, .ref b1]))] ++ wL cI cZ u0 u1 u2 u3 u4 u5 u6 u7 u8 s0L ++ [(b1, .inl (cQ, 4, .inr (.inr (.inr (.inr q)))))] ++ wP cI cZ pa0 pb0 pc0 pd0 pe0 pf0 pg0 P9 ++ wP cI cZ pa1 pb1 pc1 pd1 pe1 pf1 pg1 P9 ++ wP cI cZ pa2 pb2 pc2 pd2 pe2 pf2 pg2 P9 ++ wP cI cZ pa3 pb3 pc3 pd3 pe3 pf3 pg3 P9) := hD
  refine W.widen (k := 39) (n := 4307) (Nat.le_of_ble_eq_true rfl) (Nat.le_of_ble_eq_true rfl) ?_
  refine lv_astore_n (lv' := [(1, .ref b0), (0, .ref b)]) hx hb d_law_7 rfl hl (by decide) rfl (fun ls hl => ?_)
  refine va_new (ci := 4) (fs := [.int 0, .int 0, .null, .null, .null, .null, .null, .null, .int 0, .null, .null, .null, .int 0, .null, .null, .null, .null, .null, .null, .int 0, .null, .int 0, .null, .null, .null, .null]) (C := R_M) (T := F_M) (N := 26) hx hb hT i_M tt_M tt_M_ok hown (hT _ kw_310) (hT _ kw_311) (hT _ kw_5) hK hP hD hS hA rfl (fun j hj => nd_M j hj) (Nat.le_of_ble_eq_true rfl) (Nat.le_of_ble_eq_true rfl) d_law_8 (fun v0 H hP hD hS => ?_)
  have hP : va_P (dC, dI) classes ([(b0, .inr (3, [.ref u0, .ref b1]))] ++ wL cI cZ u0 u1 u2 u3 u4 u5 u6 u7 u8 s0L ++ [(b1, .inl (cQ, 4, .inr (.inr (.inr (.inr q)))))] ++ wP cI cZ pa0 pb0 pc0 pd0 pe0 pf0 pg0 P9 ++ wP cI cZ pa1 pb1 pc1 pd1 pe1 pf1 pg1 P9 ++ wP cI cZ pa2 pb2 pc2 pd2 pe2 pf2 pg2 P9 ++ wP cI cZ pa3 pb3 pc3 pd3 pe3 pf3 pg3 P9 ++ [(v0, .inr (4, [.int 0, .int 0, .null, .null, .null, .null, .null, .null, .int 0, .null, .null, .null, .int 0, .null, .null, .null, .null, .null, .null, .int 0, .null, .int 0, .null, .null, .null, .null]))]) H := hP
  have hD : va_D A ([(b0, .inr (3, [.ref u0, .ref b1]))] ++ wL cI cZ u0 u1 u2 u3 u4 u5 u6 u7 u8 s0L ++ [(b1, .inl (cQ, 4, .inr (.inr (.inr (.inr q)))))] ++ wP cI cZ pa0 pb0 pc0 pd0 pe0 pf0 pg0 P9 ++ wP cI cZ pa1 pb1 pc1 pd1 pe1 pf1 pg1 P9 ++ wP cI cZ pa2 pb2 pc2 pd2 pe2 pf2 pg2 P9 ++ wP cI cZ pa3 pb3 pc3 pd3 pe3 pf3 pg3 P9 ++ [(v0, .inr (4, [.int 0, .int 0, .null, .null, .null, .null, .null, .null, .int 0, .null, .null, .null, .int 0, .null, .null, .null, .null, .null, .null, .int 0, .null, .int 0, .null, .null, .null, .null]))]) := hD
  refine W.widen (k := 40) (n := 4333) (Nat.le_of_ble_eq_true rfl) (Nat.le_of_ble_eq_true rfl) ?_
  refine lv_dup hx hb d_law_11 rfl ?_
  refine vz_callI (rest := [.ref v0]) ⟨hx, hb, hml, hown, hT⟩ (c_M_init l dC dI cI cZ cQ v0) kw_314 kw_312 kw_313 kw_5 rfl hd_M_init ⟨⟨rfl, rfl⟩, Nat.le_of_ble_eq_true rfl, Nat.le_of_ble_eq_true rfl⟩ hK hP hD hS hA (fun _ _ _ _ _ => trivial) (fun _ _ => trivial) [39] [0, 1, 2, 3, 4, 5, 6, 7, 8, 9, 10, 11, 12, 13, 14, 15, 16, 17, 18, 19, 20, 21, 22, 23, 24, 25, 26, 27, 28, 29, 30, 31, 32, 33, 34, 35, 36, 37, 38] rfl rfl (wr := ([(b0, .inr (3, [.ref u0, .ref b1]))] ++ wL cI cZ u0 u1 u2 u3 u4 u5 u6 u7 u8 s0L ++ [(b1, .inl (cQ, 4, .inr (.inr (.inr (.inr q)))))] ++ wP cI cZ pa0 pb0 pc0 pd0 pe0 pf0 pg0 P9 ++ wP cI cZ pa1 pb1 pc1 pd1 pe1 pf1 pg1 P9 ++ wP cI cZ pa2 pb2 pc2 pd2 pe2 pf2 pg2 P9 ++ wP cI cZ pa3 pb3 pc3 pd3 pe3 pf3 pg3 P9)) rfl rfl (by decide) hl.1 rfl (Nat.le_of_ble_eq_true rfl) ⟨Nat.le_of_ble_eq_true rfl, Nat.le_of_ble_eq_true rfl⟩ d_law_12 (fun w1 H locs hz hP hD hS => ?_)
  obtain ⟨v1, v2, v3, v4, v5, v6, v7, v8, v9, v10, v11, v12, v13, v14, v15, v16, v17, v18, v19, v20, rfl⟩ := hz
  obtain ⟨a, hae⟩ : ∃ a : Nat → Nat, a = fun i => ([b0, u0, u1, u2, u3, u4, u5, u6, u7, u8, b1, pa0, pb0, pc0, pd0, pe0, pf0, pg0, pa1, pb1, pc1, pd1, pe1, pf1, pg1, pa2, pb2, pc2, pd2, pe2, pf2, pg2, pa3, pb3, pc3, pd3, pe3, pf3, pg3, v0, v1, v2, v3, v4, v5, v6, v7, v8, v9, v10, v11, v12, v13, v14, v15, v16, v17, v18, v19, v20] : List Nat).getD i 0 := ⟨_, rfl⟩
  have hP : va_P (dC, dI) classes (wLw cI cZ cQ a q s0L (fun _ => P9) s0M) H := by rw [hae]; exact hP
  have hD : va_D A (wLw cI cZ cQ a q s0L (fun _ => P9) s0M) := by rw [hae]; exact hD
  have hq : ∀ n, n < 4 → q n = some (a (11 + 7 * n)) := by
    intro n hn
    rw [← hqe, hae]
    match n, hn with
    | 0, _ => rfl
    | 1, _ => rfl
    | 2, _ => rfl
    | 3, _ => rfl
    | n + 4, h => exact absurd h (by omega)
  refine W.widen (k := 60) (n := 11776) (Nat.le_of_ble_eq_true rfl) (Nat.le_of_ble_eq_true rfl) ?_
  refine lv_astore_n (lv' := [(2, .ref v0), (1, .ref b0), (0, .ref b)]) hx hb d_law_15 rfl hl (by decide) rfl (fun ls hl => ?_)
  refine lv_iconst (v := 0) hx hb d_law_16 (by decide) ?_
  refine lv_istore_n (lv' := [(3, .int 0), (2, .ref v0), (1, .ref b0), (0, .ref b)]) hx hb d_law_17 rfl hl (by decide) rfl (fun ls hl => ?_)
  have hl : lv_has ls 4 [(3, .int (pq 0)), (2, .ref (a 39)), (1, .ref (a 0)), (0, .ref b)] := by rw [hae]; exact hl
  subst hAe
  have hrel : pREL s0L (fun _ => P9) s0M 0 0 := by rw [← hP9]; exact s0_rel
  exact law_loop C0 hL hq hK (L + 1) 0 (Nat.zero_le _) (by omega) _ _ _ _ _ hrel H locs ls hP hD hS hl
set_option maxHeartbeats 4000000 in
theorem lw_walk (l : Launch) (b : Addr) (xs : List Int32) : MetFree l x (headSpec (Jvm.Cond.code x code maxLocals ret :: tables_1) room_1) (lw_P b xs) (fun _ _ _ _ _ => True) lw_Q := by
  refine MetFree.of_bodyS (code := code) (maxLocals := maxLocals) (ret := ret) (by decide) ?_ ?_
  · intro args s m h hn
    obtain ⟨meth, c, h1, h2, h3, h4, h5, h6, -, -⟩ := Cond.code_spec hn (atoms_spec (ws := Jvm.Cond.code x code maxLocals ret :: tables_1) h _ List.mem_cons_self)
    exact ⟨meth, c, h1, h2, h3, h4, h5, h6⟩
  · intro p e s m args below meth c s₁ B hml0 hP _
    obtain ⟨rfl, hx, hbd, hgv⟩ := hP
    obtain ⟨scr, harrAt, hlist, hof, hsmall⟩ := hx
    obtain ⟨hcb, hkn, -, -⟩ := State.arrayAt?_spec harrAt
    have hown : s.vm.findClass R_law = some m.cls := findClass_of_methodNamed B.named
    have hts0 : ∀ c ∈ (Jvm.Cond.code x code maxLocals ret :: tables_1), c.before #[Value.ref b] s = true := atoms_spec (ws := Jvm.Cond.code x code maxLocals ret :: tables_1) B.pre
    have hts : ∀ w ∈ lw_tbl, w.before #[Value.ref b] s = true := k2_hts_sels lw_privs (fun w hw => hts0 w (List.mem_cons_of_mem _ hw)) lw_privs_ok
    have hml : c.maxLocals = 4 := B.maxLocals_eq (hts0 _ List.mem_cons_self)
    have X₀ : Stand p l e room_1 s m #[Value.ref b] below meth c s₁ [] 0 0 := Stand.of_body B
    have hh0 : s₁.heap = s.heap := by rw [B.state]; rfl
    have hsz : scr.slots.size = xs.length := by rw [← Array.length_toList, hlist, List.length_map]
    have hval : ∀ j : Nat, j < xs.length → scr.slots[j]? = some (.int (xs.getD j 0)) := fun j hj => by
      rw [← Array.getElem?_toList, hlist]
      simp [hj]
    have hbl : b < s.heap.size := (Array.getElem?_eq_some_iff.mp hcb).1
    have hX : va_X b xs.length (fun j => xs.getD j 0) s s.heap := ⟨scr, hcb, hof, hkn, hsz, hval⟩
    have K : W p l e room_1 s m #[Value.ref b] below meth c s₁.heap [] 0 0 (lw_Z below #[Value.ref b] s) (entryFrame m ([Value.ref b] : List Value).toArray 4) := by
      rw [hh0]
      exact whole_start l hbd ⟨B.exec, B.bytes, B.returns, hml, hown, hts, hX, hbl, B.notSynchronized, hgv⟩
    obtain ⟨t, a1, o, b1, b2, b3⟩ := K s₁ rfl X₀
    exact ⟨t, o, a1, b1, b2, b3⟩
theorem lw_pre_spec {args : Array Value} {s : State} (h : (Jvm.Cond.and given_1 narrow_1).before args s = true) (hr : rest_1_c.before args s = true) : ∃ (b : Addr) (xs : List Int32), lw_P b xs args s := by
  have hs := flat_of_before _ h
  have hq := flat_of_before _ hr
  have hc : (Cond.count 1).before args s = true := hs _ (by decide +kernel)
  have harr : (Cond.arrayOf (.arg 0) .int).before args s = true := hs _ (by decide +kernel)
  have hle : (Cond.le (.length (.arg 0)) (.int 2560)).before args s = true := hs _ (by decide +kernel)
  have hlen : (Cond.isInt (.length (.arg 0))).before args s = true := hq _ (by decide +kernel)
  have hall : (Cond.all (.arg 0) (.isInt (.elem (.arg 0) (.index 0)))).before args s = true := hq _ (by decide +kernel)
  obtain ⟨b, xs, hb, hx⟩ := State.ints_of_pre rfl harr hlen hall
  have hsm : xs.length < 2 ^ 31 := hx.choose_spec.2.2.2
  have hev : (Term.length (.arg 0)).eval args s none [] s = some (.int xs.length.toInt32) := hx.length_eval hb
  have hv := Cond.le_ints hev (show (Term.int 2560).eval args s none [] s = some (.int 2560) from rfl)
  have hd : xs.length.toInt32 ≤ 2560 := by
    simpa [Cond.before, Cond.holds, hv] using hle
  have hN : xs.length ≤ 2560 := (Int32.ofNat_le_ofNat hsm (by decide)).mp (show Int32.ofNat xs.length ≤ Int32.ofNat 2560 from hd)
  exact ⟨b, xs, Cond.one_arg hc (show args[0]? = some (.ref b) from hb), hx, hN, h⟩
theorem lw_comes (l : Launch) : Comes l x (Jvm.Cond.code x code maxLocals ret :: tables_1) room_1 (fun tb e args s => Calls_1 tb e args s ∧ rest_1 tb e args s ∧ Pre_1 tb e args s)
    (fun _ _ args s o t => lw_Q args s o t) := by
  intro p e ha hc hk s m args below hf hfit hheap happ hpre
  obtain ⟨b, xs, hP⟩ := lw_pre_spec hpre.2.2 hpre.2.1
  obtain ⟨k, o, h1, h2, h3, hQ⟩ := lw_walk l b xs p e ha hc hk s m args below hf ((Spec.applies_iff_loose hf).mp happ).1 hP trivial
  exact ⟨k, o, h1, h2, h3, hQ⟩
theorem lw_frame {s t : State} {o : Outcome} {args : Array Value} (h : Framed s o t [] 600000 7302250) :
    Framed s o t (fieldLocs frame_1_writes args s ++ arrayLocs frame_1_arrays args s ++ staticLocs frame_1_statics s) 600000 7302250 := h
theorem lw_limb (L : Cond) (hL : ∀ (args : Array Value) (s t : State), L.after args s (.returned (some (.int 1))) t = true) :
    ArmFor flags0 classFile x code maxLocals ret World_1 tables_1 room_1 Calls_1 rest_1 Pre_1
      (fun tb e a s o t => postC L tb e a s o t ∧ Framed s o t (fieldLocs frame_1_writes a s ++ arrayLocs frame_1_arrays a s ++ staticLocs frame_1_statics s) 600000 7302250) := by
  intro l _ _ _ p e ha hc hk s m args below hf hfit hheap happ hpre
  obtain ⟨k, o, h1, h2, h3, rfl, hF⟩ := lw_comes l p e ha hc hk s m args below hf hfit hheap happ hpre
  exact ⟨k, _, h1, h2, h3, hL args s _, lw_frame hF⟩
theorem i_vc : Claimed_1_1 ∧ Claimed_1_2 := ⟨lw_limb limb_1_1 (fun args s t => by simp [limb_1_1, Cond.after, Cond.holds, Cond.value]), lw_limb limb_1_2 (fun args s t => Cond.after_iff.mpr (by
  first | (rw [show limb_1_2 = Cond.eq .result (.int 1) from rfl, Cond.eq_ints (x := 1) (y := 1) rfl rfl]; simp; done) | (simp [limb_1_2, Cond.value, Term.eval]; done)))⟩
