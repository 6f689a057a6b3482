/-! The layer of this claim: contracts of methods that make no cell; the world keeps its places. -/
def vz_A (w : va_W) : Nat → Prop := fun q => ∃ (k : Nat) (e : va_E), w[k]? = some (q, e)
def vz_P (G : va_G) (cl : List vw_C) (tys : List (ClassId × FieldType)) (av : List Value) (w : va_W) : Array Value → State → Prop :=
  fun v U => v = av.toArray ∧ va_P G cl w U.heap ∧ va_K G cl tys U ∧ va_D (fun _ => True) w
def vz_Q (G : va_G) (cl : List vw_C) (w : va_W) (rv : Option Value) (w1 : va_W) : Array Value → State → Outcome → State → Prop :=
  fun _ st oc t => oc = .returned rv ∧ va_P G cl w1 t.heap ∧ st.heap.size ≤ t.heap.size ∧ ∀ q : Nat, q < st.heap.size → ¬ vz_A w q → t.heap[q]? = st.heap[q]?
/-- the contract: from the world w with the arguments av the method answers rv, and the world is w1 -/
def vz_C (l : Launch) (G : va_G) (cl : List vw_C) (tys : List (ClassId × FieldType)) (y : MethodName) (ws : List Cond) (rm : Room) (av : List Value) (w : va_W) (rv : Option Value) (w1 : va_W) : Prop :=
  Met l y ws rm (vz_P G cl tys av w) (vz_Q G cl w rv w1) 0 0 (vz_A w)
/-- cells put into places -/
def vz_put (ws : va_W) : List Nat → va_W → va_W
  | i :: is, c :: cs => vz_put (ws.set i c) is cs
  | _, _ => ws
theorem vz_put_get : ∀ (is : List Nat) (w1 ws : va_W) (k : Nat) (q : Nat × va_E), (vz_put ws is w1)[k]? = some q → (∃ j : Nat, is[j]? = some k ∧ w1[j]? = some q) ∨ ((w1.length = is.length → k ∉ is) ∧ ws[k]? = some q)
  | [], w1, ws, k, q, h => by
    have h' : ws[k]? = some q := by cases w1 <;> exact h
    exact Or.inr ⟨fun _ => List.not_mem_nil, h'⟩
  | i :: is, [], ws, k, q, h => Or.inr ⟨fun h => by simp at h, h⟩
  | i :: is, c :: cs, ws, k, q, h => by
    rcases vz_put_get is cs (ws.set i c) k q h with ⟨j, h1, h2⟩ | ⟨h1, h2⟩
    · exact Or.inl ⟨j + 1, by simpa using h1, by simpa using h2⟩
    · by_cases hk : k = i
      · subst hk
        have hl : k < ws.length := by
          have := (List.getElem?_eq_some_iff.mp h2).1
          simpa using this
        rw [List.getElem?_set_self hl] at h2
        exact Or.inl ⟨0, rfl, h2⟩
      · rw [List.getElem?_set_ne (Ne.symm hk)] at h2
        refine Or.inr ⟨fun hl hm => ?_, h2⟩
        have hl' : cs.length = is.length := by simpa using hl
        rcases List.mem_cons.mp hm with h3 | h3
        · exact hk h3
        · exact h1 hl' h3
theorem vz_at {ws w : va_W} {is : List Nat} (hs : is.map (fun i => ws[i]?) = w.map some) {k : Nat} {q : Nat × va_E} (hq : w[k]? = some q) : ∃ i : Nat, is[k]? = some i ∧ ws[i]? = some q := by
  have h1 : (is.map (fun i => ws[i]?))[k]? = some (some q) := by rw [hs, List.getElem?_map, hq]; rfl
  rw [List.getElem?_map] at h1
  cases hi : is[k]? with
  | none => rw [hi] at h1; cases h1
  | some i => rw [hi] at h1; exact ⟨i, rfl, Option.some.inj h1⟩
theorem vz_ta {ws w : va_W} {is : List Nat} (hs : is.map (fun i => ws[i]?) = w.map some) {k i : Nat} (hi : is[k]? = some i) : ∃ q, w[k]? = some q ∧ ws[i]? = some q := by
  have h1 : (w.map some)[k]? = some (ws[i]?) := by rw [← hs, List.getElem?_map, hi]; rfl
  rw [List.getElem?_map] at h1
  cases hq : w[k]? with
  | none => rw [hq] at h1; cases h1
  | some q => rw [hq] at h1; exact ⟨q, rfl, (Option.some.inj h1).symm⟩
/-- behind a call -/
theorem vz_after {A0 : Nat → Prop} {G : va_G} {cl : List vw_C} {ws wc w1 : va_W} {H H1 : Heap} (hP : va_P G cl ws H) (hD : va_D A0 ws) (is : List Nat) (hC : is.map (fun i => ws[i]?) = wc.map some) (h1 : w1.map Prod.fst = wc.map Prod.fst)
    (hk : ∀ q : Nat, q < H.size → ¬ vz_A wc q → H1[q]? = H[q]?) (hP1 : va_P G cl w1 H1) : va_P G cl (vz_put ws is w1) H1 ∧ va_D A0 (vz_put ws is w1) := by
  have hlen : w1.length = is.length := by
    have a := congrArg List.length h1
    have b := congrArg List.length hC
    simp at a b
    omega
  have adr : ∀ (k : Nat) (q : Nat × va_E), (vz_put ws is w1)[k]? = some q → ∃ q0, ws[k]? = some q0 ∧ q0.1 = q.1 := by
    intro k q hq
    rcases vz_put_get is w1 ws k q hq with ⟨j, g1, g2⟩ | ⟨g1, g2⟩
    · obtain ⟨q0, g3, g4⟩ := vz_ta hC g1
      refine ⟨q0, g4, ?_⟩
      have e1 : (w1.map Prod.fst)[j]? = some q.1 := by rw [List.getElem?_map, g2]; rfl
      rw [h1, List.getElem?_map, g3] at e1
      exact Option.some.inj e1
    · exact ⟨q, g2, rfl⟩
  refine ⟨fun k q hq => ?_, fun i j x y hx hy hxy => ?_, fun k q hq => ?_⟩
  · rcases vz_put_get is w1 ws k q hq with ⟨j, g1, g2⟩ | ⟨g1, g2⟩
    · exact hP1 j q g2
    · refine (hP k q g2).kept (hk q.1 ((hP k q g2).lt) ?_)
      rintro ⟨j, e, hj⟩
      obtain ⟨i, g3, g4⟩ := vz_at hC hj
      have := hD.1 k i q (q.1, e) g2 g4 rfl
      subst this
      exact g1 hlen (List.mem_of_getElem? g3)
  · obtain ⟨x0, g1, g2⟩ := adr i x hx
    obtain ⟨y0, g3, g4⟩ := adr j y hy
    exact hD.1 i j x0 y0 g1 g3 (g2.trans (hxy.trans g4.symm))
  · obtain ⟨q0, g1, g2⟩ := adr k q hq
    rw [← g2]
    exact hD.2 k q0 g1
section VZ
variable {p : Program} {l : Launch} {e : Env} {R : Room} {s : State} {m : MethodId} {args : Array Value} {below : List Frame} {meth : Method} {c : Code} {H : Heap} {locs : List Loc} {cells slots : Nat} {Q : State → Prop}
variable {pc : Nat} {ls : Array Slot} {rest st0 : List Value} {a : Array Value} {A0 : Nat → Prop} {H0 : Heap}
theorem vz_call {G : va_G} {cl : List vw_C} {ws wc w1 : va_W} {rv : Option Value} (hr : va_Run p l e R s m args below meth c H locs cells slots 0 0 (F0 m pc ls st0) rest (vz_Q G cl wc rv w1 a) (vz_A wc)) (hP : va_P G cl ws H) (hD : va_D A0 ws) (hS : va_S A0 H0 H locs) (is : List Nat) (hC : is.map (fun i => ws[i]?) = wc.map some) (h1 : w1.map Prod.fst = wc.map Prod.fst)
    (kk : ∀ (H1 : Heap) (locs1 : List Loc), va_P G cl (vz_put ws is w1) H1 → va_D A0 (vz_put ws is w1) → va_S A0 H0 H1 locs1 → W p l e R s m args below meth c H1 locs1 cells slots Q (F0 m (pc + 3) ls (rv.toList ++ rest))) : W p l e R s m args below meth c H locs cells slots Q (F0 m pc ls st0) := by
  intro T hT X
  obtain ⟨v, st₀, t, T', L, h0, X', hL, e1, e2, ⟨hv, hp, hz, hk⟩, st⟩ := hr T hT X
  cases hv
  rw [h0] at hz hk
  have hsub : ∀ q, vz_A wc q → A0 q := by
    rintro q ⟨k, e, hq⟩
    obtain ⟨i, -, g2⟩ := vz_at hC hq
    exact hD.2 i _ g2
  have hk' : ∀ q : Nat, q < H.size → ¬ vz_A wc q → T'.heap[q]? = H[q]? := fun q h1 h2 => by rw [e1]; exact hk q h1 h2
  obtain ⟨hP', hD'⟩ := vz_after hP hD is hC h1 hk' (by rw [e1]; exact hp)
  obtain ⟨t2, a1, b1⟩ := kk T'.heap (locs ++ L) hP' hD'
    ⟨Nat.le_trans hS.1 (by rw [e1]; exact hz), fun q g1 g2 => by rw [hk' q (Nat.lt_of_lt_of_le g1 hS.1) (fun z => g2 (hsub q z))]; exact hS.2.1 q g1 g2, fun q hq => by
      rcases List.mem_append.mp hq with h | h
      · exact hS.2.2 q h
      · exact hsub _ (hL q h)⟩ T' rfl X'
  exact ⟨t2, st t2 a1, b1⟩
end VZ
/-- the words that may be handed to a callee -/
def vz_tbl : List Cond := lw_tbl.filter goodWord
theorem vz_in {w : Cond} (h : w ∈ lw_tbl) (hg : goodWord w = true) : w ∈ vz_tbl := List.mem_filter.mpr ⟨h, hg⟩
theorem vz_lw {w : Cond} (h : w ∈ vz_tbl) : w ∈ lw_tbl := (List.mem_filter.mp h).1
theorem vz_gw {w : Cond} (h : w ∈ vz_tbl) : goodWord w = true := (List.mem_filter.mp h).2
theorem vz_goodV {own C : String} {idx n : Nat} {y : MethodName} {b : ByteArray} {ret : Option FieldType} (h1 : Cond.methodLink own idx y ∈ vz_tbl) (h2 : Cond.instanceMethod y ∈ vz_tbl) (h3 : Cond.selects C y y ∈ vz_tbl) (h4 : Cond.initialized C ∈ vz_tbl) (h5 : Cond.code y b n ret ∈ vz_tbl) : GoodIn vz_tbl (wsV own idx C y (Cond.code y b n ret :: vz_tbl)) := by
  have key : ∀ w ∈ wsV own idx C y (Cond.code y b n ret :: vz_tbl), w ∈ vz_tbl := by
    intro w hw
    simp only [wsV, List.cons_append, List.nil_append, List.mem_cons] at hw
    rcases hw with rfl | rfl | rfl | rfl | rfl | hw
    · exact h1
    · exact h2
    · exact h3
    · exact h4
    · exact h5
    · exact hw
  exact fun w hw => ⟨key w hw, good_of_word (vz_gw (key w hw))⟩
theorem vz_goodS {own : String} {idx n : Nat} {y : MethodName} {b : ByteArray} {ret : Option FieldType} (h1 : Cond.methodLink own idx y ∈ vz_tbl) (h2 : Cond.static y ∈ vz_tbl) (h4 : Cond.initialized y.cls ∈ vz_tbl) (h5 : Cond.code y b n ret ∈ vz_tbl) : GoodIn vz_tbl (va_wsS own idx y (Cond.code y b n ret :: vz_tbl)) := by
  have key : ∀ w ∈ va_wsS own idx y (Cond.code y b n ret :: vz_tbl), w ∈ vz_tbl := by
    intro w hw
    simp only [va_wsS, List.cons_append, List.nil_append, List.mem_cons] at hw
    rcases hw with rfl | rfl | rfl | rfl | hw
    · exact h1
    · exact h2
    · exact h4
    · exact h5
    · exact hw
  exact fun w hw => ⟨key w hw, good_of_word (vz_gw (key w hw))⟩
theorem vz_blind {G : va_G} {cl : List vw_C} {tys : List (ClassId × FieldType)} {av : List Value} {w : va_W} : FrameBlind (vz_P G cl tys av w) := fun a U g mk q => ⟨q.1, q.2.1, va_K.moved (u := U) (U := U.calling g mk a) (Vm.Alike.refl U.vm) q.2.2.1, q.2.2.2⟩
theorem vz_subP {G : va_G} {cl : List vw_C} {ws wc : va_W} {H : Heap} (hP : va_P G cl ws H) {is : List Nat} (hC : is.map (fun i => ws[i]?) = wc.map some) : va_P G cl wc H := fun k q hq => by
  obtain ⟨i, -, h⟩ := vz_at hC hq
  exact hP i q h
section VZ2
variable {p : Program} {l : Launch} {e : Env} {R : Room} {s : State} {m : MethodId} {args : Array Value} {below : List Frame} {meth : Method} {c : Code} {H : Heap} {locs : List Loc} {cells slots : Nat} {Q : State → Prop}
variable {pc : Nat} {ls : Array Slot} {rest st0 : List Value} {A0 : Nat → Prop} {H0 : Heap}
theorem vz_callV {G : va_G} {cl : List vw_C} {tys : List (ClassId × FieldType)} {ws wc w1 : va_W} {rv : Option Value} {y : MethodName} {b cc : ByteArray} {maxL nL n idx : Nat} {ret : Option FieldType} {rm : Room} {own C : String} {b0 : Addr} {As : List Value} {r : vw_C} {fs : List Value}
    (S : CallFix p m c cc nL s args vz_tbl own) (hM : vz_C l G cl tys y (Cond.code y b maxL ret :: vz_tbl) rm (.ref b0 :: As) wc rv w1) (hg : GoodIn vz_tbl (wsV own idx C y (Cond.code y b maxL ret :: vz_tbl)))
    (hd : y.cls = C ∧ y.cls ≠ "java/lang/invoke/MethodHandle" ∧ y.cls ≠ "java/lang/invoke/VarHandle" ∧ (parseMethodDescriptor y.desc).map (fun d => d.parameters.length) = some n)
    (hR : (rm.cells = 0 ∧ rm.slots = 0) ∧ rm.frames + 1 ≤ R.frames ∧ 8 + (maxL + 11) + rm.locals ≤ R.locals) (hK : va_K G cl tys s) (hP : va_P G cl ws H) (hD : va_D A0 ws) (hS : va_S A0 H0 H locs)
    (is : List Nat) (hn : va_nd is = true) (hC : is.map (fun i => ws[i]?) = wc.map some) (h1 : w1.map Prod.fst = wc.map Prod.fst) (q0 ci : Nat) (hc : cl[ci]? = some r) (hr : r.1 = C) (he : wc[q0]? = some (b0, .inr (ci, fs)))
    (hl : As.length = n) (hsize : ls.size = nL) (hst : st0 = As.reverse ++ .ref b0 :: rest) (hW : (rest.map fun v => v.category).sum ≤ 8) (hf : cells ≤ R.cells ∧ slots ≤ R.slots) (hdg : decode cc pc = .ok (.invokevirtual idx, 3))
    (kk : ∀ (H1 : Heap) (locs1 : List Loc), va_P G cl (vz_put ws is w1) H1 → va_D A0 (vz_put ws is w1) → va_S A0 H0 H1 locs1 → W p l e R s m args below meth c H1 locs1 cells slots Q (F0 m (pc + 3) ls (rv.toList ++ rest))) : W p l e R s m args below meth c H locs cells slots Q (F0 m pc ls st0) := by
  subst hst
  have hPc := vz_subP hP hC
  refine vz_call (va_runV (As := As) (rest := rest) S hM (cwV n S.2.2.2.2 hg rfl hR.1.1 hR.1.2 hd hR.2) ⟨vz_blind, ?_, fun U hU hW => ⟨rfl, by rw [hU]; exact hPc, va_K.moved hW.alike hK, (hD.sub is hn hC).weaken (fun _ _ _ _ => trivial)⟩⟩ rfl hl hsize rfl (lv_room hW) hdg hf) hP hD hS is hC h1 kk
  obtain ⟨cell, g1, g2, g3⟩ := va_recv hK hPc hc he
  exact ⟨cell, g1, g2, by rw [← hr]; exact g3⟩
theorem vz_callS {G : va_G} {cl : List vw_C} {tys : List (ClassId × FieldType)} {ws wc w1 : va_W} {rv : Option Value} {y : MethodName} {b cc : ByteArray} {maxL nL n idx : Nat} {ret : Option FieldType} {rm : Room} {own : String} {As : List Value}
    (S : CallFix p m c cc nL s args vz_tbl own) (hM : vz_C l G cl tys y (Cond.code y b maxL ret :: vz_tbl) rm As wc rv w1) (hg : GoodIn vz_tbl (va_wsS own idx y (Cond.code y b maxL ret :: vz_tbl)))
    (hd : y.cls ≠ "java/lang/invoke/MethodHandle" ∧ y.cls ≠ "java/lang/invoke/VarHandle" ∧ (parseMethodDescriptor y.desc).map (fun d => d.parameters.length) = some n)
    (hR : (rm.cells = 0 ∧ rm.slots = 0) ∧ rm.frames + 1 ≤ R.frames ∧ 8 + (maxL + 11) + rm.locals ≤ R.locals) (hK : va_K G cl tys s) (hP : va_P G cl ws H) (hD : va_D A0 ws) (hS : va_S A0 H0 H locs)
    (is : List Nat) (hn : va_nd is = true) (hC : is.map (fun i => ws[i]?) = wc.map some) (h1 : w1.map Prod.fst = wc.map Prod.fst)
    (hl : As.length = n) (hsize : ls.size = nL) (hst : st0 = As.reverse ++ rest) (hW : (rest.map fun v => v.category).sum ≤ 8) (hf : cells ≤ R.cells ∧ slots ≤ R.slots) (hdg : decode cc pc = .ok (.invokestatic idx, 3))
    (kk : ∀ (H1 : Heap) (locs1 : List Loc), va_P G cl (vz_put ws is w1) H1 → va_D A0 (vz_put ws is w1) → va_S A0 H0 H1 locs1 → W p l e R s m args below meth c H1 locs1 cells slots Q (F0 m (pc + 3) ls (rv.toList ++ rest))) : W p l e R s m args below meth c H locs cells slots Q (F0 m pc ls st0) := by
  subst hst
  have hPc := vz_subP hP hC
  exact vz_call (va_runS (As := As) (rest := rest) S hM (va_cwS n S.2.2.2.2 hg rfl hR.1.1 hR.1.2 hd hR.2) ⟨vz_blind, fun U hU hW => ⟨rfl, by rw [hU]; exact hPc, va_K.moved hW.alike hK, (hD.sub is hn hC).weaken (fun _ _ _ _ => trivial)⟩⟩ rfl hl hsize rfl (lv_room hW) hdg hf) hP hD hS is hC h1 kk
/-- a method's end -/
theorem vz_iret {G : va_G} {cl : List vw_C} {w w1 : va_W} {rv : Option Value} {cc : ByteArray} {v : Int32} (hx : p.tables.exec = Jvm.exec) (hb : c.code = cc) (hr : meth.sig.returnType = some .int) (hlocks : meth.locks = false)
    (hdg : decode cc pc = .ok (.ireturn, 1)) (hS : va_S (vz_A w) s.heap H locs) (hv : some (.int v) = rv) (hP : va_P G cl w1 H) : W p l e R s m args below meth c H locs 0 0 (MQ below (vz_Q G cl w rv w1) args s 0 0 (vz_A w)) (F0 m pc ls [.int v]) := by
  subst hv
  exact W.iret (v := v) hx hb hr (fun t ht hW => ⟨rfl, by rw [ht]; exact hP, by rw [ht]; exact hS.1, fun q h1 h2 => by rw [ht]; exact hS.2.1 q h1 h2⟩) hS.2.2 hdg hlocks
theorem vz_zret {G : va_G} {cl : List vw_C} {w w1 : va_W} {rv : Option Value} {cc : ByteArray} {v : Int32} (hx : p.tables.exec = Jvm.exec) (hb : c.code = cc) (hr : meth.sig.returnType = some .boolean) (hn : narrow .boolean (.int v) = .int v) (hlocks : meth.locks = false)
    (hdg : decode cc pc = .ok (.ireturn, 1)) (hS : va_S (vz_A w) s.heap H locs) (hv : some (.int v) = rv) (hP : va_P G cl w1 H) : W p l e R s m args below meth c H locs 0 0 (MQ below (vz_Q G cl w rv w1) args s 0 0 (vz_A w)) (F0 m pc ls [.int v]) := by
  subst hv
  exact W.zret (v := v) hx hb hr hn (fun t ht hW => ⟨rfl, by rw [ht]; exact hP, by rw [ht]; exact hS.1, fun q h1 h2 => by rw [ht]; exact hS.2.1 q h1 h2⟩) hS.2.2 hdg hlocks
theorem vz_vret {G : va_G} {cl : List vw_C} {w w1 : va_W} {rv : Option Value} {cc : ByteArray} (hx : p.tables.exec = Jvm.exec) (hb : c.code = cc) (hr : meth.sig.returnType = none) (hlocks : meth.locks = false)
    (hdg : decode cc pc = .ok (.return_, 1)) (hS : va_S (vz_A w) s.heap H locs) (hv : none = rv) (hP : va_P G cl w1 H) : W p l e R s m args below meth c H locs 0 0 (MQ below (vz_Q G cl w rv w1) args s 0 0 (vz_A w)) (F0 m pc ls []) := by
  subst hv
  exact W.vret hx hb hr (fun t ht hW => ⟨rfl, by rw [ht]; exact hP, by rw [ht]; exact hS.1, fun q h1 h2 => by rw [ht]; exact hS.2.1 q h1 h2⟩) hS.2.2 hdg hlocks
end VZ2
/-- what holds in a method's body -/
def vz_E (p : Program) (s : State) (m : MethodId) (meth : Method) (c : Code) (cc : ByteArray) (maxL : Nat) (ret : Option FieldType) (own : String) (args : Array Value) : Prop :=
  p.tables.exec = Jvm.exec ∧ c.code = cc ∧ meth.sig.returnType = ret ∧ c.maxLocals = maxL ∧ s.vm.findClass own = some m.cls ∧ (∀ x ∈ vz_tbl, x.before args s = true) ∧ meth.locks = false
theorem vz_C.of {l : Launch} {G : va_G} {cl : List vw_C} {tys : List (ClassId × FieldType)} {y : MethodName} {cc : ByteArray} {maxL : Nat} {ret : Option FieldType} {rm : Room} {av : List Value} {w w1 : va_W} {rv : Option Value} (hy : plainName y.cls = true) (hn : (lg_sl av).length ≤ maxL)
    (body : ∀ (p : Program) (e : Env) (s : State) (m : MethodId) (below : List Frame) (meth : Method) (c : Code) (ls : Array Slot), vz_E p s m meth c cc maxL ret y.cls av.toArray → lv_has ls maxL (lv_args 0 av) → va_K G cl tys s → va_P G cl w s.heap → va_D (vz_A w) w → va_S (vz_A w) s.heap s.heap [] →
      W p l e rm s m av.toArray below meth c s.heap [] 0 0 (MQ below (vz_Q G cl w rv w1) av.toArray s 0 0 (vz_A w)) (F0 m 0 ls [])) : vz_C l G cl tys y (Cond.code y cc maxL ret :: vz_tbl) rm av w rv w1 := by
  refine Met.ofW (cc := cc) (maxL := maxL) (ret := ret) hy rfl ?_
  intro p e s m args below meth c s₁ B hml hv
  obtain ⟨rfl, hP, hK, hD⟩ := hv
  have hts := atoms_spec (ws := Cond.code y cc maxL ret :: vz_tbl) B.pre
  have hl := lv_entry av (n := maxL) hn
  rw [lg_entry_eq]
  exact body p e s m below meth c _ ⟨B.exec, B.bytes, B.returns, hml, findClass_of_methodNamed B.named, fun x hx => hts x (List.mem_cons_of_mem _ hx), B.notSynchronized⟩ hl hK hP ⟨hD.1, fun k q hk => ⟨k, q.2, hk⟩⟩ va_S.rf
theorem vz_reP {G : va_G} {cl : List vw_C} {w w' : va_W} {H : Heap} (h : w = w') (hP : va_P G cl w H) : va_P G cl w' H := h ▸ hP
theorem vz_reD {A : Nat → Prop} {w w' : va_W} (h : w = w') (hD : va_D A w) : va_D A w' := h ▸ hD
