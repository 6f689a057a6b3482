/-! constructors: contracts of methods that make cells -/
def vz_NQ (G : va_G) (cl : List vw_C) (w : va_W) (sz : Nat) (Z : va_W → Prop) : Array Value → State → Outcome → State → Prop := va_Qv Z (fun w1 t => va_P G cl w1 t.heap ∧ va_D (va_A w sz) w1) (va_A w sz)
def vz_NP (G : va_G) (cl : List vw_C) (tys : List (ClassId × FieldType)) (av : List Value) (w : va_W) (E : State → Prop) (sz : Nat) : Array Value → State → Prop := va_Pc av (fun U => U.heap.size = sz ∧ va_P G cl w U.heap ∧ va_K G cl tys U ∧ va_D (fun _ => True) w ∧ E U)
/-- from the world w the method ends in a world of which Z holds; mc cells of ms slots come -/
def vz_N (l : Launch) (G : va_G) (cl : List vw_C) (tys : List (ClassId × FieldType)) (y : MethodName) (ws : List Cond) (rm : Room) (av : List Value) (w : va_W) (mc ms : Nat) (E : State → Prop) (Z : va_W → Prop) : Prop :=
  ∀ sz : Nat, Met l y ws rm (vz_NP G cl tys av w E sz) (vz_NQ G cl w sz Z) mc ms (va_A w sz)
theorem vz_N.of {l : Launch} {G : va_G} {cl : List vw_C} {tys : List (ClassId × FieldType)} {y : MethodName} {cc : ByteArray} {maxL mc ms : Nat} {rm : Room} {av : List Value} {w : va_W} {E : State → Prop} {Z : va_W → Prop} (hy : plainName y.cls = true) (hn : (lg_sl av).length ≤ maxL)
    (body : ∀ (p : Program) (e : Env) (s : State) (m : MethodId) (below : List Frame) (meth : Method) (c : Code) (ls : Array Slot) (A : Nat → Prop), vz_E p s m meth c cc maxL none y.cls av.toArray → lv_has ls maxL (lv_args 0 av) → meth.name = y.name → va_K G cl tys s → E s → (∀ q : Nat, s.heap.size ≤ q → A q) → va_P G cl w s.heap → va_D A w → va_S A s.heap s.heap [] → A = va_A w s.heap.size →
      W p l e rm s m av.toArray below meth c s.heap [] 0 0 (MQ below (vz_NQ G cl w s.heap.size Z) av.toArray s mc ms A) (F0 m 0 ls [])) : vz_N l G cl tys y (Cond.code y cc maxL none :: vz_tbl) rm av w mc ms E Z := by
  intro sz
  refine Met.ofW (cc := cc) (maxL := maxL) (ret := none) hy rfl ?_
  intro p e s m args below meth c s₁ B hml hv
  obtain ⟨rfl, hsz, hP, hK, hD, hE⟩ := hv
  subst hsz
  have hts := atoms_spec (ws := Cond.code y cc maxL none :: vz_tbl) B.pre
  have hl := lv_entry av (n := maxL) hn
  rw [lg_entry_eq]
  exact body p e s m below meth c _ (va_A w s.heap.size) ⟨B.exec, B.bytes, B.returns, hml, findClass_of_methodNamed B.named, fun x hx => hts x (List.mem_cons_of_mem _ hx), B.notSynchronized⟩ hl (name_of_methodNamed B.named B.method).1 hK hE (fun q h => Or.inr h) hP hD.self va_S.rf rfl
theorem vz_goodN {y : MethodName} {b : ByteArray} {n : Nat} {ret : Option FieldType} (h : Cond.code y b n ret ∈ vz_tbl) : GoodIn vz_tbl (Cond.code y b n ret :: vz_tbl) := by
  have key : ∀ w ∈ Cond.code y b n ret :: vz_tbl, w ∈ vz_tbl := by
    intro w hw
    rcases List.mem_cons.mp hw with rfl | hw
    · exact h
    · exact hw
  exact fun w hw => ⟨key w hw, good_of_word (vz_gw (key w hw))⟩
theorem vz_nblind {G : va_G} {cl : List vw_C} {tys : List (ClassId × FieldType)} {av : List Value} {w : va_W} {E : State → Prop} {sz : Nat} (hE : ∀ (a : Array Value) (U : State) (g : JFrame) (mk : MethodId), E U → E (U.calling g mk a)) : FrameBlind (vz_NP G cl tys av w E sz) := fun a U g mk q => ⟨q.1, q.2.1, q.2.2.1, va_K.moved (u := U) (U := U.calling g mk a) (Vm.Alike.refl U.vm) q.2.2.2.1, q.2.2.2.2.1, hE a U g mk q.2.2.2.2.2⟩
theorem vz_raI {s : State} {cA cX : ClassId} (h1 : va_RA s cA .int) (h2 : va_RA s cX .int) : cA = cX := by
  simp only [va_RA] at h1 h2
  exact Option.some.inj (h1.symm.trans h2)
theorem vz_raZ {s : State} {cA cX : ClassId} (h1 : va_RA s cA .boolean) (h2 : va_RA s cX .boolean) : cA = cX := by
  simp only [va_RA] at h1 h2
  exact Option.some.inj (h1.symm.trans h2)
theorem vz_raQ {s : State} {C : String} {cA cX : ClassId} (h1 : va_RA s cA (.object C)) (h2 : va_RA s cX (.object C)) : cA = cX := by
  obtain ⟨_, _, _, _, _, h1⟩ := h1
  obtain ⟨_, _, _, _, _, h2⟩ := h2
  exact Option.some.inj (h1.symm.trans h2)
section VZN
variable {p : Program} {l : Launch} {e : Env} {R : Room} {s : State} {m : MethodId} {args : Array Value} {below : List Frame} {meth : Method} {c : Code} {H : Heap} {locs : List Loc} {cells slots : Nat} {Q : State → Prop}
variable {pc : Nat} {ls : Array Slot} {rest st0 : List Value} {a : Array Value} {A0 : Nat → Prop} {H0 : Heap}
theorem vz_nret {G : va_G} {cl : List vw_C} {w w1 : va_W} {Z : va_W → Prop} {cc : ByteArray} {mc ms : Nat} (hx : p.tables.exec = Jvm.exec) (hb : c.code = cc) (hr : meth.sig.returnType = none) (hlocks : meth.locks = false)
    (hdg : decode cc pc = .ok (.return_, 1)) (hS : va_S A0 s.heap H locs) (hAe : A0 = va_A w s.heap.size) (hZ : Z w1) (hP : va_P G cl w1 H) (hD : va_D A0 w1) (hc : cells = mc) (hs : slots = ms) : W p l e R s m args below meth c H locs cells slots (MQ below (vz_NQ G cl w s.heap.size Z) args s mc ms A0) (F0 m pc ls []) := by
  subst hc
  subst hs
  exact W.vret hx hb hr (fun t ht hW => ⟨⟨w1, rfl, hZ, by rw [ht]; exact hP, by rw [← hAe]; exact hD⟩, by rw [← hAe]; exact hS.F ht⟩) hS.2.2 hdg hlocks
theorem vz_newa {D : va_G} {cl : List vw_C} {tys : List (ClassId × FieldType)} {ws : va_W} {cc : ByteArray} (hexec : p.tables.exec = Jvm.exec) (hb : c.code = cc) {atype : ArrayType} (harr : (Cond.arrayClass (newarray.typeOf atype)).before args s = true) {ty : FieldType} (hty : newarray.typeOf atype = ty) (hK : va_K D cl tys s) (hP : va_P D cl ws H) (hD : va_D A0 ws) (hS : va_S A0 H0 H locs) (hA : ∀ q : Nat, H0.size ≤ q → A0 q)
    {n : Int32} {N' : Nat} {a0 : vp_A} (ha : ∀ cA : ClassId, vp_cell cA a0 = arrV cA N' (fun _ => defaultValue ty)) (hn : ¬ n < 0) (hN : n.toNatClampNeg = N') (hbytes : N' * componentBytes ty ≤ 536870912) (hcells : cells + 1 ≤ R.cells) (hslots : slots + N' ≤ R.slots) (hdg : decode cc pc = .ok (.newarray atype, 2)) (t0 : Nat) {cX : ClassId} (ht : tys[t0]? = some (cX, ty)) (hra : ∀ cA : ClassId, va_RA s cA ty → va_RA s cX ty → cA = cX)
    (kk : ∀ (q : Nat) (H1 : Heap), va_P D cl (ws ++ [(q, .inl (cX, a0))]) H1 → va_D A0 (ws ++ [(q, .inl (cX, a0))]) → va_S A0 H0 H1 locs → W p l e R s m args below meth c H1 locs (cells + 1) (slots + N') Q (F0 m (pc + 2) ls (.ref q :: rest))) : W p l e R s m args below meth c H locs cells slots Q (F0 m pc ls (.int n :: rest)) :=
  va_newa hexec hb harr hty hK hP hD hS hA ha hn hN hbytes hcells hslots hdg (fun q cA H1 hK1 hP1 hD1 hS1 => by
    have h1 : (tys ++ [(cA, ty)])[tys.length]? = some (cA, ty) := by rw [List.getElem?_append_right (Nat.le_refl _), Nat.sub_self]; rfl
    have e : cA = cX := hra cA (hK1.2 tys.length (cA, ty) h1).2 (hK.2 t0 (cX, ty) ht).2
    subst e
    exact kk q H1 hP1 hD1 hS1)
theorem vz_newq {D : va_G} {cl : List vw_C} {tys : List (ClassId × FieldType)} {ws : va_W} {cc : ByteArray} (hexec : p.tables.exec = Jvm.exec) (hb : c.code = cc) {own C : String} {index : Nat} (hown : s.vm.findClass own = some m.cls) (hclink : (Cond.classLink own index C).before args s = true) (hover : va_AO C s) (hK : va_K D cl tys s) (hP : va_P D cl ws H) (hD : va_D A0 ws) (hS : va_S A0 H0 H locs) (hA : ∀ q : Nat, H0.size ≤ q → A0 q)
    {n : Int32} {N' : Nat} (hn : ¬ n < 0) (hN : n.toNatClampNeg = N') (hbytes : N' * 4 ≤ 536870912) (hcells : cells + 1 ≤ R.cells) (hslots : slots + N' ≤ R.slots) (hdg : decode cc pc = .ok (.anewarray index, 3)) (t0 : Nat) {cX : ClassId} (ht : tys[t0]? = some (cX, .object C))
    (kk : ∀ (q : Nat) (H1 : Heap), va_P D cl (ws ++ [(q, .inl (cX, N', .inr (.inr (.inr (.inr (fun _ => none))))))]) H1 → va_D A0 (ws ++ [(q, .inl (cX, N', .inr (.inr (.inr (.inr (fun _ => none))))))]) → va_S A0 H0 H1 locs → W p l e R s m args below meth c H1 locs (cells + 1) (slots + N') Q (F0 m (pc + 3) ls (.ref q :: rest))) : W p l e R s m args below meth c H locs cells slots Q (F0 m pc ls (.int n :: rest)) :=
  va_newq hexec hb hown hclink hover hK hP hD hS hA hn hN hbytes hcells hslots hdg (fun q cA H1 hK1 hP1 hD1 hS1 => by
    have h1 : (tys ++ [(cA, FieldType.object C)])[tys.length]? = some (cA, .object C) := by rw [List.getElem?_append_right (Nat.le_refl _), Nat.sub_self]; rfl
    have e : cA = cX := vz_raQ (hK1.2 tys.length (cA, .object C) h1).2 (hK.2 t0 (cX, .object C) ht).2
    subst e
    exact kk q H1 hP1 hD1 hS1)
theorem vz_callN {G : va_G} {cl : List vw_C} {ws wc wr : va_W} {Z : va_W → Prop} {mc ms : Nat} (hr : va_Run p l e R s m args below meth c H locs cells slots mc ms (F0 m pc ls st0) rest (vz_NQ G cl wc H.size Z a) (va_A wc H.size)) (hP : va_P G cl ws H) (hD : va_D A0 ws) (hS : va_S A0 H0 H locs) (hA : ∀ q : Nat, H0.size ≤ q → A0 q) (isC isR : List Nat) (hC : isC.map (fun i => ws[i]?) = wc.map some) (hR : isR.map (fun i => ws[i]?) = wr.map some) (hn : va_nd isR = true) (hdis : ∀ i ∈ isR, i ∉ isC)
    (kk : ∀ (w1 : va_W) (H1 : Heap) (locs1 : List Loc), Z w1 → va_P G cl (wr ++ w1) H1 → va_D A0 (wr ++ w1) → va_S A0 H0 H1 locs1 → W p l e R s m args below meth c H1 locs1 (cells + mc) (slots + ms) Q (F0 m (pc + 3) ls rest)) : W p l e R s m args below meth c H locs cells slots Q (F0 m pc ls st0) := by
  have hF := va_free hD hS hA isC hC
  refine va_callv hr hS (fun q _ h => hF q h) hF (fun w1 t H1 locs1 ht hvm hz hB hz1 hk1 hS1 => ?_)
  obtain ⟨hP1, hD1⟩ := hB
  rw [ht] at hP1
  obtain ⟨hP2, hD2⟩ := va_join hP hD isC isR hC hR hn hdis hk1 hF hP1 hD1
  exact kk w1 H1 locs1 hz hP2 hD2 hS1
theorem vz_callI {G : va_G} {cl : List vw_C} {tys : List (ClassId × FieldType)} {ws wc wr : va_W} {y : MethodName} {b cc : ByteArray} {maxL nL idx mc ms : Nat} {rm : Room} {own : String} {b0 : Addr} {E : State → Prop} {Z : va_W → Prop}
    (S : CallFix p m c cc nL s args vz_tbl own) (hM : vz_N l G cl tys y (Cond.code y b maxL none :: vz_tbl) rm [.ref b0] wc mc ms E Z) (hcode : Cond.code y b maxL none ∈ vz_tbl) (hlink : Cond.methodLink own idx y ∈ vz_tbl) (hinst : Cond.instanceMethod y ∈ vz_tbl) (hini : Cond.initialized y.cls ∈ vz_tbl) (hnm : y.name = "<init>")
    (hd : y.cls ≠ "java/lang/invoke/MethodHandle" ∧ y.cls ≠ "java/lang/invoke/VarHandle" ∧ (parseMethodDescriptor y.desc).map (fun d => d.parameters.length) = some 0) (hR0 : (rm.cells = mc ∧ rm.slots = ms) ∧ rm.frames + 1 ≤ R.frames ∧ 8 + (maxL + 11) + rm.locals ≤ R.locals) (hK : va_K G cl tys s) (hP : va_P G cl ws H) (hD : va_D A0 ws) (hS : va_S A0 H0 H locs) (hA : ∀ q : Nat, H0.size ≤ q → A0 q)
    (hEb : ∀ (a : Array Value) (U : State) (g : JFrame) (mk : MethodId), E U → E (U.calling g mk a)) (hEw : ∀ U : State, s.WarmedH U.vm → E U) (isC isR : List Nat) (hn2 : va_nd isC = true) (hC : isC.map (fun i => ws[i]?) = wc.map some) (hR : isR.map (fun i => ws[i]?) = wr.map some) (hn : va_nd isR = true) (hdis : ∀ i ∈ isR, i ∉ isC)
    (hsize : ls.size = nL) (hst : st0 = .ref b0 :: rest) (hW : (rest.map fun v => v.category).sum ≤ 8) (hf : cells + mc ≤ R.cells ∧ slots + ms ≤ R.slots) (hdg : decode cc pc = .ok (.invokespecial idx, 3))
    (kk : ∀ (w1 : va_W) (H1 : Heap) (locs1 : List Loc), Z w1 → va_P G cl (wr ++ w1) H1 → va_D A0 (wr ++ w1) → va_S A0 H0 H1 locs1 → W p l e R s m args below meth c H1 locs1 (cells + mc) (slots + ms) Q (F0 m (pc + 3) ls rest)) : W p l e R s m args below meth c H locs cells slots Q (F0 m pc ls st0) := by
  subst hst
  have hPc := vz_subP hP hC
  have hDc := hD.sub isC hn2 hC
  exact vz_callN (va_runI (As := []) (rest := rest) S (hM H.size) (cwI 0 S.2.2.2.2 (vz_goodN hcode) rfl hR0.1.1 hR0.1.2 (S.2.2.2.2 _ hini) (S.2.2.2.2 _ hlink) (S.2.2.2.2 _ hinst) hnm hd hR0.2) ⟨vz_nblind hEb, fun U hU hW => ⟨rfl, by rw [hU], by rw [hU]; exact hPc, va_K.moved hW.alike hK, hDc.weaken (fun _ _ _ _ => trivial), hEw U hW⟩⟩ rfl rfl hsize rfl (lv_room hW) hdg hf) hP hD hS hA isC isR hC hR hn hdis kk
theorem vz_callIN {G : va_G} {cl : List vw_C} {tys : List (ClassId × FieldType)} {ws wc wr : va_W} {y : MethodName} {b cc : ByteArray} {maxL nL idx mc ms : Nat} {rm : Room} {own host : String} {b0 : Addr} {E : State → Prop} {Z : va_W → Prop}
    (S : CallFix p m c cc nL s args vz_tbl own) (hM : vz_N l G cl tys y (Cond.code y b maxL none :: vz_tbl) rm [.ref b0] wc mc ms E Z) (hcode : Cond.code y b maxL none ∈ vz_tbl) (hlink : va_Nw (.methodLinkNest own idx y host) s) (hinst : Cond.instanceMethod y ∈ vz_tbl) (hini : Cond.initialized y.cls ∈ vz_tbl) (hnm : y.name = "<init>")
    (hd : y.cls ≠ "java/lang/invoke/MethodHandle" ∧ y.cls ≠ "java/lang/invoke/VarHandle" ∧ (parseMethodDescriptor y.desc).map (fun d => d.parameters.length) = some 0) (hR0 : (rm.cells = mc ∧ rm.slots = ms) ∧ rm.frames + 1 ≤ R.frames ∧ 8 + (maxL + 11) + rm.locals ≤ R.locals) (hK : va_K G cl tys s) (hP : va_P G cl ws H) (hD : va_D A0 ws) (hS : va_S A0 H0 H locs) (hA : ∀ q : Nat, H0.size ≤ q → A0 q)
    (hEb : ∀ (a : Array Value) (U : State) (g : JFrame) (mk : MethodId), E U → E (U.calling g mk a)) (hEw : ∀ U : State, s.WarmedH U.vm → E U) (isC isR : List Nat) (hn2 : va_nd isC = true) (hC : isC.map (fun i => ws[i]?) = wc.map some) (hR : isR.map (fun i => ws[i]?) = wr.map some) (hn : va_nd isR = true) (hdis : ∀ i ∈ isR, i ∉ isC)
    (hsize : ls.size = nL) (hst : st0 = .ref b0 :: rest) (hW : (rest.map fun v => v.category).sum ≤ 8) (hf : cells + mc ≤ R.cells ∧ slots + ms ≤ R.slots) (hdg : decode cc pc = .ok (.invokespecial idx, 3))
    (kk : ∀ (w1 : va_W) (H1 : Heap) (locs1 : List Loc), Z w1 → va_P G cl (wr ++ w1) H1 → va_D A0 (wr ++ w1) → va_S A0 H0 H1 locs1 → W p l e R s m args below meth c H1 locs1 (cells + mc) (slots + ms) Q (F0 m (pc + 3) ls rest)) : W p l e R s m args below meth c H locs cells slots Q (F0 m pc ls st0) := by
  subst hst
  have hPc := vz_subP hP hC
  have hDc := hD.sub isC hn2 hC
  exact vz_callN (va_runIN (As := []) (rest := rest) S (hM H.size) ⟨va_cnB 0 S.2.2.2.2 (vz_goodN hcode) rfl hR0.1.1 hR0.1.2 hlink (S.2.2.2.2 _ hini) hd hR0.2, hnm, S.2.2.2.2 _ hinst⟩ ⟨vz_nblind hEb, fun U hU hW => ⟨rfl, by rw [hU], by rw [hU]; exact hPc, va_K.moved hW.alike hK, hDc.weaken (fun _ _ _ _ => trivial), hEw U hW⟩⟩ rfl rfl hsize rfl (lv_room hW) hdg hf) hP hD hS hA isC isR hC hR hn hdis kk
end VZN
