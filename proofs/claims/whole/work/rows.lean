section
-- ===== PART A: goes FIRST, ahead of the names: the tables' words, and 'selects' of the private methods out of them =====
/-- a private method of a class that the tables say can be made, by its rows of tables_1 -/
def lw_okq (q : MethodName × Nat) : Prop := (q.1.cls ≠ "java/lang/invoke/MethodHandle" ∧ q.1.cls ≠ "java/lang/invoke/VarHandle") ∧ Cond.instantiable q.1.cls q.2 ∈ tables_1 ∧ Cond.privateMethod q.1 ∈ tables_1 ∧ Cond.instanceMethod q.1 ∈ tables_1
theorem lw_p0 : lw_okq (⟨"BinTrees", "mayWrite", "(I)Z"⟩, 2) := ⟨⟨by decide +kernel, by decide +kernel⟩, List.mem_of_getElem? (i := 9) (by decide +kernel), List.mem_of_getElem? (i := 144) (by decide +kernel), List.mem_of_getElem? (i := 145) (by decide +kernel)⟩
theorem lw_p1 : lw_okq (⟨"BinTrees$Log", "putInOrder", "(I)V"⟩, 10) := ⟨⟨by decide +kernel, by decide +kernel⟩, List.mem_of_getElem? (i := 17) (by decide +kernel), List.mem_of_getElem? (i := 155) (by decide +kernel), List.mem_of_getElem? (i := 156) (by decide +kernel)⟩
theorem lw_p2 : lw_okq (⟨"BinTrees$Log", "isAhead", "(II)Z"⟩, 10) := ⟨⟨by decide +kernel, by decide +kernel⟩, List.mem_of_getElem? (i := 17) (by decide +kernel), List.mem_of_getElem? (i := 159) (by decide +kernel), List.mem_of_getElem? (i := 160) (by decide +kernel)⟩
theorem lw_p3 : lw_okq (⟨"BinTrees", "told", "(II)I"⟩, 2) := ⟨⟨by decide +kernel, by decide +kernel⟩, List.mem_of_getElem? (i := 9) (by decide +kernel), List.mem_of_getElem? (i := 163) (by decide +kernel), List.mem_of_getElem? (i := 164) (by decide +kernel)⟩
theorem lw_p4 : lw_okq (⟨"BinTrees$Person", "countFrom", "(LBinTrees$Log;I)I"⟩, 5) := ⟨⟨by decide +kernel, by decide +kernel⟩, List.mem_of_getElem? (i := 72) (by decide +kernel), List.mem_of_getElem? (i := 174) (by decide +kernel), List.mem_of_getElem? (i := 175) (by decide +kernel)⟩
theorem lw_p5 : lw_okq (⟨"BinTrees$Tree", "putAt", "(III)V"⟩, 5) := ⟨⟨by decide +kernel, by decide +kernel⟩, List.mem_of_getElem? (i := 78) (by decide +kernel), List.mem_of_getElem? (i := 190) (by decide +kernel), List.mem_of_getElem? (i := 191) (by decide +kernel)⟩
theorem lw_p6 : lw_okq (⟨"BinTrees$Tree", "mayLie", "(II)Z"⟩, 5) := ⟨⟨by decide +kernel, by decide +kernel⟩, List.mem_of_getElem? (i := 78) (by decide +kernel), List.mem_of_getElem? (i := 198) (by decide +kernel), List.mem_of_getElem? (i := 199) (by decide +kernel)⟩
theorem lw_p7 : lw_okq (⟨"BinTrees$Tree", "takeOut", "(I)V"⟩, 5) := ⟨⟨by decide +kernel, by decide +kernel⟩, List.mem_of_getElem? (i := 78) (by decide +kernel), List.mem_of_getElem? (i := 206) (by decide +kernel), List.mem_of_getElem? (i := 207) (by decide +kernel)⟩
theorem lw_p8 : lw_okq (⟨"BinTrees$Tree", "spotBehind", "(II)I"⟩, 5) := ⟨⟨by decide +kernel, by decide +kernel⟩, List.mem_of_getElem? (i := 78) (by decide +kernel), List.mem_of_getElem? (i := 210) (by decide +kernel), List.mem_of_getElem? (i := 211) (by decide +kernel)⟩
theorem lw_p9 : lw_okq (⟨"BinTrees", "isMade", "(I)Z"⟩, 2) := ⟨⟨by decide +kernel, by decide +kernel⟩, List.mem_of_getElem? (i := 9) (by decide +kernel), List.mem_of_getElem? (i := 232) (by decide +kernel), List.mem_of_getElem? (i := 233) (by decide +kernel)⟩
theorem lw_p10 : lw_okq (⟨"BinTrees", "isObject", "(I)Z"⟩, 2) := ⟨⟨by decide +kernel, by decide +kernel⟩, List.mem_of_getElem? (i := 9) (by decide +kernel), List.mem_of_getElem? (i := 236) (by decide +kernel), List.mem_of_getElem? (i := 237) (by decide +kernel)⟩
theorem lw_p11 : lw_okq (⟨"BinTrees", "isRow", "(I)Z"⟩, 2) := ⟨⟨by decide +kernel, by decide +kernel⟩, List.mem_of_getElem? (i := 9) (by decide +kernel), List.mem_of_getElem? (i := 248) (by decide +kernel), List.mem_of_getElem? (i := 249) (by decide +kernel)⟩
theorem lw_p12 : lw_okq (⟨"BinTreesModel", "add", "(IIIII)I"⟩, 26) := ⟨⟨by decide +kernel, by decide +kernel⟩, List.mem_of_getElem? (i := 315) (by decide +kernel), List.mem_of_getElem? (i := 410) (by decide +kernel), List.mem_of_getElem? (i := 411) (by decide +kernel)⟩
theorem lw_p13 : lw_okq (⟨"BinTreesModel", "learn", "(II)V"⟩, 26) := ⟨⟨by decide +kernel, by decide +kernel⟩, List.mem_of_getElem? (i := 315) (by decide +kernel), List.mem_of_getElem? (i := 414) (by decide +kernel), List.mem_of_getElem? (i := 415) (by decide +kernel)⟩
theorem lw_p14 : lw_okq (⟨"BinTreesModel", "costOf", "(II)I"⟩, 26) := ⟨⟨by decide +kernel, by decide +kernel⟩, List.mem_of_getElem? (i := 315) (by decide +kernel), List.mem_of_getElem? (i := 418) (by decide +kernel), List.mem_of_getElem? (i := 419) (by decide +kernel)⟩
theorem lw_p15 : lw_okq (⟨"BinTreesModel", "knowsRow", "(II)Z"⟩, 26) := ⟨⟨by decide +kernel, by decide +kernel⟩, List.mem_of_getElem? (i := 315) (by decide +kernel), List.mem_of_getElem? (i := 422) (by decide +kernel), List.mem_of_getElem? (i := 423) (by decide +kernel)⟩
def lw_privs_1 : List (MethodName × Nat) := [(⟨"BinTrees", "mayWrite", "(I)Z"⟩, 2), (⟨"BinTrees$Log", "putInOrder", "(I)V"⟩, 10), (⟨"BinTrees$Log", "isAhead", "(II)Z"⟩, 10), (⟨"BinTrees", "told", "(II)I"⟩, 2), (⟨"BinTrees$Person", "countFrom", "(LBinTrees$Log;I)I"⟩, 5), (⟨"BinTrees$Tree", "putAt", "(III)V"⟩, 5), (⟨"BinTrees$Tree", "mayLie", "(II)Z"⟩, 5), (⟨"BinTrees$Tree", "takeOut", "(I)V"⟩, 5), (⟨"BinTrees$Tree", "spotBehind", "(II)I"⟩, 5), (⟨"BinTrees", "isMade", "(I)Z"⟩, 2), (⟨"BinTrees", "isObject", "(I)Z"⟩, 2), (⟨"BinTrees", "isRow", "(I)Z"⟩, 2), (⟨"BinTreesModel", "add", "(IIIII)I"⟩, 26), (⟨"BinTreesModel", "learn", "(II)V"⟩, 26), (⟨"BinTreesModel", "costOf", "(II)I"⟩, 26), (⟨"BinTreesModel", "knowsRow", "(II)Z"⟩, 26)]
theorem lw_r1 : ∀ q ∈ lw_privs_1, lw_okq q := List.forall_mem_cons.mpr ⟨lw_p0, List.forall_mem_cons.mpr ⟨lw_p1, List.forall_mem_cons.mpr ⟨lw_p2, List.forall_mem_cons.mpr ⟨lw_p3, List.forall_mem_cons.mpr ⟨lw_p4, List.forall_mem_cons.mpr ⟨lw_p5, List.forall_mem_cons.mpr ⟨lw_p6, List.forall_mem_cons.mpr ⟨lw_p7, List.forall_mem_cons.mpr ⟨lw_p8, List.forall_mem_cons.mpr ⟨lw_p9, List.forall_mem_cons.mpr ⟨lw_p10, List.forall_mem_cons.mpr ⟨lw_p11, List.forall_mem_cons.mpr ⟨lw_p12, List.forall_mem_cons.mpr ⟨lw_p13, List.forall_mem_cons.mpr ⟨lw_p14, List.forall_mem_cons.mpr ⟨lw_p15, fun _ h => absurd h List.not_mem_nil⟩⟩⟩⟩⟩⟩⟩⟩⟩⟩⟩⟩⟩⟩⟩⟩
theorem lw_p16 : lw_okq (⟨"BinTreesModel", "isBefore", "(II)Z"⟩, 26) := ⟨⟨by decide +kernel, by decide +kernel⟩, List.mem_of_getElem? (i := 315) (by decide +kernel), List.mem_of_getElem? (i := 426) (by decide +kernel), List.mem_of_getElem? (i := 427) (by decide +kernel)⟩
theorem lw_p17 : lw_okq (⟨"BinTreesModel", "isUndone", "(II)Z"⟩, 26) := ⟨⟨by decide +kernel, by decide +kernel⟩, List.mem_of_getElem? (i := 315) (by decide +kernel), List.mem_of_getElem? (i := 442) (by decide +kernel), List.mem_of_getElem? (i := 443) (by decide +kernel)⟩
theorem lw_p18 : lw_okq (⟨"BinTreesModel", "findOrder", "(I)V"⟩, 26) := ⟨⟨by decide +kernel, by decide +kernel⟩, List.mem_of_getElem? (i := 315) (by decide +kernel), List.mem_of_getElem? (i := 454) (by decide +kernel), List.mem_of_getElem? (i := 455) (by decide +kernel)⟩
theorem lw_p19 : lw_okq (⟨"BinTreesModel", "isIn", "(II)Z"⟩, 26) := ⟨⟨by decide +kernel, by decide +kernel⟩, List.mem_of_getElem? (i := 315) (by decide +kernel), List.mem_of_getElem? (i := 466) (by decide +kernel), List.mem_of_getElem? (i := 467) (by decide +kernel)⟩
theorem lw_p20 : lw_okq (⟨"BinTreesModel", "build", "(I)V"⟩, 26) := ⟨⟨by decide +kernel, by decide +kernel⟩, List.mem_of_getElem? (i := 315) (by decide +kernel), List.mem_of_getElem? (i := 470) (by decide +kernel), List.mem_of_getElem? (i := 471) (by decide +kernel)⟩
theorem lw_p21 : lw_okq (⟨"BinTreesModel", "doRow", "(I)Z"⟩, 26) := ⟨⟨by decide +kernel, by decide +kernel⟩, List.mem_of_getElem? (i := 315) (by decide +kernel), List.mem_of_getElem? (i := 474) (by decide +kernel), List.mem_of_getElem? (i := 475) (by decide +kernel)⟩
theorem lw_p22 : lw_okq (⟨"BinTreesModel", "putAt", "(III)V"⟩, 26) := ⟨⟨by decide +kernel, by decide +kernel⟩, List.mem_of_getElem? (i := 315) (by decide +kernel), List.mem_of_getElem? (i := 478) (by decide +kernel), List.mem_of_getElem? (i := 479) (by decide +kernel)⟩
theorem lw_p23 : lw_okq (⟨"BinTreesModel", "doMove", "(I)Z"⟩, 26) := ⟨⟨by decide +kernel, by decide +kernel⟩, List.mem_of_getElem? (i := 315) (by decide +kernel), List.mem_of_getElem? (i := 482) (by decide +kernel), List.mem_of_getElem? (i := 483) (by decide +kernel)⟩
theorem lw_p24 : lw_okq (⟨"BinTreesModel", "mayGo", "(II)Z"⟩, 26) := ⟨⟨by decide +kernel, by decide +kernel⟩, List.mem_of_getElem? (i := 315) (by decide +kernel), List.mem_of_getElem? (i := 486) (by decide +kernel), List.mem_of_getElem? (i := 487) (by decide +kernel)⟩
theorem lw_p25 : lw_okq (⟨"BinTreesModel", "isBelow", "(II)Z"⟩, 26) := ⟨⟨by decide +kernel, by decide +kernel⟩, List.mem_of_getElem? (i := 315) (by decide +kernel), List.mem_of_getElem? (i := 490) (by decide +kernel), List.mem_of_getElem? (i := 491) (by decide +kernel)⟩
theorem lw_p26 : lw_okq (⟨"BinTreesModel", "top", "(I)I"⟩, 26) := ⟨⟨by decide +kernel, by decide +kernel⟩, List.mem_of_getElem? (i := 315) (by decide +kernel), List.mem_of_getElem? (i := 494) (by decide +kernel), List.mem_of_getElem? (i := 495) (by decide +kernel)⟩
theorem lw_p27 : lw_okq (⟨"BinTreesModel", "depth", "(I)I"⟩, 26) := ⟨⟨by decide +kernel, by decide +kernel⟩, List.mem_of_getElem? (i := 315) (by decide +kernel), List.mem_of_getElem? (i := 498) (by decide +kernel), List.mem_of_getElem? (i := 499) (by decide +kernel)⟩
theorem lw_p28 : lw_okq (⟨"BinTreesModel", "height", "(I)I"⟩, 26) := ⟨⟨by decide +kernel, by decide +kernel⟩, List.mem_of_getElem? (i := 315) (by decide +kernel), List.mem_of_getElem? (i := 502) (by decide +kernel), List.mem_of_getElem? (i := 503) (by decide +kernel)⟩
theorem lw_p29 : lw_okq (⟨"BinTreesModel", "takeOut", "(I)V"⟩, 26) := ⟨⟨by decide +kernel, by decide +kernel⟩, List.mem_of_getElem? (i := 315) (by decide +kernel), List.mem_of_getElem? (i := 506) (by decide +kernel), List.mem_of_getElem? (i := 507) (by decide +kernel)⟩
theorem lw_p30 : lw_okq (⟨"BinTreesModel", "placeOf", "(II)I"⟩, 26) := ⟨⟨by decide +kernel, by decide +kernel⟩, List.mem_of_getElem? (i := 315) (by decide +kernel), List.mem_of_getElem? (i := 510) (by decide +kernel), List.mem_of_getElem? (i := 511) (by decide +kernel)⟩
theorem lw_p31 : lw_okq (⟨"BinTreesModel", "doRemove", "(I)Z"⟩, 26) := ⟨⟨by decide +kernel, by decide +kernel⟩, List.mem_of_getElem? (i := 315) (by decide +kernel), List.mem_of_getElem? (i := 514) (by decide +kernel), List.mem_of_getElem? (i := 515) (by decide +kernel)⟩
def lw_privs_2 : List (MethodName × Nat) := [(⟨"BinTreesModel", "isBefore", "(II)Z"⟩, 26), (⟨"BinTreesModel", "isUndone", "(II)Z"⟩, 26), (⟨"BinTreesModel", "findOrder", "(I)V"⟩, 26), (⟨"BinTreesModel", "isIn", "(II)Z"⟩, 26), (⟨"BinTreesModel", "build", "(I)V"⟩, 26), (⟨"BinTreesModel", "doRow", "(I)Z"⟩, 26), (⟨"BinTreesModel", "putAt", "(III)V"⟩, 26), (⟨"BinTreesModel", "doMove", "(I)Z"⟩, 26), (⟨"BinTreesModel", "mayGo", "(II)Z"⟩, 26), (⟨"BinTreesModel", "isBelow", "(II)Z"⟩, 26), (⟨"BinTreesModel", "top", "(I)I"⟩, 26), (⟨"BinTreesModel", "depth", "(I)I"⟩, 26), (⟨"BinTreesModel", "height", "(I)I"⟩, 26), (⟨"BinTreesModel", "takeOut", "(I)V"⟩, 26), (⟨"BinTreesModel", "placeOf", "(II)I"⟩, 26), (⟨"BinTreesModel", "doRemove", "(I)Z"⟩, 26)]
theorem lw_r2 : ∀ q ∈ lw_privs_2, lw_okq q := List.forall_mem_cons.mpr ⟨lw_p16, List.forall_mem_cons.mpr ⟨lw_p17, List.forall_mem_cons.mpr ⟨lw_p18, List.forall_mem_cons.mpr ⟨lw_p19, List.forall_mem_cons.mpr ⟨lw_p20, List.forall_mem_cons.mpr ⟨lw_p21, List.forall_mem_cons.mpr ⟨lw_p22, List.forall_mem_cons.mpr ⟨lw_p23, List.forall_mem_cons.mpr ⟨lw_p24, List.forall_mem_cons.mpr ⟨lw_p25, List.forall_mem_cons.mpr ⟨lw_p26, List.forall_mem_cons.mpr ⟨lw_p27, List.forall_mem_cons.mpr ⟨lw_p28, List.forall_mem_cons.mpr ⟨lw_p29, List.forall_mem_cons.mpr ⟨lw_p30, List.forall_mem_cons.mpr ⟨lw_p31, fun _ h => absurd h List.not_mem_nil⟩⟩⟩⟩⟩⟩⟩⟩⟩⟩⟩⟩⟩⟩⟩⟩
theorem lw_p32 : lw_okq (⟨"BinTreesModel", "doRestore", "(I)Z"⟩, 26) := ⟨⟨by decide +kernel, by decide +kernel⟩, List.mem_of_getElem? (i := 315) (by decide +kernel), List.mem_of_getElem? (i := 518) (by decide +kernel), List.mem_of_getElem? (i := 519) (by decide +kernel)⟩
theorem lw_p33 : lw_okq (⟨"BinTreesModel", "parentOf", "(I)I"⟩, 26) := ⟨⟨by decide +kernel, by decide +kernel⟩, List.mem_of_getElem? (i := 315) (by decide +kernel), List.mem_of_getElem? (i := 522) (by decide +kernel), List.mem_of_getElem? (i := 523) (by decide +kernel)⟩
theorem lw_p34 : lw_okq (⟨"BinTreesModel", "knownRows", "(I)I"⟩, 26) := ⟨⟨by decide +kernel, by decide +kernel⟩, List.mem_of_getElem? (i := 315) (by decide +kernel), List.mem_of_getElem? (i := 546) (by decide +kernel), List.mem_of_getElem? (i := 547) (by decide +kernel)⟩
theorem lw_p35 : lw_okq (⟨"BinTreesModel", "thereOf", "(I)I"⟩, 26) := ⟨⟨by decide +kernel, by decide +kernel⟩, List.mem_of_getElem? (i := 315) (by decide +kernel), List.mem_of_getElem? (i := 550) (by decide +kernel), List.mem_of_getElem? (i := 551) (by decide +kernel)⟩
theorem lw_p36 : lw_okq (⟨"BinTreesModel", "binOf", "(I)I"⟩, 26) := ⟨⟨by decide +kernel, by decide +kernel⟩, List.mem_of_getElem? (i := 315) (by decide +kernel), List.mem_of_getElem? (i := 554) (by decide +kernel), List.mem_of_getElem? (i := 555) (by decide +kernel)⟩
def lw_privs_3 : List (MethodName × Nat) := [(⟨"BinTreesModel", "doRestore", "(I)Z"⟩, 26), (⟨"BinTreesModel", "parentOf", "(I)I"⟩, 26), (⟨"BinTreesModel", "knownRows", "(I)I"⟩, 26), (⟨"BinTreesModel", "thereOf", "(I)I"⟩, 26), (⟨"BinTreesModel", "binOf", "(I)I"⟩, 26)]
theorem lw_r3 : ∀ q ∈ lw_privs_3, lw_okq q := List.forall_mem_cons.mpr ⟨lw_p32, List.forall_mem_cons.mpr ⟨lw_p33, List.forall_mem_cons.mpr ⟨lw_p34, List.forall_mem_cons.mpr ⟨lw_p35, List.forall_mem_cons.mpr ⟨lw_p36, fun _ h => absurd h List.not_mem_nil⟩⟩⟩⟩⟩
def lw_privs : List (MethodName × Nat) := lw_privs_1 ++ (lw_privs_2 ++ (lw_privs_3))
def lw_tbl : List Cond := k2_sels lw_privs ++ tables_1
theorem lw_privs_ok : ∀ q ∈ lw_privs, lw_okq q := by
  show ∀ q ∈ lw_privs_1 ++ (lw_privs_2 ++ (lw_privs_3)), lw_okq q
  exact List.forall_mem_append.mpr ⟨lw_r1, List.forall_mem_append.mpr ⟨lw_r2, lw_r3⟩⟩
end
section
/-! The layer of this claim: contracts of methods that make no cell; the world keeps its places. -/
def vz_A (w : va_W) : Nat → Prop := fun q => ∃ (k : Nat) (e : va_E), w[k]? = some (q, e)
def vz_P (G : va_G) (cl : List vw_C) (tys : List (ClassId × FieldType)) (av : List Value) (w : va_W) : Array Value → State → Prop :=
  fun v U => v = av.toArray ∧ va_P G cl w U.heap ∧ va_K G cl tys U ∧ va_D (fun _ => True) w
def vz_Q (G : va_G) (cl : List vw_C) (w : va_W) (rv : Option Value) (w1 : va_W) : Array Value → State → Outcome → State → Prop :=
  fun _ st oc t => oc = .returned rv ∧ va_P G cl w1 t.heap ∧ st.heap.size ≤ t.heap.size ∧ ∀ q : Nat, q < st.heap.size → ¬ vz_A w q → t.heap[q]? = st.heap[q]?
/-- the contract: from the world w with the arguments av the method answers rv, and the world is w1 -/
def vz_C (l : Launch) (G : va_G) (cl : List vw_C) (tys : List (ClassId × FieldType)) (y : MethodName) (ws : List Cond) (rm : Room) (av : List Value) (w : va_W) (rv : Option Value) (w1 : va_W) : Prop :=
  Met l y ws rm (vz_P G cl tys av w) (vz_Q G cl w rv w1) 0 0 (vz_A w)
/-- cells put into places -/
def vz_put (ws : va_W) : List Nat → va_W → va_W
  | i :: is, c :: cs => vz_put (ws.set i c) is cs
  | _, _ => ws
theorem vz_put_get : ∀ (is : List Nat) (w1 ws : va_W) (k : Nat) (q : Nat × va_E), (vz_put ws is w1)[k]? = some q → (∃ j : Nat, is[j]? = some k ∧ w1[j]? = some q) ∨ ((w1.length = is.length → k ∉ is) ∧ ws[k]? = some q)
  | [], w1, ws, k, q, h => by
    have h' : ws[k]? = some q := by cases w1 <;> exact h
    exact Or.inr ⟨fun _ => List.not_mem_nil, h'⟩
  | i :: is, [], ws, k, q, h => Or.inr ⟨fun h => by simp at h, h⟩
  | i :: is, c :: cs, ws, k, q, h => by
    rcases vz_put_get is cs (ws.set i c) k q h with ⟨j, h1, h2⟩ | ⟨h1, h2⟩
    · exact Or.inl ⟨j + 1, by simpa using h1, by simpa using h2⟩
    · by_cases hk : k = i
      · subst hk
        have hl : k < ws.length := by
          have := (List.getElem?_eq_some_iff.mp h2).1
          simpa using this
        rw [List.getElem?_set_self hl] at h2
        exact Or.inl ⟨0, rfl, h2⟩
      · rw [List.getElem?_set_ne (Ne.symm hk)] at h2
        refine Or.inr ⟨fun hl hm => ?_, h2⟩
        have hl' : cs.length = is.length := by simpa using hl
        rcases List.mem_cons.mp hm with h3 | h3
        · exact hk h3
        · exact h1 hl' h3
theorem vz_at {ws w : va_W} {is : List Nat} (hs : is.map (fun i => ws[i]?) = w.map some) {k : Nat} {q : Nat × va_E} (hq : w[k]? = some q) : ∃ i : Nat, is[k]? = some i ∧ ws[i]? = some q := by
  have h1 : (is.map (fun i => ws[i]?))[k]? = some (some q) := by rw [hs, List.getElem?_map, hq]; rfl
  rw [List.getElem?_map] at h1
  cases hi : is[k]? with
  | none => rw [hi] at h1; cases h1
  | some i => rw [hi] at h1; exact ⟨i, rfl, Option.some.inj h1⟩
theorem vz_ta {ws w : va_W} {is : List Nat} (hs : is.map (fun i => ws[i]?) = w.map some) {k i : Nat} (hi : is[k]? = some i) : ∃ q, w[k]? = some q ∧ ws[i]? = some q := by
  have h1 : (w.map some)[k]? = some (ws[i]?) := by rw [← hs, List.getElem?_map, hi]; rfl
  rw [List.getElem?_map] at h1
  cases hq : w[k]? with
  | none => rw [hq] at h1; cases h1
  | some q => rw [hq] at h1; exact ⟨q, rfl, (Option.some.inj h1).symm⟩
/-- behind a call -/
theorem vz_after {A0 : Nat → Prop} {G : va_G} {cl : List vw_C} {ws wc w1 : va_W} {H H1 : Heap} (hP : va_P G cl ws H) (hD : va_D A0 ws) (is : List Nat) (hC : is.map (fun i => ws[i]?) = wc.map some) (h1 : w1.map Prod.fst = wc.map Prod.fst)
    (hk : ∀ q : Nat, q < H.size → ¬ vz_A wc q → H1[q]? = H[q]?) (hP1 : va_P G cl w1 H1) : va_P G cl (vz_put ws is w1) H1 ∧ va_D A0 (vz_put ws is w1) := by
  have hlen : w1.length = is.length := by
    have a := congrArg List.length h1
    have b := congrArg List.length hC
    simp at a b
    omega
  have adr : ∀ (k : Nat) (q : Nat × va_E), (vz_put ws is w1)[k]? = some q → ∃ q0, ws[k]? = some q0 ∧ q0.1 = q.1 := by
    intro k q hq
    rcases vz_put_get is w1 ws k q hq with ⟨j, g1, g2⟩ | ⟨g1, g2⟩
    · obtain ⟨q0, g3, g4⟩ := vz_ta hC g1
      refine ⟨q0, g4, ?_⟩
      have e1 : (w1.map Prod.fst)[j]? = some q.1 := by rw [List.getElem?_map, g2]; rfl
      rw [h1, List.getElem?_map, g3] at e1
      exact Option.some.inj e1
    · exact ⟨q, g2, rfl⟩
  refine ⟨fun k q hq => ?_, fun i j x y hx hy hxy => ?_, fun k q hq => ?_⟩
  · rcases vz_put_get is w1 ws k q hq with ⟨j, g1, g2⟩ | ⟨g1, g2⟩
    · exact hP1 j q g2
    · refine (hP k q g2).kept (hk q.1 ((hP k q g2).lt) ?_)
      rintro ⟨j, e, hj⟩
      obtain ⟨i, g3, g4⟩ := vz_at hC hj
      have := hD.1 k i q (q.1, e) g2 g4 rfl
      subst this
      exact g1 hlen (List.mem_of_getElem? g3)
  · obtain ⟨x0, g1, g2⟩ := adr i x hx
    obtain ⟨y0, g3, g4⟩ := adr j y hy
    exact hD.1 i j x0 y0 g1 g3 (g2.trans (hxy.trans g4.symm))
  · obtain ⟨q0, g1, g2⟩ := adr k q hq
    rw [← g2]
    exact hD.2 k q0 g1
section VZ
variable {p : Program} {l : Launch} {e : Env} {R : Room} {s : State} {m : MethodId} {args : Array Value} {below : List Frame} {meth : Method} {c : Code} {H : Heap} {locs : List Loc} {cells slots : Nat} {Q : State → Prop}
variable {pc : Nat} {ls : Array Slot} {rest st0 : List Value} {a : Array Value} {A0 : Nat → Prop} {H0 : Heap}
theorem vz_call {G : va_G} {cl : List vw_C} {ws wc w1 : va_W} {rv : Option Value} (hr : va_Run p l e R s m args below meth c H locs cells slots 0 0 (F0 m pc ls st0) rest (vz_Q G cl wc rv w1 a) (vz_A wc)) (hP : va_P G cl ws H) (hD : va_D A0 ws) (hS : va_S A0 H0 H locs) (is : List Nat) (hC : is.map (fun i => ws[i]?) = wc.map some) (h1 : w1.map Prod.fst = wc.map Prod.fst)
    (kk : ∀ (H1 : Heap) (locs1 : List Loc), va_P G cl (vz_put ws is w1) H1 → va_D A0 (vz_put ws is w1) → va_S A0 H0 H1 locs1 → W p l e R s m args below meth c H1 locs1 cells slots Q (F0 m (pc + 3) ls (rv.toList ++ rest))) : W p l e R s m args below meth c H locs cells slots Q (F0 m pc ls st0) := by
  intro T hT X
  obtain ⟨v, st₀, t, T', L, h0, X', hL, e1, e2, ⟨hv, hp, hz, hk⟩, st⟩ := hr T hT X
  cases hv
  rw [h0] at hz hk
  have hsub : ∀ q, vz_A wc q → A0 q := by
    rintro q ⟨k, e, hq⟩
    obtain ⟨i, -, g2⟩ := vz_at hC hq
    exact hD.2 i _ g2
  have hk' : ∀ q : Nat, q < H.size → ¬ vz_A wc q → T'.heap[q]? = H[q]? := fun q h1 h2 => by rw [e1]; exact hk q h1 h2
  obtain ⟨hP', hD'⟩ := vz_after hP hD is hC h1 hk' (by rw [e1]; exact hp)
  obtain ⟨t2, a1, b1⟩ := kk T'.heap (locs ++ L) hP' hD'
    ⟨Nat.le_trans hS.1 (by rw [e1]; exact hz), fun q g1 g2 => by rw [hk' q (Nat.lt_of_lt_of_le g1 hS.1) (fun z => g2 (hsub q z))]; exact hS.2.1 q g1 g2, fun q hq => by
      rcases List.mem_append.mp hq with h | h
      · exact hS.2.2 q h
      · exact hsub _ (hL q h)⟩ T' rfl X'
  exact ⟨t2, st t2 a1, b1⟩
end VZ
/-- the words that may be handed to a callee -/
def vz_tbl : List Cond := lw_tbl.filter goodWord
theorem vz_in {w : Cond} (h : w ∈ lw_tbl) (hg : goodWord w = true) : w ∈ vz_tbl := List.mem_filter.mpr ⟨h, hg⟩
theorem vz_lw {w : Cond} (h : w ∈ vz_tbl) : w ∈ lw_tbl := (List.mem_filter.mp h).1
theorem vz_gw {w : Cond} (h : w ∈ vz_tbl) : goodWord w = true := (List.mem_filter.mp h).2
theorem vz_goodV {own C : String} {idx n : Nat} {y : MethodName} {b : ByteArray} {ret : Option FieldType} (h1 : Cond.methodLink own idx y ∈ vz_tbl) (h2 : Cond.instanceMethod y ∈ vz_tbl) (h3 : Cond.selects C y y ∈ vz_tbl) (h4 : Cond.initialized C ∈ vz_tbl) (h5 : Cond.code y b n ret ∈ vz_tbl) : GoodIn vz_tbl (wsV own idx C y (Cond.code y b n ret :: vz_tbl)) := by
  have key : ∀ w ∈ wsV own idx C y (Cond.code y b n ret :: vz_tbl), w ∈ vz_tbl := by
    intro w hw
    simp only [wsV, List.cons_append, List.nil_append, List.mem_cons] at hw
    rcases hw with rfl | rfl | rfl | rfl | rfl | hw
    · exact h1
    · exact h2
    · exact h3
    · exact h4
    · exact h5
    · exact hw
  exact fun w hw => ⟨key w hw, good_of_word (vz_gw (key w hw))⟩
theorem vz_goodS {own : String} {idx n : Nat} {y : MethodName} {b : ByteArray} {ret : Option FieldType} (h1 : Cond.methodLink own idx y ∈ vz_tbl) (h2 : Cond.static y ∈ vz_tbl) (h4 : Cond.initialized y.cls ∈ vz_tbl) (h5 : Cond.code y b n ret ∈ vz_tbl) : GoodIn vz_tbl (va_wsS own idx y (Cond.code y b n ret :: vz_tbl)) := by
  have key : ∀ w ∈ va_wsS own idx y (Cond.code y b n ret :: vz_tbl), w ∈ vz_tbl := by
    intro w hw
    simp only [va_wsS, List.cons_append, List.nil_append, List.mem_cons] at hw
    rcases hw with rfl | rfl | rfl | rfl | hw
    · exact h1
    · exact h2
    · exact h4
    · exact h5
    · exact hw
  exact fun w hw => ⟨key w hw, good_of_word (vz_gw (key w hw))⟩
theorem vz_blind {G : va_G} {cl : List vw_C} {tys : List (ClassId × FieldType)} {av : List Value} {w : va_W} : FrameBlind (vz_P G cl tys av w) := fun a U g mk q => ⟨q.1, q.2.1, va_K.moved (u := U) (U := U.calling g mk a) (Vm.Alike.refl U.vm) q.2.2.1, q.2.2.2⟩
theorem vz_subP {G : va_G} {cl : List vw_C} {ws wc : va_W} {H : Heap} (hP : va_P G cl ws H) {is : List Nat} (hC : is.map (fun i => ws[i]?) = wc.map some) : va_P G cl wc H := fun k q hq => by
  obtain ⟨i, -, h⟩ := vz_at hC hq
  exact hP i q h
section VZ2
variable {p : Program} {l : Launch} {e : Env} {R : Room} {s : State} {m : MethodId} {args : Array Value} {below : List Frame} {meth : Method} {c : Code} {H : Heap} {locs : List Loc} {cells slots : Nat} {Q : State → Prop}
variable {pc : Nat} {ls : Array Slot} {rest st0 : List Value} {A0 : Nat → Prop} {H0 : Heap}
theorem vz_callV {G : va_G} {cl : List vw_C} {tys : List (ClassId × FieldType)} {ws wc w1 : va_W} {rv : Option Value} {y : MethodName} {b cc : ByteArray} {maxL nL n idx : Nat} {ret : Option FieldType} {rm : Room} {own C : String} {b0 : Addr} {As : List Value} {r : vw_C} {fs : List Value}
    (S : CallFix p m c cc nL s args vz_tbl own) (hM : vz_C l G cl tys y (Cond.code y b maxL ret :: vz_tbl) rm (.ref b0 :: As) wc rv w1) (hg : GoodIn vz_tbl (wsV own idx C y (Cond.code y b maxL ret :: vz_tbl)))
    (hd : y.cls = C ∧ y.cls ≠ "java/lang/invoke/MethodHandle" ∧ y.cls ≠ "java/lang/invoke/VarHandle" ∧ (parseMethodDescriptor y.desc).map (fun d => d.parameters.length) = some n)
    (hR : (rm.cells = 0 ∧ rm.slots = 0) ∧ rm.frames + 1 ≤ R.frames ∧ 8 + (maxL + 11) + rm.locals ≤ R.locals) (hK : va_K G cl tys s) (hP : va_P G cl ws H) (hD : va_D A0 ws) (hS : va_S A0 H0 H locs)
    (is : List Nat) (hn : va_nd is = true) (hC : is.map (fun i => ws[i]?) = wc.map some) (h1 : w1.map Prod.fst = wc.map Prod.fst) (q0 ci : Nat) (hc : cl[ci]? = some r) (hr : r.1 = C) (he : wc[q0]? = some (b0, .inr (ci, fs)))
    (hl : As.length = n) (hsize : ls.size = nL) (hst : st0 = As.reverse ++ .ref b0 :: rest) (hW : (rest.map fun v => v.category).sum ≤ 8) (hf : cells ≤ R.cells ∧ slots ≤ R.slots) (hdg : decode cc pc = .ok (.invokevirtual idx, 3))
    (kk : ∀ (H1 : Heap) (locs1 : List Loc), va_P G cl (vz_put ws is w1) H1 → va_D A0 (vz_put ws is w1) → va_S A0 H0 H1 locs1 → W p l e R s m args below meth c H1 locs1 cells slots Q (F0 m (pc + 3) ls (rv.toList ++ rest))) : W p l e R s m args below meth c H locs cells slots Q (F0 m pc ls st0) := by
  subst hst
  have hPc := vz_subP hP hC
  refine vz_call (va_runV (As := As) (rest := rest) S hM (cwV n S.2.2.2.2 hg rfl hR.1.1 hR.1.2 hd hR.2) ⟨vz_blind, ?_, fun U hU hW => ⟨rfl, by rw [hU]; exact hPc, va_K.moved hW.alike hK, (hD.sub is hn hC).weaken (fun _ _ _ _ => trivial)⟩⟩ rfl hl hsize rfl (lv_room hW) hdg hf) hP hD hS is hC h1 kk
  obtain ⟨cell, g1, g2, g3⟩ := va_recv hK hPc hc he
  exact ⟨cell, g1, g2, by rw [← hr]; exact g3⟩
theorem vz_callS {G : va_G} {cl : List vw_C} {tys : List (ClassId × FieldType)} {ws wc w1 : va_W} {rv : Option Value} {y : MethodName} {b cc : ByteArray} {maxL nL n idx : Nat} {ret : Option FieldType} {rm : Room} {own : String} {As : List Value}
    (S : CallFix p m c cc nL s args vz_tbl own) (hM : vz_C l G cl tys y (Cond.code y b maxL ret :: vz_tbl) rm As wc rv w1) (hg : GoodIn vz_tbl (va_wsS own idx y (Cond.code y b maxL ret :: vz_tbl)))
    (hd : y.cls ≠ "java/lang/invoke/MethodHandle" ∧ y.cls ≠ "java/lang/invoke/VarHandle" ∧ (parseMethodDescriptor y.desc).map (fun d => d.parameters.length) = some n)
    (hR : (rm.cells = 0 ∧ rm.slots = 0) ∧ rm.frames + 1 ≤ R.frames ∧ 8 + (maxL + 11) + rm.locals ≤ R.locals) (hK : va_K G cl tys s) (hP : va_P G cl ws H) (hD : va_D A0 ws) (hS : va_S A0 H0 H locs)
    (is : List Nat) (hn : va_nd is = true) (hC : is.map (fun i => ws[i]?) = wc.map some) (h1 : w1.map Prod.fst = wc.map Prod.fst)
    (hl : As.length = n) (hsize : ls.size = nL) (hst : st0 = As.reverse ++ rest) (hW : (rest.map fun v => v.category).sum ≤ 8) (hf : cells ≤ R.cells ∧ slots ≤ R.slots) (hdg : decode cc pc = .ok (.invokestatic idx, 3))
    (kk : ∀ (H1 : Heap) (locs1 : List Loc), va_P G cl (vz_put ws is w1) H1 → va_D A0 (vz_put ws is w1) → va_S A0 H0 H1 locs1 → W p l e R s m args below meth c H1 locs1 cells slots Q (F0 m (pc + 3) ls (rv.toList ++ rest))) : W p l e R s m args below meth c H locs cells slots Q (F0 m pc ls st0) := by
  subst hst
  have hPc := vz_subP hP hC
  exact vz_call (va_runS (As := As) (rest := rest) S hM (va_cwS n S.2.2.2.2 hg rfl hR.1.1 hR.1.2 hd hR.2) ⟨vz_blind, fun U hU hW => ⟨rfl, by rw [hU]; exact hPc, va_K.moved hW.alike hK, (hD.sub is hn hC).weaken (fun _ _ _ _ => trivial)⟩⟩ rfl hl hsize rfl (lv_room hW) hdg hf) hP hD hS is hC h1 kk
/-- a method's end -/
theorem vz_iret {G : va_G} {cl : List vw_C} {w w1 : va_W} {rv : Option Value} {cc : ByteArray} {v : Int32} (hx : p.tables.exec = Jvm.exec) (hb : c.code = cc) (hr : meth.sig.returnType = some .int) (hlocks : meth.locks = false)
    (hdg : decode cc pc = .ok (.ireturn, 1)) (hS : va_S (vz_A w) s.heap H locs) (hv : some (.int v) = rv) (hP : va_P G cl w1 H) : W p l e R s m args below meth c H locs 0 0 (MQ below (vz_Q G cl w rv w1) args s 0 0 (vz_A w)) (F0 m pc ls [.int v]) := by
  subst hv
  exact W.iret (v := v) hx hb hr (fun t ht hW => ⟨rfl, by rw [ht]; exact hP, by rw [ht]; exact hS.1, fun q h1 h2 => by rw [ht]; exact hS.2.1 q h1 h2⟩) hS.2.2 hdg hlocks
theorem vz_zret {G : va_G} {cl : List vw_C} {w w1 : va_W} {rv : Option Value} {cc : ByteArray} {v : Int32} (hx : p.tables.exec = Jvm.exec) (hb : c.code = cc) (hr : meth.sig.returnType = some .boolean) (hn : narrow .boolean (.int v) = .int v) (hlocks : meth.locks = false)
    (hdg : decode cc pc = .ok (.ireturn, 1)) (hS : va_S (vz_A w) s.heap H locs) (hv : some (.int v) = rv) (hP : va_P G cl w1 H) : W p l e R s m args below meth c H locs 0 0 (MQ below (vz_Q G cl w rv w1) args s 0 0 (vz_A w)) (F0 m pc ls [.int v]) := by
  subst hv
  exact W.zret (v := v) hx hb hr hn (fun t ht hW => ⟨rfl, by rw [ht]; exact hP, by rw [ht]; exact hS.1, fun q h1 h2 => by rw [ht]; exact hS.2.1 q h1 h2⟩) hS.2.2 hdg hlocks
theorem vz_vret {G : va_G} {cl : List vw_C} {w w1 : va_W} {rv : Option Value} {cc : ByteArray} (hx : p.tables.exec = Jvm.exec) (hb : c.code = cc) (hr : meth.sig.returnType = none) (hlocks : meth.locks = false)
    (hdg : decode cc pc = .ok (.return_, 1)) (hS : va_S (vz_A w) s.heap H locs) (hv : none = rv) (hP : va_P G cl w1 H) : W p l e R s m args below meth c H locs 0 0 (MQ below (vz_Q G cl w rv w1) args s 0 0 (vz_A w)) (F0 m pc ls []) := by
  subst hv
  exact W.vret hx hb hr (fun t ht hW => ⟨rfl, by rw [ht]; exact hP, by rw [ht]; exact hS.1, fun q h1 h2 => by rw [ht]; exact hS.2.1 q h1 h2⟩) hS.2.2 hdg hlocks
end VZ2
/-- what holds in a method's body -/
def vz_E (p : Program) (s : State) (m : MethodId) (meth : Method) (c : Code) (cc : ByteArray) (maxL : Nat) (ret : Option FieldType) (own : String) (args : Array Value) : Prop :=
  p.tables.exec = Jvm.exec ∧ c.code = cc ∧ meth.sig.returnType = ret ∧ c.maxLocals = maxL ∧ s.vm.findClass own = some m.cls ∧ (∀ x ∈ vz_tbl, x.before args s = true) ∧ meth.locks = false
theorem vz_C.of {l : Launch} {G : va_G} {cl : List vw_C} {tys : List (ClassId × FieldType)} {y : MethodName} {cc : ByteArray} {maxL : Nat} {ret : Option FieldType} {rm : Room} {av : List Value} {w w1 : va_W} {rv : Option Value} (hy : plainName y.cls = true) (hn : (lg_sl av).length ≤ maxL)
    (body : ∀ (p : Program) (e : Env) (s : State) (m : MethodId) (below : List Frame) (meth : Method) (c : Code) (ls : Array Slot), vz_E p s m meth c cc maxL ret y.cls av.toArray → lv_has ls maxL (lv_args 0 av) → va_K G cl tys s → va_P G cl w s.heap → va_D (vz_A w) w → va_S (vz_A w) s.heap s.heap [] →
      W p l e rm s m av.toArray below meth c s.heap [] 0 0 (MQ below (vz_Q G cl w rv w1) av.toArray s 0 0 (vz_A w)) (F0 m 0 ls [])) : vz_C l G cl tys y (Cond.code y cc maxL ret :: vz_tbl) rm av w rv w1 := by
  refine Met.ofW (cc := cc) (maxL := maxL) (ret := ret) hy rfl ?_
  intro p e s m args below meth c s₁ B hml hv
  obtain ⟨rfl, hP, hK, hD⟩ := hv
  have hts := atoms_spec (ws := Cond.code y cc maxL ret :: vz_tbl) B.pre
  have hl := lv_entry av (n := maxL) hn
  rw [lg_entry_eq]
  exact body p e s m below meth c _ ⟨B.exec, B.bytes, B.returns, hml, findClass_of_methodNamed B.named, fun x hx => hts x (List.mem_cons_of_mem _ hx), B.notSynchronized⟩ hl hK hP ⟨hD.1, fun k q hk => ⟨k, q.2, hk⟩⟩ va_S.rf
theorem vz_reP {G : va_G} {cl : List vw_C} {w w' : va_W} {H : Heap} (h : w = w') (hP : va_P G cl w H) : va_P G cl w' H := h ▸ hP
theorem vz_reD {A : Nat → Prop} {w w' : va_W} (h : w = w') (hD : va_D A w) : va_D A w' := h ▸ hD
end
section
abbrev R_T : String := "BinTrees$Tree"
def F_T : u_T := fun k => match k with
  | 0 => ("BinTrees$Tree", "there", "[Z", true)
  | 1 => ("BinTrees$Tree", "parent", "[I", true)
  | 2 => ("BinTrees$Tree", "wasLast", "[I", true)
  | 3 => ("BinTrees$Tree", "line", "[I", true)
  | _ => ("BinTrees$Tree", "size", "I", false)
def tt_T : Nat → FieldType := fun k => match k with
  | 0 => .array .boolean
  | 1 => .array .int
  | 2 => .array .int
  | 3 => .array .int
  | _ => .int
theorem n_T : ∀ a, a < 5 → ∀ b, b < 5 → a ≠ b → (F_T a).2.1 ≠ (F_T b).2.1 := by decide +kernel
theorem tt_T_ok : ∀ k, k < 5 → parseFieldDescriptor (F_T k).2.2.1 = some (tt_T k) := by decide +kernel
theorem i_T : ∀ w ∈ u_ws R_T F_T 5, w ∈ vz_tbl := by decide +kernel
abbrev R_L : String := "BinTrees$Log"
def F_L : u_T := fun k => match k with
  | 0 => ("BinTrees$Log", "sort", "[I", true)
  | 1 => ("BinTrees$Log", "node", "[I", true)
  | 2 => ("BinTrees$Log", "time", "[I", true)
  | 3 => ("BinTrees$Log", "subject", "[I", true)
  | 4 => ("BinTrees$Log", "parent", "[I", true)
  | 5 => ("BinTrees$Log", "behind", "[I", true)
  | 6 => ("BinTrees$Log", "undoing", "[I", true)
  | 7 => ("BinTrees$Log", "ordered", "[I", true)
  | 8 => ("BinTrees$Log", "count", "I", false)
  | _ => ("BinTrees$Log", "made", "I", false)
def tt_L : Nat → FieldType := fun k => match k with
  | 0 => .array .int
  | 1 => .array .int
  | 2 => .array .int
  | 3 => .array .int
  | 4 => .array .int
  | 5 => .array .int
  | 6 => .array .int
  | 7 => .array .int
  | 8 => .int
  | _ => .int
theorem n_L : ∀ a, a < 10 → ∀ b, b < 10 → a ≠ b → (F_L a).2.1 ≠ (F_L b).2.1 := by decide +kernel
theorem tt_L_ok : ∀ k, k < 10 → parseFieldDescriptor (F_L k).2.2.1 = some (tt_L k) := by decide +kernel
theorem i_L : ∀ w ∈ u_ws R_L F_L 10, w ∈ vz_tbl := by decide +kernel
abbrev R_P : String := "BinTrees$Person"
def F_P : u_T := fun k => match k with
  | 0 => ("BinTrees$Person", "takes", "[I", true)
  | 1 => ("BinTrees$Person", "tree", "LBinTrees$Tree;", true)
  | 2 => ("BinTrees$Person", "known", "I", false)
  | 3 => ("BinTrees$Person", "time", "I", false)
  | _ => ("BinTrees$Person", "lastCost", "I", false)
def tt_P : Nat → FieldType := fun k => match k with
  | 0 => .array .int
  | 1 => .object "BinTrees$Tree"
  | 2 => .int
  | 3 => .int
  | _ => .int
theorem n_P : ∀ a, a < 5 → ∀ b, b < 5 → a ≠ b → (F_P a).2.1 ≠ (F_P b).2.1 := by decide +kernel
theorem tt_P_ok : ∀ k, k < 5 → parseFieldDescriptor (F_P k).2.2.1 = some (tt_P k) := by decide +kernel
theorem i_P : ∀ w ∈ u_ws R_P F_P 5, w ∈ vz_tbl := by decide +kernel
abbrev R_B : String := "BinTrees"
def F_B : u_T := fun k => match k with
  | 0 => ("BinTrees", "log", "LBinTrees$Log;", true)
  | _ => ("BinTrees", "people", "[LBinTrees$Person;", true)
def tt_B : Nat → FieldType := fun k => match k with
  | 0 => .object "BinTrees$Log"
  | _ => .array (.object "BinTrees$Person")
theorem n_B : ∀ a, a < 2 → ∀ b, b < 2 → a ≠ b → (F_B a).2.1 ≠ (F_B b).2.1 := by decide +kernel
theorem tt_B_ok : ∀ k, k < 2 → parseFieldDescriptor (F_B k).2.2.1 = some (tt_B k) := by decide +kernel
theorem i_B : ∀ w ∈ u_ws R_B F_B 2, w ∈ vz_tbl := by decide +kernel
abbrev R_M : String := "BinTreesModel"
def F_M : u_T := fun k => match k with
  | 0 => ("BinTreesModel", "thrown", "I", false)
  | 1 => ("BinTreesModel", "rows", "I", false)
  | 2 => ("BinTreesModel", "sort", "[I", true)
  | 3 => ("BinTreesModel", "who", "[I", true)
  | 4 => ("BinTreesModel", "time", "[I", true)
  | 5 => ("BinTreesModel", "what", "[I", true)
  | 6 => ("BinTreesModel", "to", "[I", true)
  | 7 => ("BinTreesModel", "behind", "[I", true)
  | 8 => ("BinTreesModel", "objects", "I", false)
  | 9 => ("BinTreesModel", "knows", "[Z", true)
  | 10 => ("BinTreesModel", "clock", "[I", true)
  | 11 => ("BinTreesModel", "cost", "[I", true)
  | 12 => ("BinTreesModel", "builtFor", "I", false)
  | 13 => ("BinTreesModel", "there", "[Z", true)
  | 14 => ("BinTreesModel", "parent", "[I", true)
  | 15 => ("BinTreesModel", "last", "[I", true)
  | 16 => ("BinTreesModel", "kids", "[I", true)
  | 17 => ("BinTreesModel", "kid", "[I", true)
  | 18 => ("BinTreesModel", "how", "[I", true)
  | 19 => ("BinTreesModel", "orders", "I", false)
  | 20 => ("BinTreesModel", "order", "[I", true)
  | 21 => ("BinTreesModel", "others", "I", false)
  | 22 => ("BinTreesModel", "other", "[I", true)
  | 23 => ("BinTreesModel", "oldKids", "[I", true)
  | 24 => ("BinTreesModel", "oldKid", "[I", true)
  | _ => ("BinTreesModel", "oldThere", "[Z", true)
def tt_M : Nat → FieldType := fun k => match k with
  | 0 => .int
  | 1 => .int
  | 2 => .array .int
  | 3 => .array .int
  | 4 => .array .int
  | 5 => .array .int
  | 6 => .array .int
  | 7 => .array .int
  | 8 => .int
  | 9 => .array .boolean
  | 10 => .array .int
  | 11 => .array .int
  | 12 => .int
  | 13 => .array .boolean
  | 14 => .array .int
  | 15 => .array .int
  | 16 => .array .int
  | 17 => .array .int
  | 18 => .array .int
  | 19 => .int
  | 20 => .array .int
  | 21 => .int
  | 22 => .array .int
  | 23 => .array .int
  | 24 => .array .int
  | _ => .array .boolean
theorem n_M : ∀ a, a < 26 → ∀ b, b < 26 → a ≠ b → (F_M a).2.1 ≠ (F_M b).2.1 := by decide +kernel
theorem tt_M_ok : ∀ k, k < 26 → parseFieldDescriptor (F_M k).2.2.1 = some (tt_M k) := by decide +kernel
theorem i_M : ∀ w ∈ u_ws R_M F_M 26, w ∈ vz_tbl := by decide +kernel
abbrev classes : List vw_C := [(R_T, F_T, 5), (R_L, F_L, 10), (R_P, F_P, 5), (R_B, F_B, 2), (R_M, F_M, 26)]
abbrev b_B_init : ByteArray := prog_1_method_1_code
def y_B_init : MethodName := ⟨"BinTrees", "<init>", "()V"⟩
theorem hd_B_init : y_B_init.cls ≠ "java/lang/invoke/MethodHandle" ∧ y_B_init.cls ≠ "java/lang/invoke/VarHandle" ∧ (parseMethodDescriptor y_B_init.desc).map (fun d => d.parameters.length) = some 0 := by decide +kernel
abbrev b_L_init : ByteArray := prog_2_method_1_code
def y_L_init : MethodName := ⟨"BinTrees$Log", "<init>", "()V"⟩
theorem hd_L_init : y_L_init.cls ≠ "java/lang/invoke/MethodHandle" ∧ y_L_init.cls ≠ "java/lang/invoke/VarHandle" ∧ (parseMethodDescriptor y_L_init.desc).map (fun d => d.parameters.length) = some 0 := by decide +kernel
abbrev b_P_init : ByteArray := prog_3_method_1_code
def y_P_init : MethodName := ⟨"BinTrees$Person", "<init>", "()V"⟩
theorem hd_P_init : y_P_init.cls ≠ "java/lang/invoke/MethodHandle" ∧ y_P_init.cls ≠ "java/lang/invoke/VarHandle" ∧ (parseMethodDescriptor y_P_init.desc).map (fun d => d.parameters.length) = some 0 := by decide +kernel
abbrev b_T_init : ByteArray := prog_4_method_1_code
def y_T_init : MethodName := ⟨"BinTrees$Tree", "<init>", "()V"⟩
theorem hd_T_init : y_T_init.cls ≠ "java/lang/invoke/MethodHandle" ∧ y_T_init.cls ≠ "java/lang/invoke/VarHandle" ∧ (parseMethodDescriptor y_T_init.desc).map (fun d => d.parameters.length) = some 0 := by decide +kernel
abbrev b_T_startAnew : ByteArray := prog_4_method_2_code
def y_T_startAnew : MethodName := ⟨"BinTrees$Tree", "startAnew", "()V"⟩
theorem hd_T_startAnew : y_T_startAnew.cls ≠ "java/lang/invoke/MethodHandle" ∧ y_T_startAnew.cls ≠ "java/lang/invoke/VarHandle" ∧ (parseMethodDescriptor y_T_startAnew.desc).map (fun d => d.parameters.length) = some 0 := by decide +kernel
abbrev b_A_fill : ByteArray := prog_8_method_111_code
def y_A_fill : MethodName := ⟨"java/util/Arrays", "fill", "([ZZ)V"⟩
theorem hd_A_fill : y_A_fill.cls ≠ "java/lang/invoke/MethodHandle" ∧ y_A_fill.cls ≠ "java/lang/invoke/VarHandle" ∧ (parseMethodDescriptor y_A_fill.desc).map (fun d => d.parameters.length) = some 2 := by decide +kernel
abbrev b_B_make : ByteArray := prog_1_method_2_code
def y_B_make : MethodName := ⟨"BinTrees", "make", "(I)I"⟩
theorem hd_B_make : y_B_make.cls ≠ "java/lang/invoke/MethodHandle" ∧ y_B_make.cls ≠ "java/lang/invoke/VarHandle" ∧ (parseMethodDescriptor y_B_make.desc).map (fun d => d.parameters.length) = some 1 := by decide +kernel
abbrev b_B_mayWrite : ByteArray := prog_1_method_19_code
def y_B_mayWrite : MethodName := ⟨"BinTrees", "mayWrite", "(I)Z"⟩
theorem hd_B_mayWrite : y_B_mayWrite.cls ≠ "java/lang/invoke/MethodHandle" ∧ y_B_mayWrite.cls ≠ "java/lang/invoke/VarHandle" ∧ (parseMethodDescriptor y_B_mayWrite.desc).map (fun d => d.parameters.length) = some 1 := by decide +kernel
abbrev b_B_isNode : ByteArray := prog_1_method_15_code
def y_B_isNode : MethodName := ⟨"BinTrees", "isNode", "(I)Z"⟩
theorem hd_B_isNode : y_B_isNode.cls ≠ "java/lang/invoke/MethodHandle" ∧ y_B_isNode.cls ≠ "java/lang/invoke/VarHandle" ∧ (parseMethodDescriptor y_B_isNode.desc).map (fun d => d.parameters.length) = some 1 := by decide +kernel
abbrev b_L_add : ByteArray := prog_2_method_2_code
def y_L_add : MethodName := ⟨"BinTrees$Log", "add", "(IIIIII)I"⟩
theorem hd_L_add : y_L_add.cls ≠ "java/lang/invoke/MethodHandle" ∧ y_L_add.cls ≠ "java/lang/invoke/VarHandle" ∧ (parseMethodDescriptor y_L_add.desc).map (fun d => d.parameters.length) = some 6 := by decide +kernel
abbrev b_L_putInOrder : ByteArray := prog_2_method_3_code
def y_L_putInOrder : MethodName := ⟨"BinTrees$Log", "putInOrder", "(I)V"⟩
theorem hd_L_putInOrder : y_L_putInOrder.cls ≠ "java/lang/invoke/MethodHandle" ∧ y_L_putInOrder.cls ≠ "java/lang/invoke/VarHandle" ∧ (parseMethodDescriptor y_L_putInOrder.desc).map (fun d => d.parameters.length) = some 1 := by decide +kernel
abbrev b_L_isAhead : ByteArray := prog_2_method_4_code
def y_L_isAhead : MethodName := ⟨"BinTrees$Log", "isAhead", "(II)Z"⟩
theorem hd_L_isAhead : y_L_isAhead.cls ≠ "java/lang/invoke/MethodHandle" ∧ y_L_isAhead.cls ≠ "java/lang/invoke/VarHandle" ∧ (parseMethodDescriptor y_L_isAhead.desc).map (fun d => d.parameters.length) = some 2 := by decide +kernel
abbrev b_B_told : ByteArray := prog_1_method_20_code
def y_B_told : MethodName := ⟨"BinTrees", "told", "(II)I"⟩
theorem hd_B_told : y_B_told.cls ≠ "java/lang/invoke/MethodHandle" ∧ y_B_told.cls ≠ "java/lang/invoke/VarHandle" ∧ (parseMethodDescriptor y_B_told.desc).map (fun d => d.parameters.length) = some 2 := by decide +kernel
abbrev b_P_learn : ByteArray := prog_3_method_3_code
def y_P_learn : MethodName := ⟨"BinTrees$Person", "learn", "(LBinTrees$Log;I)V"⟩
theorem hd_P_learn : y_P_learn.cls ≠ "java/lang/invoke/MethodHandle" ∧ y_P_learn.cls ≠ "java/lang/invoke/VarHandle" ∧ (parseMethodDescriptor y_P_learn.desc).map (fun d => d.parameters.length) = some 2 := by decide +kernel
abbrev b_Math_max : ByteArray := prog_7_method_65_code
def y_Math_max : MethodName := ⟨"java/lang/Math", "max", "(II)I"⟩
theorem hd_Math_max : y_Math_max.cls ≠ "java/lang/invoke/MethodHandle" ∧ y_Math_max.cls ≠ "java/lang/invoke/VarHandle" ∧ (parseMethodDescriptor y_Math_max.desc).map (fun d => d.parameters.length) = some 2 := by decide +kernel
abbrev b_P_countFrom : ByteArray := prog_3_method_4_code
def y_P_countFrom : MethodName := ⟨"BinTrees$Person", "countFrom", "(LBinTrees$Log;I)I"⟩
theorem hd_P_countFrom : y_P_countFrom.cls ≠ "java/lang/invoke/MethodHandle" ∧ y_P_countFrom.cls ≠ "java/lang/invoke/VarHandle" ∧ (parseMethodDescriptor y_P_countFrom.desc).map (fun d => d.parameters.length) = some 2 := by decide +kernel
abbrev b_P_knows : ByteArray := prog_3_method_2_code
def y_P_knows : MethodName := ⟨"BinTrees$Person", "knows", "(I)Z"⟩
theorem hd_P_knows : y_P_knows.cls ≠ "java/lang/invoke/MethodHandle" ∧ y_P_knows.cls ≠ "java/lang/invoke/VarHandle" ∧ (parseMethodDescriptor y_P_knows.desc).map (fun d => d.parameters.length) = some 1 := by decide +kernel
abbrev b_P_judge : ByteArray := prog_3_method_6_code
def y_P_judge : MethodName := ⟨"BinTrees$Person", "judge", "(LBinTrees$Log;I)V"⟩
theorem hd_P_judge : y_P_judge.cls ≠ "java/lang/invoke/MethodHandle" ∧ y_P_judge.cls ≠ "java/lang/invoke/VarHandle" ∧ (parseMethodDescriptor y_P_judge.desc).map (fun d => d.parameters.length) = some 2 := by decide +kernel
abbrev b_T_bringIn : ByteArray := prog_4_method_3_code
def y_T_bringIn : MethodName := ⟨"BinTrees$Tree", "bringIn", "(I)V"⟩
theorem hd_T_bringIn : y_T_bringIn.cls ≠ "java/lang/invoke/MethodHandle" ∧ y_T_bringIn.cls ≠ "java/lang/invoke/VarHandle" ∧ (parseMethodDescriptor y_T_bringIn.desc).map (fun d => d.parameters.length) = some 1 := by decide +kernel
abbrev b_T_putAt : ByteArray := prog_4_method_11_code
def y_T_putAt : MethodName := ⟨"BinTrees$Tree", "putAt", "(III)V"⟩
theorem hd_T_putAt : y_T_putAt.cls ≠ "java/lang/invoke/MethodHandle" ∧ y_T_putAt.cls ≠ "java/lang/invoke/VarHandle" ∧ (parseMethodDescriptor y_T_putAt.desc).map (fun d => d.parameters.length) = some 3 := by decide +kernel
abbrev b_T_moveTo : ByteArray := prog_4_method_4_code
def y_T_moveTo : MethodName := ⟨"BinTrees$Tree", "moveTo", "(III)Z"⟩
theorem hd_T_moveTo : y_T_moveTo.cls ≠ "java/lang/invoke/MethodHandle" ∧ y_T_moveTo.cls ≠ "java/lang/invoke/VarHandle" ∧ (parseMethodDescriptor y_T_moveTo.desc).map (fun d => d.parameters.length) = some 3 := by decide +kernel
abbrev b_T_mayLie : ByteArray := prog_4_method_7_code
def y_T_mayLie : MethodName := ⟨"BinTrees$Tree", "mayLie", "(II)Z"⟩
theorem hd_T_mayLie : y_T_mayLie.cls ≠ "java/lang/invoke/MethodHandle" ∧ y_T_mayLie.cls ≠ "java/lang/invoke/VarHandle" ∧ (parseMethodDescriptor y_T_mayLie.desc).map (fun d => d.parameters.length) = some 2 := by decide +kernel
abbrev b_T_stepsUp : ByteArray := prog_4_method_8_code
def y_T_stepsUp : MethodName := ⟨"BinTrees$Tree", "stepsUp", "(II)I"⟩
theorem hd_T_stepsUp : y_T_stepsUp.cls ≠ "java/lang/invoke/MethodHandle" ∧ y_T_stepsUp.cls ≠ "java/lang/invoke/VarHandle" ∧ (parseMethodDescriptor y_T_stepsUp.desc).map (fun d => d.parameters.length) = some 2 := by decide +kernel
abbrev b_T_takeOut : ByteArray := prog_4_method_10_code
def y_T_takeOut : MethodName := ⟨"BinTrees$Tree", "takeOut", "(I)V"⟩
theorem hd_T_takeOut : y_T_takeOut.cls ≠ "java/lang/invoke/MethodHandle" ∧ y_T_takeOut.cls ≠ "java/lang/invoke/VarHandle" ∧ (parseMethodDescriptor y_T_takeOut.desc).map (fun d => d.parameters.length) = some 1 := by decide +kernel
abbrev b_T_spotBehind : ByteArray := prog_4_method_12_code
def y_T_spotBehind : MethodName := ⟨"BinTrees$Tree", "spotBehind", "(II)I"⟩
theorem hd_T_spotBehind : y_T_spotBehind.cls ≠ "java/lang/invoke/MethodHandle" ∧ y_T_spotBehind.cls ≠ "java/lang/invoke/VarHandle" ∧ (parseMethodDescriptor y_T_spotBehind.desc).map (fun d => d.parameters.length) = some 2 := by decide +kernel
abbrev b_T_throwAway : ByteArray := prog_4_method_5_code
def y_T_throwAway : MethodName := ⟨"BinTrees$Tree", "throwAway", "(I)Z"⟩
theorem hd_T_throwAway : y_T_throwAway.cls ≠ "java/lang/invoke/MethodHandle" ∧ y_T_throwAway.cls ≠ "java/lang/invoke/VarHandle" ∧ (parseMethodDescriptor y_T_throwAway.desc).map (fun d => d.parameters.length) = some 1 := by decide +kernel
abbrev b_T_bringBack : ByteArray := prog_4_method_6_code
def y_T_bringBack : MethodName := ⟨"BinTrees$Tree", "bringBack", "(I)Z"⟩
theorem hd_T_bringBack : y_T_bringBack.cls ≠ "java/lang/invoke/MethodHandle" ∧ y_T_bringBack.cls ≠ "java/lang/invoke/VarHandle" ∧ (parseMethodDescriptor y_T_bringBack.desc).map (fun d => d.parameters.length) = some 1 := by decide +kernel
abbrev b_P_judgeAll : ByteArray := prog_3_method_5_code
def y_P_judgeAll : MethodName := ⟨"BinTrees$Person", "judgeAll", "(LBinTrees$Log;)V"⟩
theorem hd_P_judgeAll : y_P_judgeAll.cls ≠ "java/lang/invoke/MethodHandle" ∧ y_P_judgeAll.cls ≠ "java/lang/invoke/VarHandle" ∧ (parseMethodDescriptor y_P_judgeAll.desc).map (fun d => d.parameters.length) = some 1 := by decide +kernel
abbrev b_B_move : ByteArray := prog_1_method_3_code
def y_B_move : MethodName := ⟨"BinTrees", "move", "(IIII)I"⟩
theorem hd_B_move : y_B_move.cls ≠ "java/lang/invoke/MethodHandle" ∧ y_B_move.cls ≠ "java/lang/invoke/VarHandle" ∧ (parseMethodDescriptor y_B_move.desc).map (fun d => d.parameters.length) = some 4 := by decide +kernel
abbrev b_B_isMade : ByteArray := prog_1_method_17_code
def y_B_isMade : MethodName := ⟨"BinTrees", "isMade", "(I)Z"⟩
theorem hd_B_isMade : y_B_isMade.cls ≠ "java/lang/invoke/MethodHandle" ∧ y_B_isMade.cls ≠ "java/lang/invoke/VarHandle" ∧ (parseMethodDescriptor y_B_isMade.desc).map (fun d => d.parameters.length) = some 1 := by decide +kernel
abbrev b_B_isObject : ByteArray := prog_1_method_16_code
def y_B_isObject : MethodName := ⟨"BinTrees", "isObject", "(I)Z"⟩
theorem hd_B_isObject : y_B_isObject.cls ≠ "java/lang/invoke/MethodHandle" ∧ y_B_isObject.cls ≠ "java/lang/invoke/VarHandle" ∧ (parseMethodDescriptor y_B_isObject.desc).map (fun d => d.parameters.length) = some 1 := by decide +kernel
abbrev b_B_remove : ByteArray := prog_1_method_4_code
def y_B_remove : MethodName := ⟨"BinTrees", "remove", "(IIZ)I"⟩
theorem hd_B_remove : y_B_remove.cls ≠ "java/lang/invoke/MethodHandle" ∧ y_B_remove.cls ≠ "java/lang/invoke/VarHandle" ∧ (parseMethodDescriptor y_B_remove.desc).map (fun d => d.parameters.length) = some 3 := by decide +kernel
abbrev b_B_undo : ByteArray := prog_1_method_5_code
def y_B_undo : MethodName := ⟨"BinTrees", "undo", "(II)I"⟩
theorem hd_B_undo : y_B_undo.cls ≠ "java/lang/invoke/MethodHandle" ∧ y_B_undo.cls ≠ "java/lang/invoke/VarHandle" ∧ (parseMethodDescriptor y_B_undo.desc).map (fun d => d.parameters.length) = some 2 := by decide +kernel
abbrev b_B_isRow : ByteArray := prog_1_method_18_code
def y_B_isRow : MethodName := ⟨"BinTrees", "isRow", "(I)Z"⟩
theorem hd_B_isRow : y_B_isRow.cls ≠ "java/lang/invoke/MethodHandle" ∧ y_B_isRow.cls ≠ "java/lang/invoke/VarHandle" ∧ (parseMethodDescriptor y_B_isRow.desc).map (fun d => d.parameters.length) = some 1 := by decide +kernel
abbrev b_L_mayBeUndoneBy : ByteArray := prog_2_method_5_code
def y_L_mayBeUndoneBy : MethodName := ⟨"BinTrees$Log", "mayBeUndoneBy", "(II)Z"⟩
theorem hd_L_mayBeUndoneBy : y_L_mayBeUndoneBy.cls ≠ "java/lang/invoke/MethodHandle" ∧ y_L_mayBeUndoneBy.cls ≠ "java/lang/invoke/VarHandle" ∧ (parseMethodDescriptor y_L_mayBeUndoneBy.desc).map (fun d => d.parameters.length) = some 2 := by decide +kernel
abbrev b_B_see : ByteArray := prog_1_method_6_code
def y_B_see : MethodName := ⟨"BinTrees", "see", "(II)I"⟩
theorem hd_B_see : y_B_see.cls ≠ "java/lang/invoke/MethodHandle" ∧ y_B_see.cls ≠ "java/lang/invoke/VarHandle" ∧ (parseMethodDescriptor y_B_see.desc).map (fun d => d.parameters.length) = some 2 := by decide +kernel
abbrev b_B_meet : ByteArray := prog_1_method_7_code
def y_B_meet : MethodName := ⟨"BinTrees", "meet", "(II)I"⟩
theorem hd_B_meet : y_B_meet.cls ≠ "java/lang/invoke/MethodHandle" ∧ y_B_meet.cls ≠ "java/lang/invoke/VarHandle" ∧ (parseMethodDescriptor y_B_meet.desc).map (fun d => d.parameters.length) = some 2 := by decide +kernel
abbrev b_B_cost : ByteArray := prog_1_method_8_code
def y_B_cost : MethodName := ⟨"BinTrees", "cost", "(I)I"⟩
theorem hd_B_cost : y_B_cost.cls ≠ "java/lang/invoke/MethodHandle" ∧ y_B_cost.cls ≠ "java/lang/invoke/VarHandle" ∧ (parseMethodDescriptor y_B_cost.desc).map (fun d => d.parameters.length) = some 1 := by decide +kernel
abbrev b_B_object : ByteArray := prog_1_method_9_code
def y_B_object : MethodName := ⟨"BinTrees", "object", "(III)I"⟩
theorem hd_B_object : y_B_object.cls ≠ "java/lang/invoke/MethodHandle" ∧ y_B_object.cls ≠ "java/lang/invoke/VarHandle" ∧ (parseMethodDescriptor y_B_object.desc).map (fun d => d.parameters.length) = some 3 := by decide +kernel
abbrev b_T_topOf : ByteArray := prog_4_method_9_code
def y_T_topOf : MethodName := ⟨"BinTrees$Tree", "topOf", "(I)I"⟩
theorem hd_T_topOf : y_T_topOf.cls ≠ "java/lang/invoke/MethodHandle" ∧ y_T_topOf.cls ≠ "java/lang/invoke/VarHandle" ∧ (parseMethodDescriptor y_T_topOf.desc).map (fun d => d.parameters.length) = some 1 := by decide +kernel
abbrev b_T_childCount : ByteArray := prog_4_method_13_code
def y_T_childCount : MethodName := ⟨"BinTrees$Tree", "childCount", "(I)I"⟩
theorem hd_T_childCount : y_T_childCount.cls ≠ "java/lang/invoke/MethodHandle" ∧ y_T_childCount.cls ≠ "java/lang/invoke/VarHandle" ∧ (parseMethodDescriptor y_T_childCount.desc).map (fun d => d.parameters.length) = some 1 := by decide +kernel
abbrev b_T_placeOf : ByteArray := prog_4_method_15_code
def y_T_placeOf : MethodName := ⟨"BinTrees$Tree", "placeOf", "(I)I"⟩
theorem hd_T_placeOf : y_T_placeOf.cls ≠ "java/lang/invoke/MethodHandle" ∧ y_T_placeOf.cls ≠ "java/lang/invoke/VarHandle" ∧ (parseMethodDescriptor y_T_placeOf.desc).map (fun d => d.parameters.length) = some 1 := by decide +kernel
abbrev b_B_child : ByteArray := prog_1_method_10_code
def y_B_child : MethodName := ⟨"BinTrees", "child", "(III)I"⟩
theorem hd_B_child : y_B_child.cls ≠ "java/lang/invoke/MethodHandle" ∧ y_B_child.cls ≠ "java/lang/invoke/VarHandle" ∧ (parseMethodDescriptor y_B_child.desc).map (fun d => d.parameters.length) = some 3 := by decide +kernel
abbrev b_T_childAt : ByteArray := prog_4_method_14_code
def y_T_childAt : MethodName := ⟨"BinTrees$Tree", "childAt", "(II)I"⟩
theorem hd_T_childAt : y_T_childAt.cls ≠ "java/lang/invoke/MethodHandle" ∧ y_T_childAt.cls ≠ "java/lang/invoke/VarHandle" ∧ (parseMethodDescriptor y_T_childAt.desc).map (fun d => d.parameters.length) = some 2 := by decide +kernel
abbrev b_B_row : ByteArray := prog_1_method_11_code
def y_B_row : MethodName := ⟨"BinTrees", "row", "(II)I"⟩
theorem hd_B_row : y_B_row.cls ≠ "java/lang/invoke/MethodHandle" ∧ y_B_row.cls ≠ "java/lang/invoke/VarHandle" ∧ (parseMethodDescriptor y_B_row.desc).map (fun d => d.parameters.length) = some 2 := by decide +kernel
abbrev b_B_judged : ByteArray := prog_1_method_12_code
def y_B_judged : MethodName := ⟨"BinTrees", "judged", "(II)I"⟩
theorem hd_B_judged : y_B_judged.cls ≠ "java/lang/invoke/MethodHandle" ∧ y_B_judged.cls ≠ "java/lang/invoke/VarHandle" ∧ (parseMethodDescriptor y_B_judged.desc).map (fun d => d.parameters.length) = some 2 := by decide +kernel
abbrev b_B_alike : ByteArray := prog_1_method_13_code
def y_B_alike : MethodName := ⟨"BinTrees", "alike", "(II)Z"⟩
theorem hd_B_alike : y_B_alike.cls ≠ "java/lang/invoke/MethodHandle" ∧ y_B_alike.cls ≠ "java/lang/invoke/VarHandle" ∧ (parseMethodDescriptor y_B_alike.desc).map (fun d => d.parameters.length) = some 2 := by decide +kernel
abbrev b_T_sameAs : ByteArray := prog_4_method_16_code
def y_T_sameAs : MethodName := ⟨"BinTrees$Tree", "sameAs", "(LBinTrees$Tree;)Z"⟩
theorem hd_T_sameAs : y_T_sameAs.cls ≠ "java/lang/invoke/MethodHandle" ∧ y_T_sameAs.cls ≠ "java/lang/invoke/VarHandle" ∧ (parseMethodDescriptor y_T_sameAs.desc).map (fun d => d.parameters.length) = some 1 := by decide +kernel
abbrev b_B_total : ByteArray := prog_1_method_14_code
def y_B_total : MethodName := ⟨"BinTrees", "total", "(I)I"⟩
theorem hd_B_total : y_B_total.cls ≠ "java/lang/invoke/MethodHandle" ∧ y_B_total.cls ≠ "java/lang/invoke/VarHandle" ∧ (parseMethodDescriptor y_B_total.desc).map (fun d => d.parameters.length) = some 1 := by decide +kernel
abbrev b_M_init : ByteArray := prog_6_method_1_code
def y_M_init : MethodName := ⟨"BinTreesModel", "<init>", "()V"⟩
theorem hd_M_init : y_M_init.cls ≠ "java/lang/invoke/MethodHandle" ∧ y_M_init.cls ≠ "java/lang/invoke/VarHandle" ∧ (parseMethodDescriptor y_M_init.desc).map (fun d => d.parameters.length) = some 0 := by decide +kernel
abbrev b_M_make : ByteArray := prog_6_method_25_code
def y_M_make : MethodName := ⟨"BinTreesModel", "make", "(I)I"⟩
theorem hd_M_make : y_M_make.cls ≠ "java/lang/invoke/MethodHandle" ∧ y_M_make.cls ≠ "java/lang/invoke/VarHandle" ∧ (parseMethodDescriptor y_M_make.desc).map (fun d => d.parameters.length) = some 1 := by decide +kernel
abbrev b_M_isNode : ByteArray := prog_6_method_24_code
def y_M_isNode : MethodName := ⟨"BinTreesModel", "isNode", "(I)Z"⟩
theorem hd_M_isNode : y_M_isNode.cls ≠ "java/lang/invoke/MethodHandle" ∧ y_M_isNode.cls ≠ "java/lang/invoke/VarHandle" ∧ (parseMethodDescriptor y_M_isNode.desc).map (fun d => d.parameters.length) = some 1 := by decide +kernel
abbrev b_M_within : ByteArray := prog_6_method_3_code
def y_M_within : MethodName := ⟨"BinTreesModel", "within", "(III)Z"⟩
theorem hd_M_within : y_M_within.cls ≠ "java/lang/invoke/MethodHandle" ∧ y_M_within.cls ≠ "java/lang/invoke/VarHandle" ∧ (parseMethodDescriptor y_M_within.desc).map (fun d => d.parameters.length) = some 3 := by decide +kernel
abbrev b_M_add : ByteArray := prog_6_method_23_code
def y_M_add : MethodName := ⟨"BinTreesModel", "add", "(IIIII)I"⟩
theorem hd_M_add : y_M_add.cls ≠ "java/lang/invoke/MethodHandle" ∧ y_M_add.cls ≠ "java/lang/invoke/VarHandle" ∧ (parseMethodDescriptor y_M_add.desc).map (fun d => d.parameters.length) = some 5 := by decide +kernel
abbrev b_M_learn : ByteArray := prog_6_method_22_code
def y_M_learn : MethodName := ⟨"BinTreesModel", "learn", "(II)V"⟩
theorem hd_M_learn : y_M_learn.cls ≠ "java/lang/invoke/MethodHandle" ∧ y_M_learn.cls ≠ "java/lang/invoke/VarHandle" ∧ (parseMethodDescriptor y_M_learn.desc).map (fun d => d.parameters.length) = some 2 := by decide +kernel
abbrev b_M_costOf : ByteArray := prog_6_method_21_code
def y_M_costOf : MethodName := ⟨"BinTreesModel", "costOf", "(II)I"⟩
theorem hd_M_costOf : y_M_costOf.cls ≠ "java/lang/invoke/MethodHandle" ∧ y_M_costOf.cls ≠ "java/lang/invoke/VarHandle" ∧ (parseMethodDescriptor y_M_costOf.desc).map (fun d => d.parameters.length) = some 2 := by decide +kernel
abbrev b_M_knowsRow : ByteArray := prog_6_method_4_code
def y_M_knowsRow : MethodName := ⟨"BinTreesModel", "knowsRow", "(II)Z"⟩
theorem hd_M_knowsRow : y_M_knowsRow.cls ≠ "java/lang/invoke/MethodHandle" ∧ y_M_knowsRow.cls ≠ "java/lang/invoke/VarHandle" ∧ (parseMethodDescriptor y_M_knowsRow.desc).map (fun d => d.parameters.length) = some 2 := by decide +kernel
abbrev b_M_isBefore : ByteArray := prog_6_method_5_code
def y_M_isBefore : MethodName := ⟨"BinTreesModel", "isBefore", "(II)Z"⟩
theorem hd_M_isBefore : y_M_isBefore.cls ≠ "java/lang/invoke/MethodHandle" ∧ y_M_isBefore.cls ≠ "java/lang/invoke/VarHandle" ∧ (parseMethodDescriptor y_M_isBefore.desc).map (fun d => d.parameters.length) = some 2 := by decide +kernel
abbrev b_M_move : ByteArray := prog_6_method_26_code
def y_M_move : MethodName := ⟨"BinTreesModel", "move", "(IIII)I"⟩
theorem hd_M_move : y_M_move.cls ≠ "java/lang/invoke/MethodHandle" ∧ y_M_move.cls ≠ "java/lang/invoke/VarHandle" ∧ (parseMethodDescriptor y_M_move.desc).map (fun d => d.parameters.length) = some 4 := by decide +kernel
abbrev b_M_remove : ByteArray := prog_6_method_27_code
def y_M_remove : MethodName := ⟨"BinTreesModel", "remove", "(IIZ)I"⟩
theorem hd_M_remove : y_M_remove.cls ≠ "java/lang/invoke/MethodHandle" ∧ y_M_remove.cls ≠ "java/lang/invoke/VarHandle" ∧ (parseMethodDescriptor y_M_remove.desc).map (fun d => d.parameters.length) = some 3 := by decide +kernel
abbrev b_M_undo : ByteArray := prog_6_method_28_code
def y_M_undo : MethodName := ⟨"BinTreesModel", "undo", "(II)I"⟩
theorem hd_M_undo : y_M_undo.cls ≠ "java/lang/invoke/MethodHandle" ∧ y_M_undo.cls ≠ "java/lang/invoke/VarHandle" ∧ (parseMethodDescriptor y_M_undo.desc).map (fun d => d.parameters.length) = some 2 := by decide +kernel
abbrev b_M_isUndone : ByteArray := prog_6_method_6_code
def y_M_isUndone : MethodName := ⟨"BinTreesModel", "isUndone", "(II)Z"⟩
theorem hd_M_isUndone : y_M_isUndone.cls ≠ "java/lang/invoke/MethodHandle" ∧ y_M_isUndone.cls ≠ "java/lang/invoke/VarHandle" ∧ (parseMethodDescriptor y_M_isUndone.desc).map (fun d => d.parameters.length) = some 2 := by decide +kernel
abbrev b_M_see : ByteArray := prog_6_method_29_code
def y_M_see : MethodName := ⟨"BinTreesModel", "see", "(II)I"⟩
theorem hd_M_see : y_M_see.cls ≠ "java/lang/invoke/MethodHandle" ∧ y_M_see.cls ≠ "java/lang/invoke/VarHandle" ∧ (parseMethodDescriptor y_M_see.desc).map (fun d => d.parameters.length) = some 2 := by decide +kernel
abbrev b_M_meet : ByteArray := prog_6_method_30_code
def y_M_meet : MethodName := ⟨"BinTreesModel", "meet", "(II)I"⟩
theorem hd_M_meet : y_M_meet.cls ≠ "java/lang/invoke/MethodHandle" ∧ y_M_meet.cls ≠ "java/lang/invoke/VarHandle" ∧ (parseMethodDescriptor y_M_meet.desc).map (fun d => d.parameters.length) = some 2 := by decide +kernel
abbrev b_M_findOrder : ByteArray := prog_6_method_7_code
def y_M_findOrder : MethodName := ⟨"BinTreesModel", "findOrder", "(I)V"⟩
theorem hd_M_findOrder : y_M_findOrder.cls ≠ "java/lang/invoke/MethodHandle" ∧ y_M_findOrder.cls ≠ "java/lang/invoke/VarHandle" ∧ (parseMethodDescriptor y_M_findOrder.desc).map (fun d => d.parameters.length) = some 1 := by decide +kernel
abbrev b_M_cost : ByteArray := prog_6_method_31_code
def y_M_cost : MethodName := ⟨"BinTreesModel", "cost", "(I)I"⟩
theorem hd_M_cost : y_M_cost.cls ≠ "java/lang/invoke/MethodHandle" ∧ y_M_cost.cls ≠ "java/lang/invoke/VarHandle" ∧ (parseMethodDescriptor y_M_cost.desc).map (fun d => d.parameters.length) = some 1 := by decide +kernel
abbrev b_M_object : ByteArray := prog_6_method_34_code
def y_M_object : MethodName := ⟨"BinTreesModel", "object", "(III)I"⟩
theorem hd_M_object : y_M_object.cls ≠ "java/lang/invoke/MethodHandle" ∧ y_M_object.cls ≠ "java/lang/invoke/VarHandle" ∧ (parseMethodDescriptor y_M_object.desc).map (fun d => d.parameters.length) = some 3 := by decide +kernel
abbrev b_M_isIn : ByteArray := prog_6_method_32_code
def y_M_isIn : MethodName := ⟨"BinTreesModel", "isIn", "(II)Z"⟩
theorem hd_M_isIn : y_M_isIn.cls ≠ "java/lang/invoke/MethodHandle" ∧ y_M_isIn.cls ≠ "java/lang/invoke/VarHandle" ∧ (parseMethodDescriptor y_M_isIn.desc).map (fun d => d.parameters.length) = some 2 := by decide +kernel
abbrev b_M_build : ByteArray := prog_6_method_20_code
def y_M_build : MethodName := ⟨"BinTreesModel", "build", "(I)V"⟩
theorem hd_M_build : y_M_build.cls ≠ "java/lang/invoke/MethodHandle" ∧ y_M_build.cls ≠ "java/lang/invoke/VarHandle" ∧ (parseMethodDescriptor y_M_build.desc).map (fun d => d.parameters.length) = some 1 := by decide +kernel
abbrev b_M_doRow : ByteArray := prog_6_method_19_code
def y_M_doRow : MethodName := ⟨"BinTreesModel", "doRow", "(I)Z"⟩
theorem hd_M_doRow : y_M_doRow.cls ≠ "java/lang/invoke/MethodHandle" ∧ y_M_doRow.cls ≠ "java/lang/invoke/VarHandle" ∧ (parseMethodDescriptor y_M_doRow.desc).map (fun d => d.parameters.length) = some 1 := by decide +kernel
abbrev b_M_putAt : ByteArray := prog_6_method_9_code
def y_M_putAt : MethodName := ⟨"BinTreesModel", "putAt", "(III)V"⟩
theorem hd_M_putAt : y_M_putAt.cls ≠ "java/lang/invoke/MethodHandle" ∧ y_M_putAt.cls ≠ "java/lang/invoke/VarHandle" ∧ (parseMethodDescriptor y_M_putAt.desc).map (fun d => d.parameters.length) = some 3 := by decide +kernel
abbrev b_M_doMove : ByteArray := prog_6_method_16_code
def y_M_doMove : MethodName := ⟨"BinTreesModel", "doMove", "(I)Z"⟩
theorem hd_M_doMove : y_M_doMove.cls ≠ "java/lang/invoke/MethodHandle" ∧ y_M_doMove.cls ≠ "java/lang/invoke/VarHandle" ∧ (parseMethodDescriptor y_M_doMove.desc).map (fun d => d.parameters.length) = some 1 := by decide +kernel
abbrev b_M_mayGo : ByteArray := prog_6_method_14_code
def y_M_mayGo : MethodName := ⟨"BinTreesModel", "mayGo", "(II)Z"⟩
theorem hd_M_mayGo : y_M_mayGo.cls ≠ "java/lang/invoke/MethodHandle" ∧ y_M_mayGo.cls ≠ "java/lang/invoke/VarHandle" ∧ (parseMethodDescriptor y_M_mayGo.desc).map (fun d => d.parameters.length) = some 2 := by decide +kernel
abbrev b_M_isBelow : ByteArray := prog_6_method_12_code
def y_M_isBelow : MethodName := ⟨"BinTreesModel", "isBelow", "(II)Z"⟩
theorem hd_M_isBelow : y_M_isBelow.cls ≠ "java/lang/invoke/MethodHandle" ∧ y_M_isBelow.cls ≠ "java/lang/invoke/VarHandle" ∧ (parseMethodDescriptor y_M_isBelow.desc).map (fun d => d.parameters.length) = some 2 := by decide +kernel
abbrev b_M_top : ByteArray := prog_6_method_11_code
def y_M_top : MethodName := ⟨"BinTreesModel", "top", "(I)I"⟩
theorem hd_M_top : y_M_top.cls ≠ "java/lang/invoke/MethodHandle" ∧ y_M_top.cls ≠ "java/lang/invoke/VarHandle" ∧ (parseMethodDescriptor y_M_top.desc).map (fun d => d.parameters.length) = some 1 := by decide +kernel
abbrev b_M_depth : ByteArray := prog_6_method_10_code
def y_M_depth : MethodName := ⟨"BinTreesModel", "depth", "(I)I"⟩
theorem hd_M_depth : y_M_depth.cls ≠ "java/lang/invoke/MethodHandle" ∧ y_M_depth.cls ≠ "java/lang/invoke/VarHandle" ∧ (parseMethodDescriptor y_M_depth.desc).map (fun d => d.parameters.length) = some 1 := by decide +kernel
abbrev b_M_height : ByteArray := prog_6_method_13_code
def y_M_height : MethodName := ⟨"BinTreesModel", "height", "(I)I"⟩
theorem hd_M_height : y_M_height.cls ≠ "java/lang/invoke/MethodHandle" ∧ y_M_height.cls ≠ "java/lang/invoke/VarHandle" ∧ (parseMethodDescriptor y_M_height.desc).map (fun d => d.parameters.length) = some 1 := by decide +kernel
abbrev b_M_takeOut : ByteArray := prog_6_method_8_code
def y_M_takeOut : MethodName := ⟨"BinTreesModel", "takeOut", "(I)V"⟩
theorem hd_M_takeOut : y_M_takeOut.cls ≠ "java/lang/invoke/MethodHandle" ∧ y_M_takeOut.cls ≠ "java/lang/invoke/VarHandle" ∧ (parseMethodDescriptor y_M_takeOut.desc).map (fun d => d.parameters.length) = some 1 := by decide +kernel
abbrev b_M_placeOf : ByteArray := prog_6_method_15_code
def y_M_placeOf : MethodName := ⟨"BinTreesModel", "placeOf", "(II)I"⟩
theorem hd_M_placeOf : y_M_placeOf.cls ≠ "java/lang/invoke/MethodHandle" ∧ y_M_placeOf.cls ≠ "java/lang/invoke/VarHandle" ∧ (parseMethodDescriptor y_M_placeOf.desc).map (fun d => d.parameters.length) = some 2 := by decide +kernel
abbrev b_M_doRemove : ByteArray := prog_6_method_17_code
def y_M_doRemove : MethodName := ⟨"BinTreesModel", "doRemove", "(I)Z"⟩
theorem hd_M_doRemove : y_M_doRemove.cls ≠ "java/lang/invoke/MethodHandle" ∧ y_M_doRemove.cls ≠ "java/lang/invoke/VarHandle" ∧ (parseMethodDescriptor y_M_doRemove.desc).map (fun d => d.parameters.length) = some 1 := by decide +kernel
abbrev b_M_doRestore : ByteArray := prog_6_method_18_code
def y_M_doRestore : MethodName := ⟨"BinTreesModel", "doRestore", "(I)Z"⟩
theorem hd_M_doRestore : y_M_doRestore.cls ≠ "java/lang/invoke/MethodHandle" ∧ y_M_doRestore.cls ≠ "java/lang/invoke/VarHandle" ∧ (parseMethodDescriptor y_M_doRestore.desc).map (fun d => d.parameters.length) = some 1 := by decide +kernel
abbrev b_M_parentOf : ByteArray := prog_6_method_33_code
def y_M_parentOf : MethodName := ⟨"BinTreesModel", "parentOf", "(I)I"⟩
theorem hd_M_parentOf : y_M_parentOf.cls ≠ "java/lang/invoke/MethodHandle" ∧ y_M_parentOf.cls ≠ "java/lang/invoke/VarHandle" ∧ (parseMethodDescriptor y_M_parentOf.desc).map (fun d => d.parameters.length) = some 1 := by decide +kernel
abbrev b_M_child : ByteArray := prog_6_method_35_code
def y_M_child : MethodName := ⟨"BinTreesModel", "child", "(III)I"⟩
theorem hd_M_child : y_M_child.cls ≠ "java/lang/invoke/MethodHandle" ∧ y_M_child.cls ≠ "java/lang/invoke/VarHandle" ∧ (parseMethodDescriptor y_M_child.desc).map (fun d => d.parameters.length) = some 3 := by decide +kernel
abbrev b_M_row : ByteArray := prog_6_method_36_code
def y_M_row : MethodName := ⟨"BinTreesModel", "row", "(II)I"⟩
theorem hd_M_row : y_M_row.cls ≠ "java/lang/invoke/MethodHandle" ∧ y_M_row.cls ≠ "java/lang/invoke/VarHandle" ∧ (parseMethodDescriptor y_M_row.desc).map (fun d => d.parameters.length) = some 2 := by decide +kernel
abbrev b_M_judged : ByteArray := prog_6_method_37_code
def y_M_judged : MethodName := ⟨"BinTreesModel", "judged", "(II)I"⟩
theorem hd_M_judged : y_M_judged.cls ≠ "java/lang/invoke/MethodHandle" ∧ y_M_judged.cls ≠ "java/lang/invoke/VarHandle" ∧ (parseMethodDescriptor y_M_judged.desc).map (fun d => d.parameters.length) = some 2 := by decide +kernel
abbrev b_M_alike : ByteArray := prog_6_method_38_code
def y_M_alike : MethodName := ⟨"BinTreesModel", "alike", "(II)Z"⟩
theorem hd_M_alike : y_M_alike.cls ≠ "java/lang/invoke/MethodHandle" ∧ y_M_alike.cls ≠ "java/lang/invoke/VarHandle" ∧ (parseMethodDescriptor y_M_alike.desc).map (fun d => d.parameters.length) = some 2 := by decide +kernel
abbrev b_M_total : ByteArray := prog_6_method_42_code
def y_M_total : MethodName := ⟨"BinTreesModel", "total", "(I)I"⟩
theorem hd_M_total : y_M_total.cls ≠ "java/lang/invoke/MethodHandle" ∧ y_M_total.cls ≠ "java/lang/invoke/VarHandle" ∧ (parseMethodDescriptor y_M_total.desc).map (fun d => d.parameters.length) = some 1 := by decide +kernel
abbrev b_M_knownRows : ByteArray := prog_6_method_39_code
def y_M_knownRows : MethodName := ⟨"BinTreesModel", "knownRows", "(I)I"⟩
theorem hd_M_knownRows : y_M_knownRows.cls ≠ "java/lang/invoke/MethodHandle" ∧ y_M_knownRows.cls ≠ "java/lang/invoke/VarHandle" ∧ (parseMethodDescriptor y_M_knownRows.desc).map (fun d => d.parameters.length) = some 1 := by decide +kernel
abbrev b_M_thereOf : ByteArray := prog_6_method_40_code
def y_M_thereOf : MethodName := ⟨"BinTreesModel", "thereOf", "(I)I"⟩
theorem hd_M_thereOf : y_M_thereOf.cls ≠ "java/lang/invoke/MethodHandle" ∧ y_M_thereOf.cls ≠ "java/lang/invoke/VarHandle" ∧ (parseMethodDescriptor y_M_thereOf.desc).map (fun d => d.parameters.length) = some 1 := by decide +kernel
abbrev b_M_binOf : ByteArray := prog_6_method_41_code
def y_M_binOf : MethodName := ⟨"BinTreesModel", "binOf", "(I)I"⟩
theorem hd_M_binOf : y_M_binOf.cls ≠ "java/lang/invoke/MethodHandle" ∧ y_M_binOf.cls ≠ "java/lang/invoke/VarHandle" ∧ (parseMethodDescriptor y_M_binOf.desc).map (fun d => d.parameters.length) = some 1 := by decide +kernel
theorem kw_0 : (Jvm.Cond.initialized "BinTreesLaw") ∈ vz_tbl := vz_in (List.mem_append_right _ (List.mem_append_left _ (List.mem_of_getElem? (i := 0) rfl))) rfl
theorem kw_1 : (Jvm.Cond.initialized "BinTrees") ∈ vz_tbl := vz_in (List.mem_append_right _ (List.mem_append_left _ (List.mem_of_getElem? (i := 1) rfl))) rfl
theorem kw_2 : (Jvm.Cond.initialized "BinTrees$Log") ∈ vz_tbl := vz_in (List.mem_append_right _ (List.mem_append_left _ (List.mem_of_getElem? (i := 2) rfl))) rfl
theorem kw_3 : (Jvm.Cond.initialized "BinTrees$Person") ∈ vz_tbl := vz_in (List.mem_append_right _ (List.mem_append_left _ (List.mem_of_getElem? (i := 3) rfl))) rfl
theorem kw_4 : (Jvm.Cond.initialized "BinTrees$Tree") ∈ vz_tbl := vz_in (List.mem_append_right _ (List.mem_append_left _ (List.mem_of_getElem? (i := 4) rfl))) rfl
theorem kw_5 : (Jvm.Cond.initialized "java/util/Arrays") ∈ vz_tbl := vz_in (List.mem_append_right _ (List.mem_append_left _ (List.mem_of_getElem? (i := 5) rfl))) rfl
theorem kw_6 : (Jvm.Cond.initialized "BinTreesModel") ∈ vz_tbl := vz_in (List.mem_append_right _ (List.mem_append_left _ (List.mem_of_getElem? (i := 6) rfl))) rfl
theorem kw_7 : (Jvm.Cond.initialized "java/lang/Math") ∈ vz_tbl := vz_in (List.mem_append_right _ (List.mem_append_left _ (List.mem_of_getElem? (i := 7) rfl))) rfl
theorem kw_8 : (Jvm.Cond.classLink "BinTreesLaw" (7 : Nat) "BinTrees") ∈ vz_tbl := vz_in (List.mem_append_right _ (List.mem_append_left _ (List.mem_of_getElem? (i := 8) rfl))) rfl
theorem kw_9 : (Jvm.Cond.instantiable "BinTrees" (2 : Nat)) ∈ vz_tbl := vz_in (List.mem_append_right _ (List.mem_append_left _ (List.mem_of_getElem? (i := 9) rfl))) rfl
theorem kw_10 : (Jvm.Cond.methodLink "BinTreesLaw" (9 : Nat) ({ cls := "BinTrees", name := "<init>", desc := "()V" } : Jvm.MethodName)) ∈ vz_tbl := vz_in (List.mem_append_right _ (List.mem_append_left _ (List.mem_of_getElem? (i := 10) rfl))) rfl
theorem kw_11 : (Jvm.Cond.instanceMethod ({ cls := "BinTrees", name := "<init>", desc := "()V" } : Jvm.MethodName)) ∈ vz_tbl := vz_in (List.mem_append_right _ (List.mem_append_left _ (List.mem_of_getElem? (i := 11) rfl))) rfl
theorem kw_12 : (Jvm.Cond.code ({ cls := "BinTrees", name := "<init>", desc := "()V" } : Jvm.MethodName) prog_1_method_1_code (2 : Nat) (Option.none : Option Jvm.ClassFile.FieldType)) ∈ vz_tbl := vz_in (List.mem_append_right _ (List.mem_append_left _ (List.mem_of_getElem? (i := 12) rfl))) rfl
theorem kw_13 : (Jvm.Cond.methodLink "BinTrees" (1 : Nat) ({ cls := "java/lang/Object", name := "<init>", desc := "()V" } : Jvm.MethodName)) ∈ vz_tbl := vz_in (List.mem_append_right _ (List.mem_append_left _ (List.mem_of_getElem? (i := 13) rfl))) rfl
theorem kw_14 : (Jvm.Cond.instanceMethod ({ cls := "java/lang/Object", name := "<init>", desc := "()V" } : Jvm.MethodName)) ∈ vz_tbl := vz_in (List.mem_append_right _ (List.mem_append_left _ (List.mem_of_getElem? (i := 14) rfl))) rfl
theorem kw_15 : (Jvm.Cond.code ({ cls := "java/lang/Object", name := "<init>", desc := "()V" } : Jvm.MethodName) object_method_1_code (1 : Nat) (Option.none : Option Jvm.ClassFile.FieldType)) ∈ vz_tbl := vz_in (List.mem_append_right _ (List.mem_append_left _ (List.mem_of_getElem? (i := 15) rfl))) rfl
theorem kw_16 : (Jvm.Cond.classLink "BinTrees" (7 : Nat) "BinTrees$Log") ∈ vz_tbl := vz_in (List.mem_append_right _ (List.mem_append_left _ (List.mem_of_getElem? (i := 16) rfl))) rfl
theorem kw_17 : (Jvm.Cond.instantiable "BinTrees$Log" (10 : Nat)) ∈ vz_tbl := vz_in (List.mem_append_right _ (List.mem_append_left _ (List.mem_of_getElem? (i := 17) rfl))) rfl
theorem kw_18 : (Jvm.Cond.methodLinkNest "BinTrees" (9 : Nat) ({ cls := "BinTrees$Log", name := "<init>", desc := "()V" } : Jvm.MethodName) "BinTrees") ∈ lw_tbl := List.mem_append_right _ (List.mem_append_left _ (List.mem_of_getElem? (i := 18) rfl))
theorem kw_19 : (Jvm.Cond.instanceMethod ({ cls := "BinTrees$Log", name := "<init>", desc := "()V" } : Jvm.MethodName)) ∈ vz_tbl := vz_in (List.mem_append_right _ (List.mem_append_left _ (List.mem_of_getElem? (i := 19) rfl))) rfl
theorem kw_20 : (Jvm.Cond.code ({ cls := "BinTrees$Log", name := "<init>", desc := "()V" } : Jvm.MethodName) prog_2_method_1_code (1 : Nat) (Option.none : Option Jvm.ClassFile.FieldType)) ∈ vz_tbl := vz_in (List.mem_append_right _ (List.mem_append_left _ (List.mem_of_getElem? (i := 20) rfl))) rfl
theorem kw_21 : (Jvm.Cond.methodLink "BinTrees$Log" (3 : Nat) ({ cls := "java/lang/Object", name := "<init>", desc := "()V" } : Jvm.MethodName)) ∈ vz_tbl := vz_in (List.mem_append_right _ (List.mem_append_left _ (List.mem_of_getElem? (i := 21) rfl))) rfl
theorem kw_22 : (Jvm.Cond.fieldLink "BinTrees$Log" (9 : Nat) "BinTrees$Log" "sort" "[I") ∈ vz_tbl := vz_in (List.mem_append_right _ (List.mem_append_left _ (List.mem_of_getElem? (i := 22) rfl))) rfl
theorem kw_23 : (Jvm.Cond.fieldLink "BinTrees$Person" (39 : Nat) "BinTrees$Log" "sort" "[I") ∈ vz_tbl := vz_in (List.mem_append_right _ (List.mem_append_left _ (List.mem_of_getElem? (i := 23) rfl))) rfl
theorem kw_24 : (Jvm.Cond.fieldLink "BinTrees" (111 : Nat) "BinTrees$Log" "sort" "[I") ∈ vz_tbl := vz_in (List.mem_append_right _ (List.mem_append_left _ (List.mem_of_getElem? (i := 24) rfl))) rfl
theorem kw_25 : (Jvm.Cond.fieldLink "BinTrees$Log" (15 : Nat) "BinTrees$Log" "node" "[I") ∈ vz_tbl := vz_in (List.mem_append_right _ (List.mem_append_left _ (List.mem_of_getElem? (i := 25) rfl))) rfl
theorem kw_26 : (Jvm.Cond.fieldLink "BinTrees" (114 : Nat) "BinTrees$Log" "node" "[I") ∈ vz_tbl := vz_in (List.mem_append_right _ (List.mem_append_left _ (List.mem_of_getElem? (i := 26) rfl))) rfl
theorem kw_27 : (Jvm.Cond.fieldLink "BinTrees$Log" (18 : Nat) "BinTrees$Log" "time" "[I") ∈ vz_tbl := vz_in (List.mem_append_right _ (List.mem_append_left _ (List.mem_of_getElem? (i := 27) rfl))) rfl
theorem kw_28 : (Jvm.Cond.fieldLink "BinTrees$Person" (29 : Nat) "BinTrees$Log" "time" "[I") ∈ vz_tbl := vz_in (List.mem_append_right _ (List.mem_append_left _ (List.mem_of_getElem? (i := 28) rfl))) rfl
theorem kw_29 : (Jvm.Cond.fieldLink "BinTrees" (117 : Nat) "BinTrees$Log" "time" "[I") ∈ vz_tbl := vz_in (List.mem_append_right _ (List.mem_append_left _ (List.mem_of_getElem? (i := 29) rfl))) rfl
theorem kw_30 : (Jvm.Cond.fieldLink "BinTrees$Log" (21 : Nat) "BinTrees$Log" "subject" "[I") ∈ vz_tbl := vz_in (List.mem_append_right _ (List.mem_append_left _ (List.mem_of_getElem? (i := 30) rfl))) rfl
theorem kw_31 : (Jvm.Cond.fieldLink "BinTrees$Person" (42 : Nat) "BinTrees$Log" "subject" "[I") ∈ vz_tbl := vz_in (List.mem_append_right _ (List.mem_append_left _ (List.mem_of_getElem? (i := 31) rfl))) rfl
theorem kw_32 : (Jvm.Cond.fieldLink "BinTrees" (119 : Nat) "BinTrees$Log" "subject" "[I") ∈ vz_tbl := vz_in (List.mem_append_right _ (List.mem_append_left _ (List.mem_of_getElem? (i := 32) rfl))) rfl
theorem kw_33 : (Jvm.Cond.fieldLink "BinTrees$Log" (24 : Nat) "BinTrees$Log" "parent" "[I") ∈ vz_tbl := vz_in (List.mem_append_right _ (List.mem_append_left _ (List.mem_of_getElem? (i := 33) rfl))) rfl
theorem kw_34 : (Jvm.Cond.fieldLink "BinTrees$Person" (76 : Nat) "BinTrees$Log" "parent" "[I") ∈ vz_tbl := vz_in (List.mem_append_right _ (List.mem_append_left _ (List.mem_of_getElem? (i := 34) rfl))) rfl
theorem kw_35 : (Jvm.Cond.fieldLink "BinTrees" (122 : Nat) "BinTrees$Log" "parent" "[I") ∈ vz_tbl := vz_in (List.mem_append_right _ (List.mem_append_left _ (List.mem_of_getElem? (i := 35) rfl))) rfl
theorem kw_36 : (Jvm.Cond.fieldLink "BinTrees$Log" (27 : Nat) "BinTrees$Log" "behind" "[I") ∈ vz_tbl := vz_in (List.mem_append_right _ (List.mem_append_left _ (List.mem_of_getElem? (i := 36) rfl))) rfl
theorem kw_37 : (Jvm.Cond.fieldLink "BinTrees$Person" (79 : Nat) "BinTrees$Log" "behind" "[I") ∈ vz_tbl := vz_in (List.mem_append_right _ (List.mem_append_left _ (List.mem_of_getElem? (i := 37) rfl))) rfl
theorem kw_38 : (Jvm.Cond.fieldLink "BinTrees" (123 : Nat) "BinTrees$Log" "behind" "[I") ∈ vz_tbl := vz_in (List.mem_append_right _ (List.mem_append_left _ (List.mem_of_getElem? (i := 38) rfl))) rfl
theorem kw_39 : (Jvm.Cond.fieldLink "BinTrees$Log" (30 : Nat) "BinTrees$Log" "undoing" "[I") ∈ vz_tbl := vz_in (List.mem_append_right _ (List.mem_append_left _ (List.mem_of_getElem? (i := 39) rfl))) rfl
theorem kw_40 : (Jvm.Cond.fieldLink "BinTrees$Person" (69 : Nat) "BinTrees$Log" "undoing" "[I") ∈ vz_tbl := vz_in (List.mem_append_right _ (List.mem_append_left _ (List.mem_of_getElem? (i := 40) rfl))) rfl
theorem kw_41 : (Jvm.Cond.fieldLink "BinTrees$Log" (33 : Nat) "BinTrees$Log" "ordered" "[I") ∈ vz_tbl := vz_in (List.mem_append_right _ (List.mem_append_left _ (List.mem_of_getElem? (i := 41) rfl))) rfl
theorem kw_42 : (Jvm.Cond.fieldLink "BinTrees$Person" (59 : Nat) "BinTrees$Log" "ordered" "[I") ∈ vz_tbl := vz_in (List.mem_append_right _ (List.mem_append_left _ (List.mem_of_getElem? (i := 42) rfl))) rfl
theorem kw_43 : (Jvm.Cond.fieldLink "BinTrees" (67 : Nat) "BinTrees$Log" "ordered" "[I") ∈ vz_tbl := vz_in (List.mem_append_right _ (List.mem_append_left _ (List.mem_of_getElem? (i := 43) rfl))) rfl
theorem kw_44 : (Jvm.Cond.fieldLink "BinTrees$Log" (36 : Nat) "BinTrees$Log" "count" "I") ∈ vz_tbl := vz_in (List.mem_append_right _ (List.mem_append_left _ (List.mem_of_getElem? (i := 44) rfl))) rfl
theorem kw_45 : (Jvm.Cond.fieldLink "BinTrees$Person" (56 : Nat) "BinTrees$Log" "count" "I") ∈ vz_tbl := vz_in (List.mem_append_right _ (List.mem_append_left _ (List.mem_of_getElem? (i := 45) rfl))) rfl
theorem kw_46 : (Jvm.Cond.fieldLink "BinTrees" (64 : Nat) "BinTrees$Log" "count" "I") ∈ vz_tbl := vz_in (List.mem_append_right _ (List.mem_append_left _ (List.mem_of_getElem? (i := 46) rfl))) rfl
theorem kw_47 : (Jvm.Cond.fieldLink "BinTrees" (27 : Nat) "BinTrees$Log" "made" "I") ∈ vz_tbl := vz_in (List.mem_append_right _ (List.mem_append_left _ (List.mem_of_getElem? (i := 47) rfl))) rfl
theorem kw_69 : (Jvm.Cond.arrayClass Jvm.ClassFile.FieldType.int) ∈ vz_tbl := vz_in (List.mem_append_right _ (List.mem_append_left _ (List.mem_of_getElem? (i := 69) rfl))) rfl
theorem kw_70 : (Jvm.Cond.classLink "BinTrees" (16 : Nat) "BinTrees$Person") ∈ vz_tbl := vz_in (List.mem_append_right _ (List.mem_append_left _ (List.mem_of_getElem? (i := 70) rfl))) rfl
theorem kw_71 : (Jvm.Cond.arrayOver (Jvm.ClassFile.FieldType.object "BinTrees$Person")) ∈ lw_tbl := List.mem_append_right _ (List.mem_append_left _ (List.mem_of_getElem? (i := 71) rfl))
theorem kw_72 : (Jvm.Cond.instantiable "BinTrees$Person" (5 : Nat)) ∈ vz_tbl := vz_in (List.mem_append_right _ (List.mem_append_left _ (List.mem_of_getElem? (i := 72) rfl))) rfl
theorem kw_73 : (Jvm.Cond.methodLinkNest "BinTrees" (22 : Nat) ({ cls := "BinTrees$Person", name := "<init>", desc := "()V" } : Jvm.MethodName) "BinTrees") ∈ lw_tbl := List.mem_append_right _ (List.mem_append_left _ (List.mem_of_getElem? (i := 73) rfl))
theorem kw_74 : (Jvm.Cond.instanceMethod ({ cls := "BinTrees$Person", name := "<init>", desc := "()V" } : Jvm.MethodName)) ∈ vz_tbl := vz_in (List.mem_append_right _ (List.mem_append_left _ (List.mem_of_getElem? (i := 74) rfl))) rfl
theorem kw_75 : (Jvm.Cond.code ({ cls := "BinTrees$Person", name := "<init>", desc := "()V" } : Jvm.MethodName) prog_3_method_1_code (1 : Nat) (Option.none : Option Jvm.ClassFile.FieldType)) ∈ vz_tbl := vz_in (List.mem_append_right _ (List.mem_append_left _ (List.mem_of_getElem? (i := 75) rfl))) rfl
theorem kw_76 : (Jvm.Cond.methodLink "BinTrees$Person" (3 : Nat) ({ cls := "java/lang/Object", name := "<init>", desc := "()V" } : Jvm.MethodName)) ∈ vz_tbl := vz_in (List.mem_append_right _ (List.mem_append_left _ (List.mem_of_getElem? (i := 76) rfl))) rfl
theorem kw_77 : (Jvm.Cond.classLink "BinTrees$Person" (15 : Nat) "BinTrees$Tree") ∈ vz_tbl := vz_in (List.mem_append_right _ (List.mem_append_left _ (List.mem_of_getElem? (i := 77) rfl))) rfl
theorem kw_78 : (Jvm.Cond.instantiable "BinTrees$Tree" (5 : Nat)) ∈ vz_tbl := vz_in (List.mem_append_right _ (List.mem_append_left _ (List.mem_of_getElem? (i := 78) rfl))) rfl
theorem kw_79 : (Jvm.Cond.methodLink "BinTrees$Person" (17 : Nat) ({ cls := "BinTrees$Tree", name := "<init>", desc := "()V" } : Jvm.MethodName)) ∈ vz_tbl := vz_in (List.mem_append_right _ (List.mem_append_left _ (List.mem_of_getElem? (i := 79) rfl))) rfl
theorem kw_80 : (Jvm.Cond.instanceMethod ({ cls := "BinTrees$Tree", name := "<init>", desc := "()V" } : Jvm.MethodName)) ∈ vz_tbl := vz_in (List.mem_append_right _ (List.mem_append_left _ (List.mem_of_getElem? (i := 80) rfl))) rfl
theorem kw_81 : (Jvm.Cond.code ({ cls := "BinTrees$Tree", name := "<init>", desc := "()V" } : Jvm.MethodName) prog_4_method_1_code (1 : Nat) (Option.none : Option Jvm.ClassFile.FieldType)) ∈ vz_tbl := vz_in (List.mem_append_right _ (List.mem_append_left _ (List.mem_of_getElem? (i := 81) rfl))) rfl
theorem kw_82 : (Jvm.Cond.methodLink "BinTrees$Tree" (3 : Nat) ({ cls := "java/lang/Object", name := "<init>", desc := "()V" } : Jvm.MethodName)) ∈ vz_tbl := vz_in (List.mem_append_right _ (List.mem_append_left _ (List.mem_of_getElem? (i := 82) rfl))) rfl
theorem kw_83 : (Jvm.Cond.methodLink "BinTrees$Tree" (25 : Nat) ({ cls := "BinTrees$Tree", name := "startAnew", desc := "()V" } : Jvm.MethodName)) ∈ vz_tbl := vz_in (List.mem_append_right _ (List.mem_append_left _ (List.mem_of_getElem? (i := 83) rfl))) rfl
theorem kw_84 : (Jvm.Cond.instanceMethod ({ cls := "BinTrees$Tree", name := "startAnew", desc := "()V" } : Jvm.MethodName)) ∈ vz_tbl := vz_in (List.mem_append_right _ (List.mem_append_left _ (List.mem_of_getElem? (i := 84) rfl))) rfl
theorem kw_85 : (Jvm.Cond.selects "BinTrees$Tree" ({ cls := "BinTrees$Tree", name := "startAnew", desc := "()V" } : Jvm.MethodName) ({ cls := "BinTrees$Tree", name := "startAnew", desc := "()V" } : Jvm.MethodName)) ∈ vz_tbl := vz_in (List.mem_append_right _ (List.mem_append_left _ (List.mem_of_getElem? (i := 85) rfl))) rfl
theorem kw_86 : (Jvm.Cond.code ({ cls := "BinTrees$Tree", name := "startAnew", desc := "()V" } : Jvm.MethodName) prog_4_method_2_code (1 : Nat) (Option.none : Option Jvm.ClassFile.FieldType)) ∈ vz_tbl := vz_in (List.mem_append_right _ (List.mem_append_left _ (List.mem_of_getElem? (i := 86) rfl))) rfl
theorem kw_87 : (Jvm.Cond.methodLink "BinTrees$Tree" (28 : Nat) ({ cls := "java/util/Arrays", name := "fill", desc := "([ZZ)V" } : Jvm.MethodName)) ∈ vz_tbl := vz_in (List.mem_append_right _ (List.mem_append_left _ (List.mem_of_getElem? (i := 87) rfl))) rfl
theorem kw_88 : (Jvm.Cond.static ({ cls := "java/util/Arrays", name := "fill", desc := "([ZZ)V" } : Jvm.MethodName)) ∈ vz_tbl := vz_in (List.mem_append_right _ (List.mem_append_left _ (List.mem_of_getElem? (i := 88) rfl))) rfl
theorem kw_89 : (Jvm.Cond.code ({ cls := "java/util/Arrays", name := "fill", desc := "([ZZ)V" } : Jvm.MethodName) prog_8_method_111_code (4 : Nat) (Option.none : Option Jvm.ClassFile.FieldType)) ∈ vz_tbl := vz_in (List.mem_append_right _ (List.mem_append_left _ (List.mem_of_getElem? (i := 89) rfl))) rfl
theorem kw_90 : (Jvm.Cond.fieldLink "BinTrees$Tree" (9 : Nat) "BinTrees$Tree" "there" "[Z") ∈ vz_tbl := vz_in (List.mem_append_right _ (List.mem_append_left _ (List.mem_of_getElem? (i := 90) rfl))) rfl
theorem kw_91 : (Jvm.Cond.fieldLink "BinTrees" (83 : Nat) "BinTrees$Tree" "there" "[Z") ∈ vz_tbl := vz_in (List.mem_append_right _ (List.mem_append_left _ (List.mem_of_getElem? (i := 91) rfl))) rfl
theorem kw_92 : (Jvm.Cond.fieldLink "BinTrees$Tree" (15 : Nat) "BinTrees$Tree" "parent" "[I") ∈ vz_tbl := vz_in (List.mem_append_right _ (List.mem_append_left _ (List.mem_of_getElem? (i := 92) rfl))) rfl
theorem kw_93 : (Jvm.Cond.fieldLink "BinTrees" (89 : Nat) "BinTrees$Tree" "parent" "[I") ∈ vz_tbl := vz_in (List.mem_append_right _ (List.mem_append_left _ (List.mem_of_getElem? (i := 93) rfl))) rfl
theorem kw_94 : (Jvm.Cond.fieldLink "BinTrees$Tree" (19 : Nat) "BinTrees$Tree" "wasLast" "[I") ∈ vz_tbl := vz_in (List.mem_append_right _ (List.mem_append_left _ (List.mem_of_getElem? (i := 94) rfl))) rfl
theorem kw_95 : (Jvm.Cond.fieldLink "BinTrees" (105 : Nat) "BinTrees$Tree" "wasLast" "[I") ∈ vz_tbl := vz_in (List.mem_append_right _ (List.mem_append_left _ (List.mem_of_getElem? (i := 95) rfl))) rfl
theorem kw_96 : (Jvm.Cond.fieldLink "BinTrees$Tree" (22 : Nat) "BinTrees$Tree" "line" "[I") ∈ vz_tbl := vz_in (List.mem_append_right _ (List.mem_append_left _ (List.mem_of_getElem? (i := 96) rfl))) rfl
theorem kw_97 : (Jvm.Cond.fieldLink "BinTrees$Tree" (34 : Nat) "BinTrees$Tree" "size" "I") ∈ vz_tbl := vz_in (List.mem_append_right _ (List.mem_append_left _ (List.mem_of_getElem? (i := 97) rfl))) rfl
theorem kw_98 : (Jvm.Cond.fieldLink "BinTrees" (136 : Nat) "BinTrees$Tree" "size" "I") ∈ vz_tbl := vz_in (List.mem_append_right _ (List.mem_append_left _ (List.mem_of_getElem? (i := 98) rfl))) rfl
theorem kw_110 : (Jvm.Cond.arrayClass Jvm.ClassFile.FieldType.boolean) ∈ vz_tbl := vz_in (List.mem_append_right _ (List.mem_append_left _ (List.mem_of_getElem? (i := 110) rfl))) rfl
theorem kw_111 : (Jvm.Cond.fieldLink "BinTrees$Person" (9 : Nat) "BinTrees$Person" "takes" "[I") ∈ vz_tbl := vz_in (List.mem_append_right _ (List.mem_append_left _ (List.mem_of_getElem? (i := 111) rfl))) rfl
theorem kw_112 : (Jvm.Cond.fieldLink "BinTrees" (126 : Nat) "BinTrees$Person" "takes" "[I") ∈ vz_tbl := vz_in (List.mem_append_right _ (List.mem_append_left _ (List.mem_of_getElem? (i := 112) rfl))) rfl
theorem kw_113 : (Jvm.Cond.fieldLink "BinTrees$Person" (18 : Nat) "BinTrees$Person" "tree" "LBinTrees$Tree;") ∈ vz_tbl := vz_in (List.mem_append_right _ (List.mem_append_left _ (List.mem_of_getElem? (i := 113) rfl))) rfl
theorem kw_114 : (Jvm.Cond.fieldLink "BinTrees" (79 : Nat) "BinTrees$Person" "tree" "LBinTrees$Tree;") ∈ vz_tbl := vz_in (List.mem_append_right _ (List.mem_append_left _ (List.mem_of_getElem? (i := 114) rfl))) rfl
theorem kw_115 : (Jvm.Cond.fieldLink "BinTrees$Person" (22 : Nat) "BinTrees$Person" "known" "I") ∈ vz_tbl := vz_in (List.mem_append_right _ (List.mem_append_left _ (List.mem_of_getElem? (i := 115) rfl))) rfl
theorem kw_116 : (Jvm.Cond.fieldLink "BinTrees" (133 : Nat) "BinTrees$Person" "known" "I") ∈ vz_tbl := vz_in (List.mem_append_right _ (List.mem_append_left _ (List.mem_of_getElem? (i := 116) rfl))) rfl
theorem kw_117 : (Jvm.Cond.fieldLink "BinTrees" (31 : Nat) "BinTrees$Person" "time" "I") ∈ vz_tbl := vz_in (List.mem_append_right _ (List.mem_append_left _ (List.mem_of_getElem? (i := 117) rfl))) rfl
theorem kw_118 : (Jvm.Cond.fieldLink "BinTrees$Person" (26 : Nat) "BinTrees$Person" "time" "I") ∈ vz_tbl := vz_in (List.mem_append_right _ (List.mem_append_left _ (List.mem_of_getElem? (i := 118) rfl))) rfl
theorem kw_119 : (Jvm.Cond.fieldLink "BinTrees$Person" (49 : Nat) "BinTrees$Person" "lastCost" "I") ∈ vz_tbl := vz_in (List.mem_append_right _ (List.mem_append_left _ (List.mem_of_getElem? (i := 119) rfl))) rfl
theorem kw_120 : (Jvm.Cond.fieldLink "BinTrees" (61 : Nat) "BinTrees$Person" "lastCost" "I") ∈ vz_tbl := vz_in (List.mem_append_right _ (List.mem_append_left _ (List.mem_of_getElem? (i := 120) rfl))) rfl
theorem kw_132 : (Jvm.Cond.fieldLink "BinTrees" (10 : Nat) "BinTrees" "log" "LBinTrees$Log;") ∈ vz_tbl := vz_in (List.mem_append_right _ (List.mem_append_left _ (List.mem_of_getElem? (i := 132) rfl))) rfl
theorem kw_133 : (Jvm.Cond.fieldLink "BinTrees" (18 : Nat) "BinTrees" "people" "[LBinTrees$Person;") ∈ vz_tbl := vz_in (List.mem_append_right _ (List.mem_append_left _ (List.mem_of_getElem? (i := 133) rfl))) rfl
theorem kw_139 : (Jvm.Cond.methodLink "BinTreesLaw" (13 : Nat) ({ cls := "BinTrees", name := "make", desc := "(I)I" } : Jvm.MethodName)) ∈ vz_tbl := vz_in (List.mem_append_right _ (List.mem_append_left _ (List.mem_of_getElem? (i := 139) rfl))) rfl
theorem kw_140 : (Jvm.Cond.instanceMethod ({ cls := "BinTrees", name := "make", desc := "(I)I" } : Jvm.MethodName)) ∈ vz_tbl := vz_in (List.mem_append_right _ (List.mem_append_left _ (List.mem_of_getElem? (i := 140) rfl))) rfl
theorem kw_141 : (Jvm.Cond.selects "BinTrees" ({ cls := "BinTrees", name := "make", desc := "(I)I" } : Jvm.MethodName) ({ cls := "BinTrees", name := "make", desc := "(I)I" } : Jvm.MethodName)) ∈ vz_tbl := vz_in (List.mem_append_right _ (List.mem_append_left _ (List.mem_of_getElem? (i := 141) rfl))) rfl
theorem kw_142 : (Jvm.Cond.code ({ cls := "BinTrees", name := "make", desc := "(I)I" } : Jvm.MethodName) prog_1_method_2_code (2 : Nat) (Option.some Jvm.ClassFile.FieldType.int)) ∈ vz_tbl := vz_in (List.mem_append_right _ (List.mem_append_left _ (List.mem_of_getElem? (i := 142) rfl))) rfl
theorem kw_143 : (Jvm.Cond.methodLink "BinTrees" (23 : Nat) ({ cls := "BinTrees", name := "mayWrite", desc := "(I)Z" } : Jvm.MethodName)) ∈ vz_tbl := vz_in (List.mem_append_right _ (List.mem_append_left _ (List.mem_of_getElem? (i := 143) rfl))) rfl
theorem kw_145 : (Jvm.Cond.instanceMethod ({ cls := "BinTrees", name := "mayWrite", desc := "(I)Z" } : Jvm.MethodName)) ∈ vz_tbl := vz_in (List.mem_append_right _ (List.mem_append_left _ (List.mem_of_getElem? (i := 145) rfl))) rfl
theorem kw_146 : (Jvm.Cond.code ({ cls := "BinTrees", name := "mayWrite", desc := "(I)Z" } : Jvm.MethodName) prog_1_method_19_code (2 : Nat) (Option.some Jvm.ClassFile.FieldType.boolean)) ∈ vz_tbl := vz_in (List.mem_append_right _ (List.mem_append_left _ (List.mem_of_getElem? (i := 146) rfl))) rfl
theorem kw_147 : (Jvm.Cond.methodLink "BinTrees" (55 : Nat) ({ cls := "BinTrees", name := "isNode", desc := "(I)Z" } : Jvm.MethodName)) ∈ vz_tbl := vz_in (List.mem_append_right _ (List.mem_append_left _ (List.mem_of_getElem? (i := 147) rfl))) rfl
theorem kw_148 : (Jvm.Cond.static ({ cls := "BinTrees", name := "isNode", desc := "(I)Z" } : Jvm.MethodName)) ∈ vz_tbl := vz_in (List.mem_append_right _ (List.mem_append_left _ (List.mem_of_getElem? (i := 148) rfl))) rfl
theorem kw_149 : (Jvm.Cond.code ({ cls := "BinTrees", name := "isNode", desc := "(I)Z" } : Jvm.MethodName) prog_1_method_15_code (1 : Nat) (Option.some Jvm.ClassFile.FieldType.boolean)) ∈ vz_tbl := vz_in (List.mem_append_right _ (List.mem_append_left _ (List.mem_of_getElem? (i := 149) rfl))) rfl
theorem kw_150 : (Jvm.Cond.methodLink "BinTrees" (34 : Nat) ({ cls := "BinTrees$Log", name := "add", desc := "(IIIIII)I" } : Jvm.MethodName)) ∈ vz_tbl := vz_in (List.mem_append_right _ (List.mem_append_left _ (List.mem_of_getElem? (i := 150) rfl))) rfl
theorem kw_151 : (Jvm.Cond.instanceMethod ({ cls := "BinTrees$Log", name := "add", desc := "(IIIIII)I" } : Jvm.MethodName)) ∈ vz_tbl := vz_in (List.mem_append_right _ (List.mem_append_left _ (List.mem_of_getElem? (i := 151) rfl))) rfl
theorem kw_152 : (Jvm.Cond.selects "BinTrees$Log" ({ cls := "BinTrees$Log", name := "add", desc := "(IIIIII)I" } : Jvm.MethodName) ({ cls := "BinTrees$Log", name := "add", desc := "(IIIIII)I" } : Jvm.MethodName)) ∈ vz_tbl := vz_in (List.mem_append_right _ (List.mem_append_left _ (List.mem_of_getElem? (i := 152) rfl))) rfl
theorem kw_153 : (Jvm.Cond.code ({ cls := "BinTrees$Log", name := "add", desc := "(IIIIII)I" } : Jvm.MethodName) prog_2_method_2_code (8 : Nat) (Option.some Jvm.ClassFile.FieldType.int)) ∈ vz_tbl := vz_in (List.mem_append_right _ (List.mem_append_left _ (List.mem_of_getElem? (i := 153) rfl))) rfl
theorem kw_154 : (Jvm.Cond.methodLink "BinTrees$Log" (40 : Nat) ({ cls := "BinTrees$Log", name := "putInOrder", desc := "(I)V" } : Jvm.MethodName)) ∈ vz_tbl := vz_in (List.mem_append_right _ (List.mem_append_left _ (List.mem_of_getElem? (i := 154) rfl))) rfl
theorem kw_156 : (Jvm.Cond.instanceMethod ({ cls := "BinTrees$Log", name := "putInOrder", desc := "(I)V" } : Jvm.MethodName)) ∈ vz_tbl := vz_in (List.mem_append_right _ (List.mem_append_left _ (List.mem_of_getElem? (i := 156) rfl))) rfl
theorem kw_157 : (Jvm.Cond.code ({ cls := "BinTrees$Log", name := "putInOrder", desc := "(I)V" } : Jvm.MethodName) prog_2_method_3_code (3 : Nat) (Option.none : Option Jvm.ClassFile.FieldType)) ∈ vz_tbl := vz_in (List.mem_append_right _ (List.mem_append_left _ (List.mem_of_getElem? (i := 157) rfl))) rfl
theorem kw_158 : (Jvm.Cond.methodLink "BinTrees$Log" (44 : Nat) ({ cls := "BinTrees$Log", name := "isAhead", desc := "(II)Z" } : Jvm.MethodName)) ∈ vz_tbl := vz_in (List.mem_append_right _ (List.mem_append_left _ (List.mem_of_getElem? (i := 158) rfl))) rfl
theorem kw_160 : (Jvm.Cond.instanceMethod ({ cls := "BinTrees$Log", name := "isAhead", desc := "(II)Z" } : Jvm.MethodName)) ∈ vz_tbl := vz_in (List.mem_append_right _ (List.mem_append_left _ (List.mem_of_getElem? (i := 160) rfl))) rfl
theorem kw_161 : (Jvm.Cond.code ({ cls := "BinTrees$Log", name := "isAhead", desc := "(II)Z" } : Jvm.MethodName) prog_2_method_4_code (3 : Nat) (Option.some Jvm.ClassFile.FieldType.boolean)) ∈ vz_tbl := vz_in (List.mem_append_right _ (List.mem_append_left _ (List.mem_of_getElem? (i := 161) rfl))) rfl
theorem kw_162 : (Jvm.Cond.methodLink "BinTrees" (38 : Nat) ({ cls := "BinTrees", name := "told", desc := "(II)I" } : Jvm.MethodName)) ∈ vz_tbl := vz_in (List.mem_append_right _ (List.mem_append_left _ (List.mem_of_getElem? (i := 162) rfl))) rfl
theorem kw_164 : (Jvm.Cond.instanceMethod ({ cls := "BinTrees", name := "told", desc := "(II)I" } : Jvm.MethodName)) ∈ vz_tbl := vz_in (List.mem_append_right _ (List.mem_append_left _ (List.mem_of_getElem? (i := 164) rfl))) rfl
theorem kw_165 : (Jvm.Cond.code ({ cls := "BinTrees", name := "told", desc := "(II)I" } : Jvm.MethodName) prog_1_method_20_code (4 : Nat) (Option.some Jvm.ClassFile.FieldType.int)) ∈ vz_tbl := vz_in (List.mem_append_right _ (List.mem_append_left _ (List.mem_of_getElem? (i := 165) rfl))) rfl
theorem kw_166 : (Jvm.Cond.methodLink "BinTrees" (71 : Nat) ({ cls := "BinTrees$Person", name := "learn", desc := "(LBinTrees$Log;I)V" } : Jvm.MethodName)) ∈ vz_tbl := vz_in (List.mem_append_right _ (List.mem_append_left _ (List.mem_of_getElem? (i := 166) rfl))) rfl
theorem kw_167 : (Jvm.Cond.instanceMethod ({ cls := "BinTrees$Person", name := "learn", desc := "(LBinTrees$Log;I)V" } : Jvm.MethodName)) ∈ vz_tbl := vz_in (List.mem_append_right _ (List.mem_append_left _ (List.mem_of_getElem? (i := 167) rfl))) rfl
theorem kw_168 : (Jvm.Cond.selects "BinTrees$Person" ({ cls := "BinTrees$Person", name := "learn", desc := "(LBinTrees$Log;I)V" } : Jvm.MethodName) ({ cls := "BinTrees$Person", name := "learn", desc := "(LBinTrees$Log;I)V" } : Jvm.MethodName)) ∈ vz_tbl := vz_in (List.mem_append_right _ (List.mem_append_left _ (List.mem_of_getElem? (i := 168) rfl))) rfl
theorem kw_169 : (Jvm.Cond.code ({ cls := "BinTrees$Person", name := "learn", desc := "(LBinTrees$Log;I)V" } : Jvm.MethodName) prog_3_method_3_code (3 : Nat) (Option.none : Option Jvm.ClassFile.FieldType)) ∈ vz_tbl := vz_in (List.mem_append_right _ (List.mem_append_left _ (List.mem_of_getElem? (i := 169) rfl))) rfl
theorem kw_170 : (Jvm.Cond.methodLink "BinTrees$Person" (33 : Nat) ({ cls := "java/lang/Math", name := "max", desc := "(II)I" } : Jvm.MethodName)) ∈ vz_tbl := vz_in (List.mem_append_right _ (List.mem_append_left _ (List.mem_of_getElem? (i := 170) rfl))) rfl
theorem kw_171 : (Jvm.Cond.static ({ cls := "java/lang/Math", name := "max", desc := "(II)I" } : Jvm.MethodName)) ∈ vz_tbl := vz_in (List.mem_append_right _ (List.mem_append_left _ (List.mem_of_getElem? (i := 171) rfl))) rfl
theorem kw_172 : (Jvm.Cond.code ({ cls := "java/lang/Math", name := "max", desc := "(II)I" } : Jvm.MethodName) prog_7_method_65_code (2 : Nat) (Option.some Jvm.ClassFile.FieldType.int)) ∈ vz_tbl := vz_in (List.mem_append_right _ (List.mem_append_left _ (List.mem_of_getElem? (i := 172) rfl))) rfl
theorem kw_173 : (Jvm.Cond.methodLink "BinTrees$Person" (45 : Nat) ({ cls := "BinTrees$Person", name := "countFrom", desc := "(LBinTrees$Log;I)I" } : Jvm.MethodName)) ∈ vz_tbl := vz_in (List.mem_append_right _ (List.mem_append_left _ (List.mem_of_getElem? (i := 173) rfl))) rfl
theorem kw_175 : (Jvm.Cond.instanceMethod ({ cls := "BinTrees$Person", name := "countFrom", desc := "(LBinTrees$Log;I)I" } : Jvm.MethodName)) ∈ vz_tbl := vz_in (List.mem_append_right _ (List.mem_append_left _ (List.mem_of_getElem? (i := 175) rfl))) rfl
theorem kw_176 : (Jvm.Cond.code ({ cls := "BinTrees$Person", name := "countFrom", desc := "(LBinTrees$Log;I)I" } : Jvm.MethodName) prog_3_method_4_code (6 : Nat) (Option.some Jvm.ClassFile.FieldType.int)) ∈ vz_tbl := vz_in (List.mem_append_right _ (List.mem_append_left _ (List.mem_of_getElem? (i := 176) rfl))) rfl
theorem kw_177 : (Jvm.Cond.methodLink "BinTrees$Person" (52 : Nat) ({ cls := "BinTrees$Person", name := "knows", desc := "(I)Z" } : Jvm.MethodName)) ∈ vz_tbl := vz_in (List.mem_append_right _ (List.mem_append_left _ (List.mem_of_getElem? (i := 177) rfl))) rfl
theorem kw_178 : (Jvm.Cond.instanceMethod ({ cls := "BinTrees$Person", name := "knows", desc := "(I)Z" } : Jvm.MethodName)) ∈ vz_tbl := vz_in (List.mem_append_right _ (List.mem_append_left _ (List.mem_of_getElem? (i := 178) rfl))) rfl
theorem kw_179 : (Jvm.Cond.selects "BinTrees$Person" ({ cls := "BinTrees$Person", name := "knows", desc := "(I)Z" } : Jvm.MethodName) ({ cls := "BinTrees$Person", name := "knows", desc := "(I)Z" } : Jvm.MethodName)) ∈ vz_tbl := vz_in (List.mem_append_right _ (List.mem_append_left _ (List.mem_of_getElem? (i := 179) rfl))) rfl
theorem kw_180 : (Jvm.Cond.code ({ cls := "BinTrees$Person", name := "knows", desc := "(I)Z" } : Jvm.MethodName) prog_3_method_2_code (2 : Nat) (Option.some Jvm.ClassFile.FieldType.boolean)) ∈ vz_tbl := vz_in (List.mem_append_right _ (List.mem_append_left _ (List.mem_of_getElem? (i := 180) rfl))) rfl
theorem kw_181 : (Jvm.Cond.methodLink "BinTrees" (139 : Nat) ({ cls := "BinTrees$Person", name := "judge", desc := "(LBinTrees$Log;I)V" } : Jvm.MethodName)) ∈ vz_tbl := vz_in (List.mem_append_right _ (List.mem_append_left _ (List.mem_of_getElem? (i := 181) rfl))) rfl
theorem kw_182 : (Jvm.Cond.instanceMethod ({ cls := "BinTrees$Person", name := "judge", desc := "(LBinTrees$Log;I)V" } : Jvm.MethodName)) ∈ vz_tbl := vz_in (List.mem_append_right _ (List.mem_append_left _ (List.mem_of_getElem? (i := 182) rfl))) rfl
theorem kw_183 : (Jvm.Cond.selects "BinTrees$Person" ({ cls := "BinTrees$Person", name := "judge", desc := "(LBinTrees$Log;I)V" } : Jvm.MethodName) ({ cls := "BinTrees$Person", name := "judge", desc := "(LBinTrees$Log;I)V" } : Jvm.MethodName)) ∈ vz_tbl := vz_in (List.mem_append_right _ (List.mem_append_left _ (List.mem_of_getElem? (i := 183) rfl))) rfl
theorem kw_184 : (Jvm.Cond.code ({ cls := "BinTrees$Person", name := "judge", desc := "(LBinTrees$Log;I)V" } : Jvm.MethodName) prog_3_method_6_code (5 : Nat) (Option.none : Option Jvm.ClassFile.FieldType)) ∈ vz_tbl := vz_in (List.mem_append_right _ (List.mem_append_left _ (List.mem_of_getElem? (i := 184) rfl))) rfl
theorem kw_185 : (Jvm.Cond.methodLink "BinTrees$Person" (72 : Nat) ({ cls := "BinTrees$Tree", name := "bringIn", desc := "(I)V" } : Jvm.MethodName)) ∈ vz_tbl := vz_in (List.mem_append_right _ (List.mem_append_left _ (List.mem_of_getElem? (i := 185) rfl))) rfl
theorem kw_186 : (Jvm.Cond.instanceMethod ({ cls := "BinTrees$Tree", name := "bringIn", desc := "(I)V" } : Jvm.MethodName)) ∈ vz_tbl := vz_in (List.mem_append_right _ (List.mem_append_left _ (List.mem_of_getElem? (i := 186) rfl))) rfl
theorem kw_187 : (Jvm.Cond.selects "BinTrees$Tree" ({ cls := "BinTrees$Tree", name := "bringIn", desc := "(I)V" } : Jvm.MethodName) ({ cls := "BinTrees$Tree", name := "bringIn", desc := "(I)V" } : Jvm.MethodName)) ∈ vz_tbl := vz_in (List.mem_append_right _ (List.mem_append_left _ (List.mem_of_getElem? (i := 187) rfl))) rfl
theorem kw_188 : (Jvm.Cond.code ({ cls := "BinTrees$Tree", name := "bringIn", desc := "(I)V" } : Jvm.MethodName) prog_4_method_3_code (2 : Nat) (Option.none : Option Jvm.ClassFile.FieldType)) ∈ vz_tbl := vz_in (List.mem_append_right _ (List.mem_append_left _ (List.mem_of_getElem? (i := 188) rfl))) rfl
theorem kw_189 : (Jvm.Cond.methodLink "BinTrees$Tree" (38 : Nat) ({ cls := "BinTrees$Tree", name := "putAt", desc := "(III)V" } : Jvm.MethodName)) ∈ vz_tbl := vz_in (List.mem_append_right _ (List.mem_append_left _ (List.mem_of_getElem? (i := 189) rfl))) rfl
theorem kw_191 : (Jvm.Cond.instanceMethod ({ cls := "BinTrees$Tree", name := "putAt", desc := "(III)V" } : Jvm.MethodName)) ∈ vz_tbl := vz_in (List.mem_append_right _ (List.mem_append_left _ (List.mem_of_getElem? (i := 191) rfl))) rfl
theorem kw_192 : (Jvm.Cond.code ({ cls := "BinTrees$Tree", name := "putAt", desc := "(III)V" } : Jvm.MethodName) prog_4_method_11_code (5 : Nat) (Option.none : Option Jvm.ClassFile.FieldType)) ∈ vz_tbl := vz_in (List.mem_append_right _ (List.mem_append_left _ (List.mem_of_getElem? (i := 192) rfl))) rfl
theorem kw_193 : (Jvm.Cond.methodLink "BinTrees$Person" (82 : Nat) ({ cls := "BinTrees$Tree", name := "moveTo", desc := "(III)Z" } : Jvm.MethodName)) ∈ vz_tbl := vz_in (List.mem_append_right _ (List.mem_append_left _ (List.mem_of_getElem? (i := 193) rfl))) rfl
theorem kw_194 : (Jvm.Cond.instanceMethod ({ cls := "BinTrees$Tree", name := "moveTo", desc := "(III)Z" } : Jvm.MethodName)) ∈ vz_tbl := vz_in (List.mem_append_right _ (List.mem_append_left _ (List.mem_of_getElem? (i := 194) rfl))) rfl
theorem kw_195 : (Jvm.Cond.selects "BinTrees$Tree" ({ cls := "BinTrees$Tree", name := "moveTo", desc := "(III)Z" } : Jvm.MethodName) ({ cls := "BinTrees$Tree", name := "moveTo", desc := "(III)Z" } : Jvm.MethodName)) ∈ vz_tbl := vz_in (List.mem_append_right _ (List.mem_append_left _ (List.mem_of_getElem? (i := 195) rfl))) rfl
theorem kw_196 : (Jvm.Cond.code ({ cls := "BinTrees$Tree", name := "moveTo", desc := "(III)Z" } : Jvm.MethodName) prog_4_method_4_code (4 : Nat) (Option.some Jvm.ClassFile.FieldType.boolean)) ∈ vz_tbl := vz_in (List.mem_append_right _ (List.mem_append_left _ (List.mem_of_getElem? (i := 196) rfl))) rfl
theorem kw_197 : (Jvm.Cond.methodLink "BinTrees$Tree" (42 : Nat) ({ cls := "BinTrees$Tree", name := "mayLie", desc := "(II)Z" } : Jvm.MethodName)) ∈ vz_tbl := vz_in (List.mem_append_right _ (List.mem_append_left _ (List.mem_of_getElem? (i := 197) rfl))) rfl
theorem kw_199 : (Jvm.Cond.instanceMethod ({ cls := "BinTrees$Tree", name := "mayLie", desc := "(II)Z" } : Jvm.MethodName)) ∈ vz_tbl := vz_in (List.mem_append_right _ (List.mem_append_left _ (List.mem_of_getElem? (i := 199) rfl))) rfl
theorem kw_200 : (Jvm.Cond.code ({ cls := "BinTrees$Tree", name := "mayLie", desc := "(II)Z" } : Jvm.MethodName) prog_4_method_7_code (6 : Nat) (Option.some Jvm.ClassFile.FieldType.boolean)) ∈ vz_tbl := vz_in (List.mem_append_right _ (List.mem_append_left _ (List.mem_of_getElem? (i := 200) rfl))) rfl
theorem kw_201 : (Jvm.Cond.methodLink "BinTrees$Tree" (54 : Nat) ({ cls := "BinTrees$Tree", name := "stepsUp", desc := "(II)I" } : Jvm.MethodName)) ∈ vz_tbl := vz_in (List.mem_append_right _ (List.mem_append_left _ (List.mem_of_getElem? (i := 201) rfl))) rfl
theorem kw_202 : (Jvm.Cond.instanceMethod ({ cls := "BinTrees$Tree", name := "stepsUp", desc := "(II)I" } : Jvm.MethodName)) ∈ vz_tbl := vz_in (List.mem_append_right _ (List.mem_append_left _ (List.mem_of_getElem? (i := 202) rfl))) rfl
theorem kw_203 : (Jvm.Cond.selects "BinTrees$Tree" ({ cls := "BinTrees$Tree", name := "stepsUp", desc := "(II)I" } : Jvm.MethodName) ({ cls := "BinTrees$Tree", name := "stepsUp", desc := "(II)I" } : Jvm.MethodName)) ∈ vz_tbl := vz_in (List.mem_append_right _ (List.mem_append_left _ (List.mem_of_getElem? (i := 203) rfl))) rfl
theorem kw_204 : (Jvm.Cond.code ({ cls := "BinTrees$Tree", name := "stepsUp", desc := "(II)I" } : Jvm.MethodName) prog_4_method_8_code (5 : Nat) (Option.some Jvm.ClassFile.FieldType.int)) ∈ vz_tbl := vz_in (List.mem_append_right _ (List.mem_append_left _ (List.mem_of_getElem? (i := 204) rfl))) rfl
theorem kw_205 : (Jvm.Cond.methodLink "BinTrees$Tree" (46 : Nat) ({ cls := "BinTrees$Tree", name := "takeOut", desc := "(I)V" } : Jvm.MethodName)) ∈ vz_tbl := vz_in (List.mem_append_right _ (List.mem_append_left _ (List.mem_of_getElem? (i := 205) rfl))) rfl
theorem kw_207 : (Jvm.Cond.instanceMethod ({ cls := "BinTrees$Tree", name := "takeOut", desc := "(I)V" } : Jvm.MethodName)) ∈ vz_tbl := vz_in (List.mem_append_right _ (List.mem_append_left _ (List.mem_of_getElem? (i := 207) rfl))) rfl
theorem kw_208 : (Jvm.Cond.code ({ cls := "BinTrees$Tree", name := "takeOut", desc := "(I)V" } : Jvm.MethodName) prog_4_method_10_code (4 : Nat) (Option.none : Option Jvm.ClassFile.FieldType)) ∈ vz_tbl := vz_in (List.mem_append_right _ (List.mem_append_left _ (List.mem_of_getElem? (i := 208) rfl))) rfl
theorem kw_209 : (Jvm.Cond.methodLink "BinTrees$Tree" (50 : Nat) ({ cls := "BinTrees$Tree", name := "spotBehind", desc := "(II)I" } : Jvm.MethodName)) ∈ vz_tbl := vz_in (List.mem_append_right _ (List.mem_append_left _ (List.mem_of_getElem? (i := 209) rfl))) rfl
theorem kw_211 : (Jvm.Cond.instanceMethod ({ cls := "BinTrees$Tree", name := "spotBehind", desc := "(II)I" } : Jvm.MethodName)) ∈ vz_tbl := vz_in (List.mem_append_right _ (List.mem_append_left _ (List.mem_of_getElem? (i := 211) rfl))) rfl
theorem kw_212 : (Jvm.Cond.code ({ cls := "BinTrees$Tree", name := "spotBehind", desc := "(II)I" } : Jvm.MethodName) prog_4_method_12_code (4 : Nat) (Option.some Jvm.ClassFile.FieldType.int)) ∈ vz_tbl := vz_in (List.mem_append_right _ (List.mem_append_left _ (List.mem_of_getElem? (i := 212) rfl))) rfl
theorem kw_213 : (Jvm.Cond.methodLink "BinTrees$Person" (86 : Nat) ({ cls := "BinTrees$Tree", name := "throwAway", desc := "(I)Z" } : Jvm.MethodName)) ∈ vz_tbl := vz_in (List.mem_append_right _ (List.mem_append_left _ (List.mem_of_getElem? (i := 213) rfl))) rfl
theorem kw_214 : (Jvm.Cond.instanceMethod ({ cls := "BinTrees$Tree", name := "throwAway", desc := "(I)Z" } : Jvm.MethodName)) ∈ vz_tbl := vz_in (List.mem_append_right _ (List.mem_append_left _ (List.mem_of_getElem? (i := 214) rfl))) rfl
theorem kw_215 : (Jvm.Cond.selects "BinTrees$Tree" ({ cls := "BinTrees$Tree", name := "throwAway", desc := "(I)Z" } : Jvm.MethodName) ({ cls := "BinTrees$Tree", name := "throwAway", desc := "(I)Z" } : Jvm.MethodName)) ∈ vz_tbl := vz_in (List.mem_append_right _ (List.mem_append_left _ (List.mem_of_getElem? (i := 215) rfl))) rfl
theorem kw_216 : (Jvm.Cond.code ({ cls := "BinTrees$Tree", name := "throwAway", desc := "(I)Z" } : Jvm.MethodName) prog_4_method_5_code (2 : Nat) (Option.some Jvm.ClassFile.FieldType.boolean)) ∈ vz_tbl := vz_in (List.mem_append_right _ (List.mem_append_left _ (List.mem_of_getElem? (i := 216) rfl))) rfl
theorem kw_217 : (Jvm.Cond.methodLink "BinTrees$Person" (89 : Nat) ({ cls := "BinTrees$Tree", name := "bringBack", desc := "(I)Z" } : Jvm.MethodName)) ∈ vz_tbl := vz_in (List.mem_append_right _ (List.mem_append_left _ (List.mem_of_getElem? (i := 217) rfl))) rfl
theorem kw_218 : (Jvm.Cond.instanceMethod ({ cls := "BinTrees$Tree", name := "bringBack", desc := "(I)Z" } : Jvm.MethodName)) ∈ vz_tbl := vz_in (List.mem_append_right _ (List.mem_append_left _ (List.mem_of_getElem? (i := 218) rfl))) rfl
theorem kw_219 : (Jvm.Cond.selects "BinTrees$Tree" ({ cls := "BinTrees$Tree", name := "bringBack", desc := "(I)Z" } : Jvm.MethodName) ({ cls := "BinTrees$Tree", name := "bringBack", desc := "(I)Z" } : Jvm.MethodName)) ∈ vz_tbl := vz_in (List.mem_append_right _ (List.mem_append_left _ (List.mem_of_getElem? (i := 219) rfl))) rfl
theorem kw_220 : (Jvm.Cond.code ({ cls := "BinTrees$Tree", name := "bringBack", desc := "(I)Z" } : Jvm.MethodName) prog_4_method_6_code (3 : Nat) (Option.some Jvm.ClassFile.FieldType.boolean)) ∈ vz_tbl := vz_in (List.mem_append_right _ (List.mem_append_left _ (List.mem_of_getElem? (i := 220) rfl))) rfl
theorem kw_221 : (Jvm.Cond.methodLink "BinTrees" (75 : Nat) ({ cls := "BinTrees$Person", name := "judgeAll", desc := "(LBinTrees$Log;)V" } : Jvm.MethodName)) ∈ vz_tbl := vz_in (List.mem_append_right _ (List.mem_append_left _ (List.mem_of_getElem? (i := 221) rfl))) rfl
theorem kw_222 : (Jvm.Cond.instanceMethod ({ cls := "BinTrees$Person", name := "judgeAll", desc := "(LBinTrees$Log;)V" } : Jvm.MethodName)) ∈ vz_tbl := vz_in (List.mem_append_right _ (List.mem_append_left _ (List.mem_of_getElem? (i := 222) rfl))) rfl
theorem kw_223 : (Jvm.Cond.selects "BinTrees$Person" ({ cls := "BinTrees$Person", name := "judgeAll", desc := "(LBinTrees$Log;)V" } : Jvm.MethodName) ({ cls := "BinTrees$Person", name := "judgeAll", desc := "(LBinTrees$Log;)V" } : Jvm.MethodName)) ∈ vz_tbl := vz_in (List.mem_append_right _ (List.mem_append_left _ (List.mem_of_getElem? (i := 223) rfl))) rfl
theorem kw_224 : (Jvm.Cond.code ({ cls := "BinTrees$Person", name := "judgeAll", desc := "(LBinTrees$Log;)V" } : Jvm.MethodName) prog_3_method_5_code (3 : Nat) (Option.none : Option Jvm.ClassFile.FieldType)) ∈ vz_tbl := vz_in (List.mem_append_right _ (List.mem_append_left _ (List.mem_of_getElem? (i := 224) rfl))) rfl
theorem kw_225 : (Jvm.Cond.methodLink "BinTrees$Person" (62 : Nat) ({ cls := "BinTrees$Tree", name := "startAnew", desc := "()V" } : Jvm.MethodName)) ∈ vz_tbl := vz_in (List.mem_append_right _ (List.mem_append_left _ (List.mem_of_getElem? (i := 225) rfl))) rfl
theorem kw_226 : (Jvm.Cond.methodLink "BinTrees$Person" (65 : Nat) ({ cls := "BinTrees$Person", name := "judge", desc := "(LBinTrees$Log;I)V" } : Jvm.MethodName)) ∈ vz_tbl := vz_in (List.mem_append_right _ (List.mem_append_left _ (List.mem_of_getElem? (i := 226) rfl))) rfl
theorem kw_227 : (Jvm.Cond.methodLink "BinTreesLaw" (18 : Nat) ({ cls := "BinTrees", name := "move", desc := "(IIII)I" } : Jvm.MethodName)) ∈ vz_tbl := vz_in (List.mem_append_right _ (List.mem_append_left _ (List.mem_of_getElem? (i := 227) rfl))) rfl
theorem kw_228 : (Jvm.Cond.instanceMethod ({ cls := "BinTrees", name := "move", desc := "(IIII)I" } : Jvm.MethodName)) ∈ vz_tbl := vz_in (List.mem_append_right _ (List.mem_append_left _ (List.mem_of_getElem? (i := 228) rfl))) rfl
theorem kw_229 : (Jvm.Cond.selects "BinTrees" ({ cls := "BinTrees", name := "move", desc := "(IIII)I" } : Jvm.MethodName) ({ cls := "BinTrees", name := "move", desc := "(IIII)I" } : Jvm.MethodName)) ∈ vz_tbl := vz_in (List.mem_append_right _ (List.mem_append_left _ (List.mem_of_getElem? (i := 229) rfl))) rfl
theorem kw_230 : (Jvm.Cond.code ({ cls := "BinTrees", name := "move", desc := "(IIII)I" } : Jvm.MethodName) prog_1_method_3_code (5 : Nat) (Option.some Jvm.ClassFile.FieldType.int)) ∈ vz_tbl := vz_in (List.mem_append_right _ (List.mem_append_left _ (List.mem_of_getElem? (i := 230) rfl))) rfl
theorem kw_231 : (Jvm.Cond.methodLink "BinTrees" (42 : Nat) ({ cls := "BinTrees", name := "isMade", desc := "(I)Z" } : Jvm.MethodName)) ∈ vz_tbl := vz_in (List.mem_append_right _ (List.mem_append_left _ (List.mem_of_getElem? (i := 231) rfl))) rfl
theorem kw_233 : (Jvm.Cond.instanceMethod ({ cls := "BinTrees", name := "isMade", desc := "(I)Z" } : Jvm.MethodName)) ∈ vz_tbl := vz_in (List.mem_append_right _ (List.mem_append_left _ (List.mem_of_getElem? (i := 233) rfl))) rfl
theorem kw_234 : (Jvm.Cond.code ({ cls := "BinTrees", name := "isMade", desc := "(I)Z" } : Jvm.MethodName) prog_1_method_17_code (2 : Nat) (Option.some Jvm.ClassFile.FieldType.boolean)) ∈ vz_tbl := vz_in (List.mem_append_right _ (List.mem_append_left _ (List.mem_of_getElem? (i := 234) rfl))) rfl
theorem kw_235 : (Jvm.Cond.methodLink "BinTrees" (45 : Nat) ({ cls := "BinTrees", name := "isObject", desc := "(I)Z" } : Jvm.MethodName)) ∈ vz_tbl := vz_in (List.mem_append_right _ (List.mem_append_left _ (List.mem_of_getElem? (i := 235) rfl))) rfl
theorem kw_237 : (Jvm.Cond.instanceMethod ({ cls := "BinTrees", name := "isObject", desc := "(I)Z" } : Jvm.MethodName)) ∈ vz_tbl := vz_in (List.mem_append_right _ (List.mem_append_left _ (List.mem_of_getElem? (i := 237) rfl))) rfl
theorem kw_238 : (Jvm.Cond.code ({ cls := "BinTrees", name := "isObject", desc := "(I)Z" } : Jvm.MethodName) prog_1_method_16_code (2 : Nat) (Option.some Jvm.ClassFile.FieldType.boolean)) ∈ vz_tbl := vz_in (List.mem_append_right _ (List.mem_append_left _ (List.mem_of_getElem? (i := 238) rfl))) rfl
theorem kw_239 : (Jvm.Cond.methodLink "BinTreesLaw" (23 : Nat) ({ cls := "BinTrees", name := "remove", desc := "(IIZ)I" } : Jvm.MethodName)) ∈ vz_tbl := vz_in (List.mem_append_right _ (List.mem_append_left _ (List.mem_of_getElem? (i := 239) rfl))) rfl
theorem kw_240 : (Jvm.Cond.instanceMethod ({ cls := "BinTrees", name := "remove", desc := "(IIZ)I" } : Jvm.MethodName)) ∈ vz_tbl := vz_in (List.mem_append_right _ (List.mem_append_right _ (List.mem_append_left _ (List.mem_of_getElem? (i := 0) rfl)))) rfl
theorem kw_241 : (Jvm.Cond.selects "BinTrees" ({ cls := "BinTrees", name := "remove", desc := "(IIZ)I" } : Jvm.MethodName) ({ cls := "BinTrees", name := "remove", desc := "(IIZ)I" } : Jvm.MethodName)) ∈ vz_tbl := vz_in (List.mem_append_right _ (List.mem_append_right _ (List.mem_append_left _ (List.mem_of_getElem? (i := 1) rfl)))) rfl
theorem kw_242 : (Jvm.Cond.code ({ cls := "BinTrees", name := "remove", desc := "(IIZ)I" } : Jvm.MethodName) prog_1_method_4_code (5 : Nat) (Option.some Jvm.ClassFile.FieldType.int)) ∈ vz_tbl := vz_in (List.mem_append_right _ (List.mem_append_right _ (List.mem_append_left _ (List.mem_of_getElem? (i := 2) rfl)))) rfl
theorem kw_243 : (Jvm.Cond.methodLink "BinTreesLaw" (28 : Nat) ({ cls := "BinTrees", name := "undo", desc := "(II)I" } : Jvm.MethodName)) ∈ vz_tbl := vz_in (List.mem_append_right _ (List.mem_append_right _ (List.mem_append_left _ (List.mem_of_getElem? (i := 3) rfl)))) rfl
theorem kw_244 : (Jvm.Cond.instanceMethod ({ cls := "BinTrees", name := "undo", desc := "(II)I" } : Jvm.MethodName)) ∈ vz_tbl := vz_in (List.mem_append_right _ (List.mem_append_right _ (List.mem_append_left _ (List.mem_of_getElem? (i := 4) rfl)))) rfl
theorem kw_245 : (Jvm.Cond.selects "BinTrees" ({ cls := "BinTrees", name := "undo", desc := "(II)I" } : Jvm.MethodName) ({ cls := "BinTrees", name := "undo", desc := "(II)I" } : Jvm.MethodName)) ∈ vz_tbl := vz_in (List.mem_append_right _ (List.mem_append_right _ (List.mem_append_left _ (List.mem_of_getElem? (i := 5) rfl)))) rfl
theorem kw_246 : (Jvm.Cond.code ({ cls := "BinTrees", name := "undo", desc := "(II)I" } : Jvm.MethodName) prog_1_method_5_code (3 : Nat) (Option.some Jvm.ClassFile.FieldType.int)) ∈ vz_tbl := vz_in (List.mem_append_right _ (List.mem_append_right _ (List.mem_append_left _ (List.mem_of_getElem? (i := 6) rfl)))) rfl
theorem kw_247 : (Jvm.Cond.methodLink "BinTrees" (48 : Nat) ({ cls := "BinTrees", name := "isRow", desc := "(I)Z" } : Jvm.MethodName)) ∈ vz_tbl := vz_in (List.mem_append_right _ (List.mem_append_right _ (List.mem_append_left _ (List.mem_of_getElem? (i := 7) rfl)))) rfl
theorem kw_249 : (Jvm.Cond.instanceMethod ({ cls := "BinTrees", name := "isRow", desc := "(I)Z" } : Jvm.MethodName)) ∈ vz_tbl := vz_in (List.mem_append_right _ (List.mem_append_right _ (List.mem_append_left _ (List.mem_of_getElem? (i := 9) rfl)))) rfl
theorem kw_250 : (Jvm.Cond.code ({ cls := "BinTrees", name := "isRow", desc := "(I)Z" } : Jvm.MethodName) prog_1_method_18_code (2 : Nat) (Option.some Jvm.ClassFile.FieldType.boolean)) ∈ vz_tbl := vz_in (List.mem_append_right _ (List.mem_append_right _ (List.mem_append_left _ (List.mem_of_getElem? (i := 10) rfl)))) rfl
theorem kw_251 : (Jvm.Cond.methodLink "BinTrees" (51 : Nat) ({ cls := "BinTrees$Log", name := "mayBeUndoneBy", desc := "(II)Z" } : Jvm.MethodName)) ∈ vz_tbl := vz_in (List.mem_append_right _ (List.mem_append_right _ (List.mem_append_left _ (List.mem_of_getElem? (i := 11) rfl)))) rfl
theorem kw_252 : (Jvm.Cond.instanceMethod ({ cls := "BinTrees$Log", name := "mayBeUndoneBy", desc := "(II)Z" } : Jvm.MethodName)) ∈ vz_tbl := vz_in (List.mem_append_right _ (List.mem_append_right _ (List.mem_append_left _ (List.mem_of_getElem? (i := 12) rfl)))) rfl
theorem kw_253 : (Jvm.Cond.selects "BinTrees$Log" ({ cls := "BinTrees$Log", name := "mayBeUndoneBy", desc := "(II)Z" } : Jvm.MethodName) ({ cls := "BinTrees$Log", name := "mayBeUndoneBy", desc := "(II)Z" } : Jvm.MethodName)) ∈ vz_tbl := vz_in (List.mem_append_right _ (List.mem_append_right _ (List.mem_append_left _ (List.mem_of_getElem? (i := 13) rfl)))) rfl
theorem kw_254 : (Jvm.Cond.code ({ cls := "BinTrees$Log", name := "mayBeUndoneBy", desc := "(II)Z" } : Jvm.MethodName) prog_2_method_5_code (3 : Nat) (Option.some Jvm.ClassFile.FieldType.boolean)) ∈ vz_tbl := vz_in (List.mem_append_right _ (List.mem_append_right _ (List.mem_append_left _ (List.mem_of_getElem? (i := 14) rfl)))) rfl
theorem kw_255 : (Jvm.Cond.methodLink "BinTreesLaw" (33 : Nat) ({ cls := "BinTrees", name := "see", desc := "(II)I" } : Jvm.MethodName)) ∈ vz_tbl := vz_in (List.mem_append_right _ (List.mem_append_right _ (List.mem_append_left _ (List.mem_of_getElem? (i := 15) rfl)))) rfl
theorem kw_256 : (Jvm.Cond.instanceMethod ({ cls := "BinTrees", name := "see", desc := "(II)I" } : Jvm.MethodName)) ∈ vz_tbl := vz_in (List.mem_append_right _ (List.mem_append_right _ (List.mem_append_left _ (List.mem_of_getElem? (i := 16) rfl)))) rfl
theorem kw_257 : (Jvm.Cond.selects "BinTrees" ({ cls := "BinTrees", name := "see", desc := "(II)I" } : Jvm.MethodName) ({ cls := "BinTrees", name := "see", desc := "(II)I" } : Jvm.MethodName)) ∈ vz_tbl := vz_in (List.mem_append_right _ (List.mem_append_right _ (List.mem_append_left _ (List.mem_of_getElem? (i := 17) rfl)))) rfl
theorem kw_258 : (Jvm.Cond.code ({ cls := "BinTrees", name := "see", desc := "(II)I" } : Jvm.MethodName) prog_1_method_6_code (3 : Nat) (Option.some Jvm.ClassFile.FieldType.int)) ∈ vz_tbl := vz_in (List.mem_append_right _ (List.mem_append_right _ (List.mem_append_left _ (List.mem_of_getElem? (i := 18) rfl)))) rfl
theorem kw_259 : (Jvm.Cond.methodLink "BinTrees" (58 : Nat) ({ cls := "BinTrees$Person", name := "knows", desc := "(I)Z" } : Jvm.MethodName)) ∈ vz_tbl := vz_in (List.mem_append_right _ (List.mem_append_right _ (List.mem_append_left _ (List.mem_of_getElem? (i := 19) rfl)))) rfl
theorem kw_260 : (Jvm.Cond.methodLink "BinTreesLaw" (37 : Nat) ({ cls := "BinTrees", name := "meet", desc := "(II)I" } : Jvm.MethodName)) ∈ vz_tbl := vz_in (List.mem_append_right _ (List.mem_append_right _ (List.mem_append_left _ (List.mem_of_getElem? (i := 20) rfl)))) rfl
theorem kw_261 : (Jvm.Cond.instanceMethod ({ cls := "BinTrees", name := "meet", desc := "(II)I" } : Jvm.MethodName)) ∈ vz_tbl := vz_in (List.mem_append_right _ (List.mem_append_right _ (List.mem_append_left _ (List.mem_of_getElem? (i := 21) rfl)))) rfl
theorem kw_262 : (Jvm.Cond.selects "BinTrees" ({ cls := "BinTrees", name := "meet", desc := "(II)I" } : Jvm.MethodName) ({ cls := "BinTrees", name := "meet", desc := "(II)I" } : Jvm.MethodName)) ∈ vz_tbl := vz_in (List.mem_append_right _ (List.mem_append_right _ (List.mem_append_left _ (List.mem_of_getElem? (i := 22) rfl)))) rfl
theorem kw_263 : (Jvm.Cond.code ({ cls := "BinTrees", name := "meet", desc := "(II)I" } : Jvm.MethodName) prog_1_method_7_code (7 : Nat) (Option.some Jvm.ClassFile.FieldType.int)) ∈ vz_tbl := vz_in (List.mem_append_right _ (List.mem_append_right _ (List.mem_append_left _ (List.mem_of_getElem? (i := 23) rfl)))) rfl
theorem kw_264 : (Jvm.Cond.methodLink "BinTreesLaw" (41 : Nat) ({ cls := "BinTrees", name := "cost", desc := "(I)I" } : Jvm.MethodName)) ∈ vz_tbl := vz_in (List.mem_append_right _ (List.mem_append_right _ (List.mem_append_left _ (List.mem_of_getElem? (i := 24) rfl)))) rfl
theorem kw_265 : (Jvm.Cond.instanceMethod ({ cls := "BinTrees", name := "cost", desc := "(I)I" } : Jvm.MethodName)) ∈ vz_tbl := vz_in (List.mem_append_right _ (List.mem_append_right _ (List.mem_append_left _ (List.mem_of_getElem? (i := 25) rfl)))) rfl
theorem kw_266 : (Jvm.Cond.selects "BinTrees" ({ cls := "BinTrees", name := "cost", desc := "(I)I" } : Jvm.MethodName) ({ cls := "BinTrees", name := "cost", desc := "(I)I" } : Jvm.MethodName)) ∈ vz_tbl := vz_in (List.mem_append_right _ (List.mem_append_right _ (List.mem_append_left _ (List.mem_of_getElem? (i := 26) rfl)))) rfl
theorem kw_267 : (Jvm.Cond.code ({ cls := "BinTrees", name := "cost", desc := "(I)I" } : Jvm.MethodName) prog_1_method_8_code (2 : Nat) (Option.some Jvm.ClassFile.FieldType.int)) ∈ vz_tbl := vz_in (List.mem_append_right _ (List.mem_append_right _ (List.mem_append_left _ (List.mem_of_getElem? (i := 27) rfl)))) rfl
theorem kw_268 : (Jvm.Cond.methodLink "BinTreesLaw" (45 : Nat) ({ cls := "BinTrees", name := "object", desc := "(III)I" } : Jvm.MethodName)) ∈ vz_tbl := vz_in (List.mem_append_right _ (List.mem_append_right _ (List.mem_append_left _ (List.mem_of_getElem? (i := 28) rfl)))) rfl
theorem kw_269 : (Jvm.Cond.instanceMethod ({ cls := "BinTrees", name := "object", desc := "(III)I" } : Jvm.MethodName)) ∈ vz_tbl := vz_in (List.mem_append_right _ (List.mem_append_right _ (List.mem_append_left _ (List.mem_of_getElem? (i := 29) rfl)))) rfl
theorem kw_270 : (Jvm.Cond.selects "BinTrees" ({ cls := "BinTrees", name := "object", desc := "(III)I" } : Jvm.MethodName) ({ cls := "BinTrees", name := "object", desc := "(III)I" } : Jvm.MethodName)) ∈ vz_tbl := vz_in (List.mem_append_right _ (List.mem_append_right _ (List.mem_append_left _ (List.mem_of_getElem? (i := 30) rfl)))) rfl
theorem kw_271 : (Jvm.Cond.code ({ cls := "BinTrees", name := "object", desc := "(III)I" } : Jvm.MethodName) prog_1_method_9_code (5 : Nat) (Option.some Jvm.ClassFile.FieldType.int)) ∈ vz_tbl := vz_in (List.mem_append_right _ (List.mem_append_right _ (List.mem_append_left _ (List.mem_of_getElem? (i := 31) rfl)))) rfl
theorem kw_272 : (Jvm.Cond.methodLink "BinTrees" (92 : Nat) ({ cls := "BinTrees$Tree", name := "topOf", desc := "(I)I" } : Jvm.MethodName)) ∈ vz_tbl := vz_in (List.mem_append_right _ (List.mem_append_right _ (List.mem_append_left _ (List.mem_of_getElem? (i := 32) rfl)))) rfl
theorem kw_273 : (Jvm.Cond.instanceMethod ({ cls := "BinTrees$Tree", name := "topOf", desc := "(I)I" } : Jvm.MethodName)) ∈ vz_tbl := vz_in (List.mem_append_right _ (List.mem_append_right _ (List.mem_append_left _ (List.mem_of_getElem? (i := 33) rfl)))) rfl
theorem kw_274 : (Jvm.Cond.selects "BinTrees$Tree" ({ cls := "BinTrees$Tree", name := "topOf", desc := "(I)I" } : Jvm.MethodName) ({ cls := "BinTrees$Tree", name := "topOf", desc := "(I)I" } : Jvm.MethodName)) ∈ vz_tbl := vz_in (List.mem_append_right _ (List.mem_append_right _ (List.mem_append_left _ (List.mem_of_getElem? (i := 34) rfl)))) rfl
theorem kw_275 : (Jvm.Cond.code ({ cls := "BinTrees$Tree", name := "topOf", desc := "(I)I" } : Jvm.MethodName) prog_4_method_9_code (4 : Nat) (Option.some Jvm.ClassFile.FieldType.int)) ∈ vz_tbl := vz_in (List.mem_append_right _ (List.mem_append_right _ (List.mem_append_left _ (List.mem_of_getElem? (i := 35) rfl)))) rfl
theorem kw_276 : (Jvm.Cond.methodLink "BinTrees" (96 : Nat) ({ cls := "BinTrees$Tree", name := "stepsUp", desc := "(II)I" } : Jvm.MethodName)) ∈ vz_tbl := vz_in (List.mem_append_right _ (List.mem_append_right _ (List.mem_append_left _ (List.mem_of_getElem? (i := 36) rfl)))) rfl
theorem kw_277 : (Jvm.Cond.methodLink "BinTrees" (99 : Nat) ({ cls := "BinTrees$Tree", name := "childCount", desc := "(I)I" } : Jvm.MethodName)) ∈ vz_tbl := vz_in (List.mem_append_right _ (List.mem_append_right _ (List.mem_append_left _ (List.mem_of_getElem? (i := 37) rfl)))) rfl
theorem kw_278 : (Jvm.Cond.instanceMethod ({ cls := "BinTrees$Tree", name := "childCount", desc := "(I)I" } : Jvm.MethodName)) ∈ vz_tbl := vz_in (List.mem_append_right _ (List.mem_append_right _ (List.mem_append_left _ (List.mem_of_getElem? (i := 38) rfl)))) rfl
theorem kw_279 : (Jvm.Cond.selects "BinTrees$Tree" ({ cls := "BinTrees$Tree", name := "childCount", desc := "(I)I" } : Jvm.MethodName) ({ cls := "BinTrees$Tree", name := "childCount", desc := "(I)I" } : Jvm.MethodName)) ∈ vz_tbl := vz_in (List.mem_append_right _ (List.mem_append_right _ (List.mem_append_left _ (List.mem_of_getElem? (i := 39) rfl)))) rfl
theorem kw_280 : (Jvm.Cond.code ({ cls := "BinTrees$Tree", name := "childCount", desc := "(I)I" } : Jvm.MethodName) prog_4_method_13_code (4 : Nat) (Option.some Jvm.ClassFile.FieldType.int)) ∈ vz_tbl := vz_in (List.mem_append_right _ (List.mem_append_right _ (List.mem_append_left _ (List.mem_of_getElem? (i := 40) rfl)))) rfl
theorem kw_281 : (Jvm.Cond.methodLink "BinTrees" (102 : Nat) ({ cls := "BinTrees$Tree", name := "placeOf", desc := "(I)I" } : Jvm.MethodName)) ∈ vz_tbl := vz_in (List.mem_append_right _ (List.mem_append_right _ (List.mem_append_left _ (List.mem_of_getElem? (i := 41) rfl)))) rfl
theorem kw_282 : (Jvm.Cond.instanceMethod ({ cls := "BinTrees$Tree", name := "placeOf", desc := "(I)I" } : Jvm.MethodName)) ∈ vz_tbl := vz_in (List.mem_append_right _ (List.mem_append_right _ (List.mem_append_left _ (List.mem_of_getElem? (i := 42) rfl)))) rfl
theorem kw_283 : (Jvm.Cond.selects "BinTrees$Tree" ({ cls := "BinTrees$Tree", name := "placeOf", desc := "(I)I" } : Jvm.MethodName) ({ cls := "BinTrees$Tree", name := "placeOf", desc := "(I)I" } : Jvm.MethodName)) ∈ vz_tbl := vz_in (List.mem_append_right _ (List.mem_append_right _ (List.mem_append_left _ (List.mem_of_getElem? (i := 43) rfl)))) rfl
theorem kw_284 : (Jvm.Cond.code ({ cls := "BinTrees$Tree", name := "placeOf", desc := "(I)I" } : Jvm.MethodName) prog_4_method_15_code (4 : Nat) (Option.some Jvm.ClassFile.FieldType.int)) ∈ vz_tbl := vz_in (List.mem_append_right _ (List.mem_append_right _ (List.mem_append_left _ (List.mem_of_getElem? (i := 44) rfl)))) rfl
theorem kw_285 : (Jvm.Cond.methodLink "BinTreesLaw" (50 : Nat) ({ cls := "BinTrees", name := "child", desc := "(III)I" } : Jvm.MethodName)) ∈ vz_tbl := vz_in (List.mem_append_right _ (List.mem_append_right _ (List.mem_append_left _ (List.mem_of_getElem? (i := 45) rfl)))) rfl
theorem kw_286 : (Jvm.Cond.instanceMethod ({ cls := "BinTrees", name := "child", desc := "(III)I" } : Jvm.MethodName)) ∈ vz_tbl := vz_in (List.mem_append_right _ (List.mem_append_right _ (List.mem_append_left _ (List.mem_of_getElem? (i := 46) rfl)))) rfl
theorem kw_287 : (Jvm.Cond.selects "BinTrees" ({ cls := "BinTrees", name := "child", desc := "(III)I" } : Jvm.MethodName) ({ cls := "BinTrees", name := "child", desc := "(III)I" } : Jvm.MethodName)) ∈ vz_tbl := vz_in (List.mem_append_right _ (List.mem_append_right _ (List.mem_append_left _ (List.mem_of_getElem? (i := 47) rfl)))) rfl
theorem kw_288 : (Jvm.Cond.code ({ cls := "BinTrees", name := "child", desc := "(III)I" } : Jvm.MethodName) prog_1_method_10_code (5 : Nat) (Option.some Jvm.ClassFile.FieldType.int)) ∈ vz_tbl := vz_in (List.mem_append_right _ (List.mem_append_right _ (List.mem_append_left _ (List.mem_of_getElem? (i := 48) rfl)))) rfl
theorem kw_289 : (Jvm.Cond.methodLink "BinTrees" (108 : Nat) ({ cls := "BinTrees$Tree", name := "childAt", desc := "(II)I" } : Jvm.MethodName)) ∈ vz_tbl := vz_in (List.mem_append_right _ (List.mem_append_right _ (List.mem_append_left _ (List.mem_of_getElem? (i := 49) rfl)))) rfl
theorem kw_290 : (Jvm.Cond.instanceMethod ({ cls := "BinTrees$Tree", name := "childAt", desc := "(II)I" } : Jvm.MethodName)) ∈ vz_tbl := vz_in (List.mem_append_right _ (List.mem_append_right _ (List.mem_append_left _ (List.mem_of_getElem? (i := 50) rfl)))) rfl
theorem kw_291 : (Jvm.Cond.selects "BinTrees$Tree" ({ cls := "BinTrees$Tree", name := "childAt", desc := "(II)I" } : Jvm.MethodName) ({ cls := "BinTrees$Tree", name := "childAt", desc := "(II)I" } : Jvm.MethodName)) ∈ vz_tbl := vz_in (List.mem_append_right _ (List.mem_append_right _ (List.mem_append_left _ (List.mem_of_getElem? (i := 51) rfl)))) rfl
theorem kw_292 : (Jvm.Cond.code ({ cls := "BinTrees$Tree", name := "childAt", desc := "(II)I" } : Jvm.MethodName) prog_4_method_14_code (5 : Nat) (Option.some Jvm.ClassFile.FieldType.int)) ∈ vz_tbl := vz_in (List.mem_append_right _ (List.mem_append_right _ (List.mem_append_left _ (List.mem_of_getElem? (i := 52) rfl)))) rfl
theorem kw_293 : (Jvm.Cond.methodLink "BinTreesLaw" (54 : Nat) ({ cls := "BinTrees", name := "row", desc := "(II)I" } : Jvm.MethodName)) ∈ vz_tbl := vz_in (List.mem_append_right _ (List.mem_append_right _ (List.mem_append_left _ (List.mem_of_getElem? (i := 53) rfl)))) rfl
theorem kw_294 : (Jvm.Cond.instanceMethod ({ cls := "BinTrees", name := "row", desc := "(II)I" } : Jvm.MethodName)) ∈ vz_tbl := vz_in (List.mem_append_right _ (List.mem_append_right _ (List.mem_append_left _ (List.mem_of_getElem? (i := 54) rfl)))) rfl
theorem kw_295 : (Jvm.Cond.selects "BinTrees" ({ cls := "BinTrees", name := "row", desc := "(II)I" } : Jvm.MethodName) ({ cls := "BinTrees", name := "row", desc := "(II)I" } : Jvm.MethodName)) ∈ vz_tbl := vz_in (List.mem_append_right _ (List.mem_append_right _ (List.mem_append_left _ (List.mem_of_getElem? (i := 55) rfl)))) rfl
theorem kw_296 : (Jvm.Cond.code ({ cls := "BinTrees", name := "row", desc := "(II)I" } : Jvm.MethodName) prog_1_method_11_code (3 : Nat) (Option.some Jvm.ClassFile.FieldType.int)) ∈ vz_tbl := vz_in (List.mem_append_right _ (List.mem_append_right _ (List.mem_append_left _ (List.mem_of_getElem? (i := 56) rfl)))) rfl
theorem kw_297 : (Jvm.Cond.methodLink "BinTreesLaw" (58 : Nat) ({ cls := "BinTrees", name := "judged", desc := "(II)I" } : Jvm.MethodName)) ∈ vz_tbl := vz_in (List.mem_append_right _ (List.mem_append_right _ (List.mem_append_left _ (List.mem_of_getElem? (i := 57) rfl)))) rfl
theorem kw_298 : (Jvm.Cond.instanceMethod ({ cls := "BinTrees", name := "judged", desc := "(II)I" } : Jvm.MethodName)) ∈ vz_tbl := vz_in (List.mem_append_right _ (List.mem_append_right _ (List.mem_append_left _ (List.mem_of_getElem? (i := 58) rfl)))) rfl
theorem kw_299 : (Jvm.Cond.selects "BinTrees" ({ cls := "BinTrees", name := "judged", desc := "(II)I" } : Jvm.MethodName) ({ cls := "BinTrees", name := "judged", desc := "(II)I" } : Jvm.MethodName)) ∈ vz_tbl := vz_in (List.mem_append_right _ (List.mem_append_right _ (List.mem_append_left _ (List.mem_of_getElem? (i := 59) rfl)))) rfl
theorem kw_300 : (Jvm.Cond.code ({ cls := "BinTrees", name := "judged", desc := "(II)I" } : Jvm.MethodName) prog_1_method_12_code (3 : Nat) (Option.some Jvm.ClassFile.FieldType.int)) ∈ vz_tbl := vz_in (List.mem_append_right _ (List.mem_append_right _ (List.mem_append_left _ (List.mem_of_getElem? (i := 60) rfl)))) rfl
theorem kw_301 : (Jvm.Cond.methodLink "BinTreesLaw" (62 : Nat) ({ cls := "BinTrees", name := "alike", desc := "(II)Z" } : Jvm.MethodName)) ∈ vz_tbl := vz_in (List.mem_append_right _ (List.mem_append_right _ (List.mem_append_left _ (List.mem_of_getElem? (i := 61) rfl)))) rfl
theorem kw_302 : (Jvm.Cond.instanceMethod ({ cls := "BinTrees", name := "alike", desc := "(II)Z" } : Jvm.MethodName)) ∈ vz_tbl := vz_in (List.mem_append_right _ (List.mem_append_right _ (List.mem_append_left _ (List.mem_of_getElem? (i := 62) rfl)))) rfl
theorem kw_303 : (Jvm.Cond.selects "BinTrees" ({ cls := "BinTrees", name := "alike", desc := "(II)Z" } : Jvm.MethodName) ({ cls := "BinTrees", name := "alike", desc := "(II)Z" } : Jvm.MethodName)) ∈ vz_tbl := vz_in (List.mem_append_right _ (List.mem_append_right _ (List.mem_append_left _ (List.mem_of_getElem? (i := 63) rfl)))) rfl
theorem kw_304 : (Jvm.Cond.code ({ cls := "BinTrees", name := "alike", desc := "(II)Z" } : Jvm.MethodName) prog_1_method_13_code (3 : Nat) (Option.some Jvm.ClassFile.FieldType.boolean)) ∈ vz_tbl := vz_in (List.mem_append_right _ (List.mem_append_right _ (List.mem_append_left _ (List.mem_of_getElem? (i := 64) rfl)))) rfl
theorem kw_305 : (Jvm.Cond.methodLink "BinTrees" (129 : Nat) ({ cls := "BinTrees$Tree", name := "sameAs", desc := "(LBinTrees$Tree;)Z" } : Jvm.MethodName)) ∈ vz_tbl := vz_in (List.mem_append_right _ (List.mem_append_right _ (List.mem_append_left _ (List.mem_of_getElem? (i := 65) rfl)))) rfl
theorem kw_306 : (Jvm.Cond.instanceMethod ({ cls := "BinTrees$Tree", name := "sameAs", desc := "(LBinTrees$Tree;)Z" } : Jvm.MethodName)) ∈ vz_tbl := vz_in (List.mem_append_right _ (List.mem_append_right _ (List.mem_append_left _ (List.mem_of_getElem? (i := 66) rfl)))) rfl
theorem kw_307 : (Jvm.Cond.selects "BinTrees$Tree" ({ cls := "BinTrees$Tree", name := "sameAs", desc := "(LBinTrees$Tree;)Z" } : Jvm.MethodName) ({ cls := "BinTrees$Tree", name := "sameAs", desc := "(LBinTrees$Tree;)Z" } : Jvm.MethodName)) ∈ vz_tbl := vz_in (List.mem_append_right _ (List.mem_append_right _ (List.mem_append_left _ (List.mem_of_getElem? (i := 67) rfl)))) rfl
theorem kw_308 : (Jvm.Cond.code ({ cls := "BinTrees$Tree", name := "sameAs", desc := "(LBinTrees$Tree;)Z" } : Jvm.MethodName) prog_4_method_16_code (3 : Nat) (Option.some Jvm.ClassFile.FieldType.boolean)) ∈ vz_tbl := vz_in (List.mem_append_right _ (List.mem_append_right _ (List.mem_append_left _ (List.mem_of_getElem? (i := 68) rfl)))) rfl
theorem kw_309 : (Jvm.Cond.methodLink "BinTrees$Tree" (57 : Nat) ({ cls := "BinTrees$Tree", name := "placeOf", desc := "(I)I" } : Jvm.MethodName)) ∈ vz_tbl := vz_in (List.mem_append_right _ (List.mem_append_right _ (List.mem_append_left _ (List.mem_of_getElem? (i := 69) rfl)))) rfl
theorem kw_310 : (Jvm.Cond.methodLink "BinTreesLaw" (67 : Nat) ({ cls := "BinTrees", name := "total", desc := "(I)I" } : Jvm.MethodName)) ∈ vz_tbl := vz_in (List.mem_append_right _ (List.mem_append_right _ (List.mem_append_left _ (List.mem_of_getElem? (i := 70) rfl)))) rfl
theorem kw_311 : (Jvm.Cond.instanceMethod ({ cls := "BinTrees", name := "total", desc := "(I)I" } : Jvm.MethodName)) ∈ vz_tbl := vz_in (List.mem_append_right _ (List.mem_append_right _ (List.mem_append_left _ (List.mem_of_getElem? (i := 71) rfl)))) rfl
theorem kw_312 : (Jvm.Cond.selects "BinTrees" ({ cls := "BinTrees", name := "total", desc := "(I)I" } : Jvm.MethodName) ({ cls := "BinTrees", name := "total", desc := "(I)I" } : Jvm.MethodName)) ∈ vz_tbl := vz_in (List.mem_append_right _ (List.mem_append_right _ (List.mem_append_left _ (List.mem_of_getElem? (i := 72) rfl)))) rfl
theorem kw_313 : (Jvm.Cond.code ({ cls := "BinTrees", name := "total", desc := "(I)I" } : Jvm.MethodName) prog_1_method_14_code (3 : Nat) (Option.some Jvm.ClassFile.FieldType.int)) ∈ vz_tbl := vz_in (List.mem_append_right _ (List.mem_append_right _ (List.mem_append_left _ (List.mem_of_getElem? (i := 73) rfl)))) rfl
theorem kw_314 : (Jvm.Cond.classLink "BinTreesLaw" (10 : Nat) "BinTreesModel") ∈ vz_tbl := vz_in (List.mem_append_right _ (List.mem_append_right _ (List.mem_append_left _ (List.mem_of_getElem? (i := 74) rfl)))) rfl
theorem kw_315 : (Jvm.Cond.instantiable "BinTreesModel" (26 : Nat)) ∈ vz_tbl := vz_in (List.mem_append_right _ (List.mem_append_right _ (List.mem_append_left _ (List.mem_of_getElem? (i := 75) rfl)))) rfl
theorem kw_316 : (Jvm.Cond.methodLink "BinTreesLaw" (12 : Nat) ({ cls := "BinTreesModel", name := "<init>", desc := "()V" } : Jvm.MethodName)) ∈ vz_tbl := vz_in (List.mem_append_right _ (List.mem_append_right _ (List.mem_append_left _ (List.mem_of_getElem? (i := 76) rfl)))) rfl
theorem kw_317 : (Jvm.Cond.instanceMethod ({ cls := "BinTreesModel", name := "<init>", desc := "()V" } : Jvm.MethodName)) ∈ vz_tbl := vz_in (List.mem_append_right _ (List.mem_append_right _ (List.mem_append_left _ (List.mem_of_getElem? (i := 77) rfl)))) rfl
theorem kw_318 : (Jvm.Cond.code ({ cls := "BinTreesModel", name := "<init>", desc := "()V" } : Jvm.MethodName) prog_6_method_1_code (1 : Nat) (Option.none : Option Jvm.ClassFile.FieldType)) ∈ vz_tbl := vz_in (List.mem_append_right _ (List.mem_append_right _ (List.mem_append_left _ (List.mem_of_getElem? (i := 78) rfl)))) rfl
theorem kw_319 : (Jvm.Cond.methodLink "BinTreesModel" (1 : Nat) ({ cls := "java/lang/Object", name := "<init>", desc := "()V" } : Jvm.MethodName)) ∈ vz_tbl := vz_in (List.mem_append_right _ (List.mem_append_right _ (List.mem_append_left _ (List.mem_of_getElem? (i := 79) rfl)))) rfl
theorem kw_320 : (Jvm.Cond.fieldLink "BinTreesModel" (78 : Nat) "BinTreesModel" "thrown" "I") ∈ vz_tbl := vz_in (List.mem_append_right _ (List.mem_append_right _ (List.mem_append_left _ (List.mem_of_getElem? (i := 80) rfl)))) rfl
theorem kw_321 : (Jvm.Cond.fieldLink "BinTreesModel" (81 : Nat) "BinTreesModel" "rows" "I") ∈ vz_tbl := vz_in (List.mem_append_right _ (List.mem_append_right _ (List.mem_append_left _ (List.mem_of_getElem? (i := 81) rfl)))) rfl
theorem kw_322 : (Jvm.Cond.fieldLink "BinTreesModel" (7 : Nat) "BinTreesModel" "sort" "[I") ∈ vz_tbl := vz_in (List.mem_append_right _ (List.mem_append_right _ (List.mem_append_left _ (List.mem_of_getElem? (i := 82) rfl)))) rfl
theorem kw_323 : (Jvm.Cond.fieldLink "BinTreesModel" (13 : Nat) "BinTreesModel" "who" "[I") ∈ vz_tbl := vz_in (List.mem_append_right _ (List.mem_append_right _ (List.mem_append_left _ (List.mem_of_getElem? (i := 83) rfl)))) rfl
theorem kw_324 : (Jvm.Cond.fieldLink "BinTreesModel" (16 : Nat) "BinTreesModel" "time" "[I") ∈ vz_tbl := vz_in (List.mem_append_right _ (List.mem_append_right _ (List.mem_append_left _ (List.mem_of_getElem? (i := 84) rfl)))) rfl
theorem kw_325 : (Jvm.Cond.fieldLink "BinTreesModel" (19 : Nat) "BinTreesModel" "what" "[I") ∈ vz_tbl := vz_in (List.mem_append_right _ (List.mem_append_right _ (List.mem_append_left _ (List.mem_of_getElem? (i := 85) rfl)))) rfl
theorem kw_326 : (Jvm.Cond.fieldLink "BinTreesModel" (22 : Nat) "BinTreesModel" "to" "[I") ∈ vz_tbl := vz_in (List.mem_append_right _ (List.mem_append_right _ (List.mem_append_left _ (List.mem_of_getElem? (i := 86) rfl)))) rfl
theorem kw_327 : (Jvm.Cond.fieldLink "BinTreesModel" (25 : Nat) "BinTreesModel" "behind" "[I") ∈ vz_tbl := vz_in (List.mem_append_right _ (List.mem_append_right _ (List.mem_append_left _ (List.mem_of_getElem? (i := 87) rfl)))) rfl
theorem kw_328 : (Jvm.Cond.fieldLink "BinTreesModel" (28 : Nat) "BinTreesModel" "objects" "I") ∈ vz_tbl := vz_in (List.mem_append_right _ (List.mem_append_right _ (List.mem_append_left _ (List.mem_of_getElem? (i := 88) rfl)))) rfl
theorem kw_329 : (Jvm.Cond.fieldLink "BinTreesModel" (32 : Nat) "BinTreesModel" "knows" "[Z") ∈ vz_tbl := vz_in (List.mem_append_right _ (List.mem_append_right _ (List.mem_append_left _ (List.mem_of_getElem? (i := 89) rfl)))) rfl
theorem kw_330 : (Jvm.Cond.fieldLink "BinTreesModel" (36 : Nat) "BinTreesModel" "clock" "[I") ∈ vz_tbl := vz_in (List.mem_append_right _ (List.mem_append_right _ (List.mem_append_left _ (List.mem_of_getElem? (i := 90) rfl)))) rfl
theorem kw_331 : (Jvm.Cond.fieldLink "BinTreesModel" (39 : Nat) "BinTreesModel" "cost" "[I") ∈ vz_tbl := vz_in (List.mem_append_right _ (List.mem_append_right _ (List.mem_append_left _ (List.mem_of_getElem? (i := 91) rfl)))) rfl
theorem kw_332 : (Jvm.Cond.fieldLink "BinTreesModel" (42 : Nat) "BinTreesModel" "builtFor" "I") ∈ vz_tbl := vz_in (List.mem_append_right _ (List.mem_append_right _ (List.mem_append_left _ (List.mem_of_getElem? (i := 92) rfl)))) rfl
theorem kw_333 : (Jvm.Cond.fieldLink "BinTreesModel" (45 : Nat) "BinTreesModel" "there" "[Z") ∈ vz_tbl := vz_in (List.mem_append_right _ (List.mem_append_right _ (List.mem_append_left _ (List.mem_of_getElem? (i := 93) rfl)))) rfl
theorem kw_334 : (Jvm.Cond.fieldLink "BinTreesModel" (48 : Nat) "BinTreesModel" "parent" "[I") ∈ vz_tbl := vz_in (List.mem_append_right _ (List.mem_append_right _ (List.mem_append_left _ (List.mem_of_getElem? (i := 94) rfl)))) rfl
theorem kw_335 : (Jvm.Cond.fieldLink "BinTreesModel" (51 : Nat) "BinTreesModel" "last" "[I") ∈ vz_tbl := vz_in (List.mem_append_right _ (List.mem_append_right _ (List.mem_append_left _ (List.mem_of_getElem? (i := 95) rfl)))) rfl
theorem kw_336 : (Jvm.Cond.fieldLink "BinTreesModel" (54 : Nat) "BinTreesModel" "kids" "[I") ∈ vz_tbl := vz_in (List.mem_append_right _ (List.mem_append_right _ (List.mem_append_left _ (List.mem_of_getElem? (i := 96) rfl)))) rfl
theorem kw_337 : (Jvm.Cond.fieldLink "BinTreesModel" (57 : Nat) "BinTreesModel" "kid" "[I") ∈ vz_tbl := vz_in (List.mem_append_right _ (List.mem_append_right _ (List.mem_append_left _ (List.mem_of_getElem? (i := 97) rfl)))) rfl
theorem kw_338 : (Jvm.Cond.fieldLink "BinTreesModel" (60 : Nat) "BinTreesModel" "how" "[I") ∈ vz_tbl := vz_in (List.mem_append_right _ (List.mem_append_right _ (List.mem_append_left _ (List.mem_of_getElem? (i := 98) rfl)))) rfl
theorem kw_339 : (Jvm.Cond.fieldLink "BinTreesModel" (88 : Nat) "BinTreesModel" "orders" "I") ∈ vz_tbl := vz_in (List.mem_append_right _ (List.mem_append_right _ (List.mem_append_left _ (List.mem_of_getElem? (i := 99) rfl)))) rfl
theorem kw_340 : (Jvm.Cond.fieldLink "BinTreesModel" (63 : Nat) "BinTreesModel" "order" "[I") ∈ vz_tbl := vz_in (List.mem_append_right _ (List.mem_append_right _ (List.mem_append_left _ (List.mem_of_getElem? (i := 100) rfl)))) rfl
theorem kw_341 : (Jvm.Cond.fieldLink "BinTreesModel" (159 : Nat) "BinTreesModel" "others" "I") ∈ vz_tbl := vz_in (List.mem_append_right _ (List.mem_append_right _ (List.mem_append_left _ (List.mem_of_getElem? (i := 101) rfl)))) rfl
theorem kw_342 : (Jvm.Cond.fieldLink "BinTreesModel" (66 : Nat) "BinTreesModel" "other" "[I") ∈ vz_tbl := vz_in (List.mem_append_right _ (List.mem_append_right _ (List.mem_append_left _ (List.mem_of_getElem? (i := 102) rfl)))) rfl
theorem kw_343 : (Jvm.Cond.fieldLink "BinTreesModel" (69 : Nat) "BinTreesModel" "oldKids" "[I") ∈ vz_tbl := vz_in (List.mem_append_right _ (List.mem_append_right _ (List.mem_append_left _ (List.mem_of_getElem? (i := 103) rfl)))) rfl
theorem kw_344 : (Jvm.Cond.fieldLink "BinTreesModel" (72 : Nat) "BinTreesModel" "oldKid" "[I") ∈ vz_tbl := vz_in (List.mem_append_right _ (List.mem_append_right _ (List.mem_append_left _ (List.mem_of_getElem? (i := 104) rfl)))) rfl
theorem kw_345 : (Jvm.Cond.fieldLink "BinTreesModel" (75 : Nat) "BinTreesModel" "oldThere" "[Z") ∈ vz_tbl := vz_in (List.mem_append_right _ (List.mem_append_right _ (List.mem_append_left _ (List.mem_of_getElem? (i := 105) rfl)))) rfl
theorem kw_399 : (Jvm.Cond.methodLink "BinTreesLaw" (17 : Nat) ({ cls := "BinTreesModel", name := "make", desc := "(I)I" } : Jvm.MethodName)) ∈ vz_tbl := vz_in (List.mem_append_right _ (List.mem_append_right _ (List.mem_append_left _ (List.mem_of_getElem? (i := 159) rfl)))) rfl
theorem kw_400 : (Jvm.Cond.instanceMethod ({ cls := "BinTreesModel", name := "make", desc := "(I)I" } : Jvm.MethodName)) ∈ vz_tbl := vz_in (List.mem_append_right _ (List.mem_append_right _ (List.mem_append_left _ (List.mem_of_getElem? (i := 160) rfl)))) rfl
theorem kw_401 : (Jvm.Cond.selects "BinTreesModel" ({ cls := "BinTreesModel", name := "make", desc := "(I)I" } : Jvm.MethodName) ({ cls := "BinTreesModel", name := "make", desc := "(I)I" } : Jvm.MethodName)) ∈ vz_tbl := vz_in (List.mem_append_right _ (List.mem_append_right _ (List.mem_append_left _ (List.mem_of_getElem? (i := 161) rfl)))) rfl
theorem kw_402 : (Jvm.Cond.code ({ cls := "BinTreesModel", name := "make", desc := "(I)I" } : Jvm.MethodName) prog_6_method_25_code (3 : Nat) (Option.some Jvm.ClassFile.FieldType.int)) ∈ vz_tbl := vz_in (List.mem_append_right _ (List.mem_append_right _ (List.mem_append_left _ (List.mem_of_getElem? (i := 162) rfl)))) rfl
theorem kw_403 : (Jvm.Cond.methodLink "BinTreesModel" (152 : Nat) ({ cls := "BinTreesModel", name := "isNode", desc := "(I)Z" } : Jvm.MethodName)) ∈ vz_tbl := vz_in (List.mem_append_right _ (List.mem_append_right _ (List.mem_append_left _ (List.mem_of_getElem? (i := 163) rfl)))) rfl
theorem kw_404 : (Jvm.Cond.static ({ cls := "BinTreesModel", name := "isNode", desc := "(I)Z" } : Jvm.MethodName)) ∈ vz_tbl := vz_in (List.mem_append_right _ (List.mem_append_right _ (List.mem_append_left _ (List.mem_of_getElem? (i := 164) rfl)))) rfl
theorem kw_405 : (Jvm.Cond.code ({ cls := "BinTreesModel", name := "isNode", desc := "(I)Z" } : Jvm.MethodName) prog_6_method_24_code (1 : Nat) (Option.some Jvm.ClassFile.FieldType.boolean)) ∈ vz_tbl := vz_in (List.mem_append_right _ (List.mem_append_right _ (List.mem_append_left _ (List.mem_of_getElem? (i := 165) rfl)))) rfl
theorem kw_406 : (Jvm.Cond.methodLink "BinTreesModel" (148 : Nat) ({ cls := "BinTreesModel", name := "within", desc := "(III)Z" } : Jvm.MethodName)) ∈ vz_tbl := vz_in (List.mem_append_right _ (List.mem_append_right _ (List.mem_append_left _ (List.mem_of_getElem? (i := 166) rfl)))) rfl
theorem kw_407 : (Jvm.Cond.static ({ cls := "BinTreesModel", name := "within", desc := "(III)Z" } : Jvm.MethodName)) ∈ vz_tbl := vz_in (List.mem_append_right _ (List.mem_append_right _ (List.mem_append_left _ (List.mem_of_getElem? (i := 167) rfl)))) rfl
theorem kw_408 : (Jvm.Cond.code ({ cls := "BinTreesModel", name := "within", desc := "(III)Z" } : Jvm.MethodName) prog_6_method_3_code (3 : Nat) (Option.some Jvm.ClassFile.FieldType.boolean)) ∈ vz_tbl := vz_in (List.mem_append_right _ (List.mem_append_right _ (List.mem_append_left _ (List.mem_of_getElem? (i := 168) rfl)))) rfl
theorem kw_409 : (Jvm.Cond.methodLink "BinTreesModel" (155 : Nat) ({ cls := "BinTreesModel", name := "add", desc := "(IIIII)I" } : Jvm.MethodName)) ∈ vz_tbl := vz_in (List.mem_append_right _ (List.mem_append_right _ (List.mem_append_left _ (List.mem_of_getElem? (i := 169) rfl)))) rfl
theorem kw_411 : (Jvm.Cond.instanceMethod ({ cls := "BinTreesModel", name := "add", desc := "(IIIII)I" } : Jvm.MethodName)) ∈ vz_tbl := vz_in (List.mem_append_right _ (List.mem_append_right _ (List.mem_append_left _ (List.mem_of_getElem? (i := 171) rfl)))) rfl
theorem kw_412 : (Jvm.Cond.code ({ cls := "BinTreesModel", name := "add", desc := "(IIIII)I" } : Jvm.MethodName) prog_6_method_23_code (6 : Nat) (Option.some Jvm.ClassFile.FieldType.int)) ∈ vz_tbl := vz_in (List.mem_append_right _ (List.mem_append_right _ (List.mem_append_left _ (List.mem_of_getElem? (i := 172) rfl)))) rfl
theorem kw_413 : (Jvm.Cond.methodLink "BinTreesModel" (144 : Nat) ({ cls := "BinTreesModel", name := "learn", desc := "(II)V" } : Jvm.MethodName)) ∈ vz_tbl := vz_in (List.mem_append_right _ (List.mem_append_right _ (List.mem_append_left _ (List.mem_of_getElem? (i := 173) rfl)))) rfl
theorem kw_415 : (Jvm.Cond.instanceMethod ({ cls := "BinTreesModel", name := "learn", desc := "(II)V" } : Jvm.MethodName)) ∈ vz_tbl := vz_in (List.mem_append_right _ (List.mem_append_right _ (List.mem_append_left _ (List.mem_of_getElem? (i := 175) rfl)))) rfl
theorem kw_416 : (Jvm.Cond.code ({ cls := "BinTreesModel", name := "learn", desc := "(II)V" } : Jvm.MethodName) prog_6_method_22_code (3 : Nat) (Option.none : Option Jvm.ClassFile.FieldType)) ∈ vz_tbl := vz_in (List.mem_append_right _ (List.mem_append_right _ (List.mem_append_left _ (List.mem_of_getElem? (i := 176) rfl)))) rfl
theorem kw_417 : (Jvm.Cond.methodLink "BinTreesModel" (141 : Nat) ({ cls := "BinTreesModel", name := "costOf", desc := "(II)I" } : Jvm.MethodName)) ∈ vz_tbl := vz_in (List.mem_append_right _ (List.mem_append_right _ (List.mem_append_left _ (List.mem_of_getElem? (i := 177) rfl)))) rfl
theorem kw_419 : (Jvm.Cond.instanceMethod ({ cls := "BinTreesModel", name := "costOf", desc := "(II)I" } : Jvm.MethodName)) ∈ vz_tbl := vz_in (List.mem_append_right _ (List.mem_append_right _ (List.mem_append_left _ (List.mem_of_getElem? (i := 179) rfl)))) rfl
theorem kw_420 : (Jvm.Cond.code ({ cls := "BinTreesModel", name := "costOf", desc := "(II)I" } : Jvm.MethodName) prog_6_method_21_code (6 : Nat) (Option.some Jvm.ClassFile.FieldType.int)) ∈ vz_tbl := vz_in (List.mem_append_right _ (List.mem_append_right _ (List.mem_append_left _ (List.mem_of_getElem? (i := 180) rfl)))) rfl
theorem kw_421 : (Jvm.Cond.methodLink "BinTreesModel" (84 : Nat) ({ cls := "BinTreesModel", name := "knowsRow", desc := "(II)Z" } : Jvm.MethodName)) ∈ vz_tbl := vz_in (List.mem_append_right _ (List.mem_append_right _ (List.mem_append_left _ (List.mem_of_getElem? (i := 181) rfl)))) rfl
theorem kw_423 : (Jvm.Cond.instanceMethod ({ cls := "BinTreesModel", name := "knowsRow", desc := "(II)Z" } : Jvm.MethodName)) ∈ vz_tbl := vz_in (List.mem_append_right _ (List.mem_append_right _ (List.mem_append_left _ (List.mem_of_getElem? (i := 183) rfl)))) rfl
theorem kw_424 : (Jvm.Cond.code ({ cls := "BinTreesModel", name := "knowsRow", desc := "(II)Z" } : Jvm.MethodName) prog_6_method_4_code (3 : Nat) (Option.some Jvm.ClassFile.FieldType.boolean)) ∈ vz_tbl := vz_in (List.mem_append_right _ (List.mem_append_right _ (List.mem_append_left _ (List.mem_of_getElem? (i := 184) rfl)))) rfl
theorem kw_425 : (Jvm.Cond.methodLink "BinTreesModel" (91 : Nat) ({ cls := "BinTreesModel", name := "isBefore", desc := "(II)Z" } : Jvm.MethodName)) ∈ vz_tbl := vz_in (List.mem_append_right _ (List.mem_append_right _ (List.mem_append_left _ (List.mem_of_getElem? (i := 185) rfl)))) rfl
theorem kw_427 : (Jvm.Cond.instanceMethod ({ cls := "BinTreesModel", name := "isBefore", desc := "(II)Z" } : Jvm.MethodName)) ∈ vz_tbl := vz_in (List.mem_append_right _ (List.mem_append_right _ (List.mem_append_left _ (List.mem_of_getElem? (i := 187) rfl)))) rfl
theorem kw_428 : (Jvm.Cond.code ({ cls := "BinTreesModel", name := "isBefore", desc := "(II)Z" } : Jvm.MethodName) prog_6_method_5_code (3 : Nat) (Option.some Jvm.ClassFile.FieldType.boolean)) ∈ vz_tbl := vz_in (List.mem_append_right _ (List.mem_append_right _ (List.mem_append_left _ (List.mem_of_getElem? (i := 188) rfl)))) rfl
theorem kw_429 : (Jvm.Cond.methodLink "BinTreesLaw" (22 : Nat) ({ cls := "BinTreesModel", name := "move", desc := "(IIII)I" } : Jvm.MethodName)) ∈ vz_tbl := vz_in (List.mem_append_right _ (List.mem_append_right _ (List.mem_append_left _ (List.mem_of_getElem? (i := 189) rfl)))) rfl
theorem kw_430 : (Jvm.Cond.instanceMethod ({ cls := "BinTreesModel", name := "move", desc := "(IIII)I" } : Jvm.MethodName)) ∈ vz_tbl := vz_in (List.mem_append_right _ (List.mem_append_right _ (List.mem_append_left _ (List.mem_of_getElem? (i := 190) rfl)))) rfl
theorem kw_431 : (Jvm.Cond.selects "BinTreesModel" ({ cls := "BinTreesModel", name := "move", desc := "(IIII)I" } : Jvm.MethodName) ({ cls := "BinTreesModel", name := "move", desc := "(IIII)I" } : Jvm.MethodName)) ∈ vz_tbl := vz_in (List.mem_append_right _ (List.mem_append_right _ (List.mem_append_left _ (List.mem_of_getElem? (i := 191) rfl)))) rfl
theorem kw_432 : (Jvm.Cond.code ({ cls := "BinTreesModel", name := "move", desc := "(IIII)I" } : Jvm.MethodName) prog_6_method_26_code (5 : Nat) (Option.some Jvm.ClassFile.FieldType.int)) ∈ vz_tbl := vz_in (List.mem_append_right _ (List.mem_append_right _ (List.mem_append_left _ (List.mem_of_getElem? (i := 192) rfl)))) rfl
theorem kw_433 : (Jvm.Cond.methodLink "BinTreesLaw" (27 : Nat) ({ cls := "BinTreesModel", name := "remove", desc := "(IIZ)I" } : Jvm.MethodName)) ∈ vz_tbl := vz_in (List.mem_append_right _ (List.mem_append_right _ (List.mem_append_left _ (List.mem_of_getElem? (i := 193) rfl)))) rfl
theorem kw_434 : (Jvm.Cond.instanceMethod ({ cls := "BinTreesModel", name := "remove", desc := "(IIZ)I" } : Jvm.MethodName)) ∈ vz_tbl := vz_in (List.mem_append_right _ (List.mem_append_right _ (List.mem_append_left _ (List.mem_of_getElem? (i := 194) rfl)))) rfl
theorem kw_435 : (Jvm.Cond.selects "BinTreesModel" ({ cls := "BinTreesModel", name := "remove", desc := "(IIZ)I" } : Jvm.MethodName) ({ cls := "BinTreesModel", name := "remove", desc := "(IIZ)I" } : Jvm.MethodName)) ∈ vz_tbl := vz_in (List.mem_append_right _ (List.mem_append_right _ (List.mem_append_left _ (List.mem_of_getElem? (i := 195) rfl)))) rfl
theorem kw_436 : (Jvm.Cond.code ({ cls := "BinTreesModel", name := "remove", desc := "(IIZ)I" } : Jvm.MethodName) prog_6_method_27_code (4 : Nat) (Option.some Jvm.ClassFile.FieldType.int)) ∈ vz_tbl := vz_in (List.mem_append_right _ (List.mem_append_right _ (List.mem_append_left _ (List.mem_of_getElem? (i := 196) rfl)))) rfl
theorem kw_437 : (Jvm.Cond.methodLink "BinTreesLaw" (32 : Nat) ({ cls := "BinTreesModel", name := "undo", desc := "(II)I" } : Jvm.MethodName)) ∈ vz_tbl := vz_in (List.mem_append_right _ (List.mem_append_right _ (List.mem_append_left _ (List.mem_of_getElem? (i := 197) rfl)))) rfl
theorem kw_438 : (Jvm.Cond.instanceMethod ({ cls := "BinTreesModel", name := "undo", desc := "(II)I" } : Jvm.MethodName)) ∈ vz_tbl := vz_in (List.mem_append_right _ (List.mem_append_right _ (List.mem_append_left _ (List.mem_of_getElem? (i := 198) rfl)))) rfl
theorem kw_439 : (Jvm.Cond.selects "BinTreesModel" ({ cls := "BinTreesModel", name := "undo", desc := "(II)I" } : Jvm.MethodName) ({ cls := "BinTreesModel", name := "undo", desc := "(II)I" } : Jvm.MethodName)) ∈ vz_tbl := vz_in (List.mem_append_right _ (List.mem_append_right _ (List.mem_append_left _ (List.mem_of_getElem? (i := 199) rfl)))) rfl
theorem kw_440 : (Jvm.Cond.code ({ cls := "BinTreesModel", name := "undo", desc := "(II)I" } : Jvm.MethodName) prog_6_method_28_code (3 : Nat) (Option.some Jvm.ClassFile.FieldType.int)) ∈ vz_tbl := vz_in (List.mem_append_right _ (List.mem_append_right _ (List.mem_append_left _ (List.mem_of_getElem? (i := 200) rfl)))) rfl
theorem kw_441 : (Jvm.Cond.methodLink "BinTreesModel" (135 : Nat) ({ cls := "BinTreesModel", name := "isUndone", desc := "(II)Z" } : Jvm.MethodName)) ∈ vz_tbl := vz_in (List.mem_append_right _ (List.mem_append_right _ (List.mem_append_left _ (List.mem_of_getElem? (i := 201) rfl)))) rfl
theorem kw_443 : (Jvm.Cond.instanceMethod ({ cls := "BinTreesModel", name := "isUndone", desc := "(II)Z" } : Jvm.MethodName)) ∈ vz_tbl := vz_in (List.mem_append_right _ (List.mem_append_right _ (List.mem_append_left _ (List.mem_of_getElem? (i := 203) rfl)))) rfl
theorem kw_444 : (Jvm.Cond.code ({ cls := "BinTreesModel", name := "isUndone", desc := "(II)Z" } : Jvm.MethodName) prog_6_method_6_code (4 : Nat) (Option.some Jvm.ClassFile.FieldType.boolean)) ∈ vz_tbl := vz_in (List.mem_append_right _ (List.mem_append_right _ (List.mem_append_left _ (List.mem_of_getElem? (i := 204) rfl)))) rfl
theorem kw_445 : (Jvm.Cond.methodLink "BinTreesLaw" (36 : Nat) ({ cls := "BinTreesModel", name := "see", desc := "(II)I" } : Jvm.MethodName)) ∈ vz_tbl := vz_in (List.mem_append_right _ (List.mem_append_right _ (List.mem_append_left _ (List.mem_of_getElem? (i := 205) rfl)))) rfl
theorem kw_446 : (Jvm.Cond.instanceMethod ({ cls := "BinTreesModel", name := "see", desc := "(II)I" } : Jvm.MethodName)) ∈ vz_tbl := vz_in (List.mem_append_right _ (List.mem_append_right _ (List.mem_append_left _ (List.mem_of_getElem? (i := 206) rfl)))) rfl
theorem kw_447 : (Jvm.Cond.selects "BinTreesModel" ({ cls := "BinTreesModel", name := "see", desc := "(II)I" } : Jvm.MethodName) ({ cls := "BinTreesModel", name := "see", desc := "(II)I" } : Jvm.MethodName)) ∈ vz_tbl := vz_in (List.mem_append_right _ (List.mem_append_right _ (List.mem_append_left _ (List.mem_of_getElem? (i := 207) rfl)))) rfl
theorem kw_448 : (Jvm.Cond.code ({ cls := "BinTreesModel", name := "see", desc := "(II)I" } : Jvm.MethodName) prog_6_method_29_code (3 : Nat) (Option.some Jvm.ClassFile.FieldType.int)) ∈ vz_tbl := vz_in (List.mem_append_right _ (List.mem_append_right _ (List.mem_append_left _ (List.mem_of_getElem? (i := 208) rfl)))) rfl
theorem kw_449 : (Jvm.Cond.methodLink "BinTreesLaw" (40 : Nat) ({ cls := "BinTreesModel", name := "meet", desc := "(II)I" } : Jvm.MethodName)) ∈ vz_tbl := vz_in (List.mem_append_right _ (List.mem_append_right _ (List.mem_append_left _ (List.mem_of_getElem? (i := 209) rfl)))) rfl
theorem kw_450 : (Jvm.Cond.instanceMethod ({ cls := "BinTreesModel", name := "meet", desc := "(II)I" } : Jvm.MethodName)) ∈ vz_tbl := vz_in (List.mem_append_right _ (List.mem_append_right _ (List.mem_append_left _ (List.mem_of_getElem? (i := 210) rfl)))) rfl
theorem kw_451 : (Jvm.Cond.selects "BinTreesModel" ({ cls := "BinTreesModel", name := "meet", desc := "(II)I" } : Jvm.MethodName) ({ cls := "BinTreesModel", name := "meet", desc := "(II)I" } : Jvm.MethodName)) ∈ vz_tbl := vz_in (List.mem_append_right _ (List.mem_append_right _ (List.mem_append_left _ (List.mem_of_getElem? (i := 211) rfl)))) rfl
theorem kw_452 : (Jvm.Cond.code ({ cls := "BinTreesModel", name := "meet", desc := "(II)I" } : Jvm.MethodName) prog_6_method_30_code (5 : Nat) (Option.some Jvm.ClassFile.FieldType.int)) ∈ vz_tbl := vz_in (List.mem_append_right _ (List.mem_append_right _ (List.mem_append_left _ (List.mem_of_getElem? (i := 212) rfl)))) rfl
theorem kw_453 : (Jvm.Cond.methodLink "BinTreesModel" (132 : Nat) ({ cls := "BinTreesModel", name := "findOrder", desc := "(I)V" } : Jvm.MethodName)) ∈ vz_tbl := vz_in (List.mem_append_right _ (List.mem_append_right _ (List.mem_append_left _ (List.mem_of_getElem? (i := 213) rfl)))) rfl
theorem kw_455 : (Jvm.Cond.instanceMethod ({ cls := "BinTreesModel", name := "findOrder", desc := "(I)V" } : Jvm.MethodName)) ∈ vz_tbl := vz_in (List.mem_append_right _ (List.mem_append_right _ (List.mem_append_left _ (List.mem_of_getElem? (i := 215) rfl)))) rfl
theorem kw_456 : (Jvm.Cond.code ({ cls := "BinTreesModel", name := "findOrder", desc := "(I)V" } : Jvm.MethodName) prog_6_method_7_code (4 : Nat) (Option.none : Option Jvm.ClassFile.FieldType)) ∈ vz_tbl := vz_in (List.mem_append_right _ (List.mem_append_right _ (List.mem_append_left _ (List.mem_of_getElem? (i := 216) rfl)))) rfl
theorem kw_457 : (Jvm.Cond.methodLink "BinTreesLaw" (44 : Nat) ({ cls := "BinTreesModel", name := "cost", desc := "(I)I" } : Jvm.MethodName)) ∈ vz_tbl := vz_in (List.mem_append_right _ (List.mem_append_right _ (List.mem_append_left _ (List.mem_of_getElem? (i := 217) rfl)))) rfl
theorem kw_458 : (Jvm.Cond.instanceMethod ({ cls := "BinTreesModel", name := "cost", desc := "(I)I" } : Jvm.MethodName)) ∈ vz_tbl := vz_in (List.mem_append_right _ (List.mem_append_right _ (List.mem_append_left _ (List.mem_of_getElem? (i := 218) rfl)))) rfl
theorem kw_459 : (Jvm.Cond.selects "BinTreesModel" ({ cls := "BinTreesModel", name := "cost", desc := "(I)I" } : Jvm.MethodName) ({ cls := "BinTreesModel", name := "cost", desc := "(I)I" } : Jvm.MethodName)) ∈ vz_tbl := vz_in (List.mem_append_right _ (List.mem_append_right _ (List.mem_append_left _ (List.mem_of_getElem? (i := 219) rfl)))) rfl
theorem kw_460 : (Jvm.Cond.code ({ cls := "BinTreesModel", name := "cost", desc := "(I)I" } : Jvm.MethodName) prog_6_method_31_code (2 : Nat) (Option.some Jvm.ClassFile.FieldType.int)) ∈ vz_tbl := vz_in (List.mem_append_right _ (List.mem_append_right _ (List.mem_append_left _ (List.mem_of_getElem? (i := 220) rfl)))) rfl
theorem kw_461 : (Jvm.Cond.methodLink "BinTreesLaw" (49 : Nat) ({ cls := "BinTreesModel", name := "object", desc := "(III)I" } : Jvm.MethodName)) ∈ vz_tbl := vz_in (List.mem_append_right _ (List.mem_append_right _ (List.mem_append_left _ (List.mem_of_getElem? (i := 221) rfl)))) rfl
theorem kw_462 : (Jvm.Cond.instanceMethod ({ cls := "BinTreesModel", name := "object", desc := "(III)I" } : Jvm.MethodName)) ∈ vz_tbl := vz_in (List.mem_append_right _ (List.mem_append_right _ (List.mem_append_left _ (List.mem_of_getElem? (i := 222) rfl)))) rfl
theorem kw_463 : (Jvm.Cond.selects "BinTreesModel" ({ cls := "BinTreesModel", name := "object", desc := "(III)I" } : Jvm.MethodName) ({ cls := "BinTreesModel", name := "object", desc := "(III)I" } : Jvm.MethodName)) ∈ vz_tbl := vz_in (List.mem_append_right _ (List.mem_append_right _ (List.mem_append_left _ (List.mem_of_getElem? (i := 223) rfl)))) rfl
theorem kw_464 : (Jvm.Cond.code ({ cls := "BinTreesModel", name := "object", desc := "(III)I" } : Jvm.MethodName) prog_6_method_34_code (4 : Nat) (Option.some Jvm.ClassFile.FieldType.int)) ∈ vz_tbl := vz_in (List.mem_append_right _ (List.mem_append_right _ (List.mem_append_left _ (List.mem_of_getElem? (i := 224) rfl)))) rfl
theorem kw_465 : (Jvm.Cond.methodLink "BinTreesModel" (165 : Nat) ({ cls := "BinTreesModel", name := "isIn", desc := "(II)Z" } : Jvm.MethodName)) ∈ vz_tbl := vz_in (List.mem_append_right _ (List.mem_append_right _ (List.mem_append_left _ (List.mem_of_getElem? (i := 225) rfl)))) rfl
theorem kw_467 : (Jvm.Cond.instanceMethod ({ cls := "BinTreesModel", name := "isIn", desc := "(II)Z" } : Jvm.MethodName)) ∈ vz_tbl := vz_in (List.mem_append_right _ (List.mem_append_right _ (List.mem_append_left _ (List.mem_of_getElem? (i := 227) rfl)))) rfl
theorem kw_468 : (Jvm.Cond.code ({ cls := "BinTreesModel", name := "isIn", desc := "(II)Z" } : Jvm.MethodName) prog_6_method_32_code (3 : Nat) (Option.some Jvm.ClassFile.FieldType.boolean)) ∈ vz_tbl := vz_in (List.mem_append_right _ (List.mem_append_right _ (List.mem_append_left _ (List.mem_of_getElem? (i := 228) rfl)))) rfl
theorem kw_469 : (Jvm.Cond.methodLink "BinTreesModel" (162 : Nat) ({ cls := "BinTreesModel", name := "build", desc := "(I)V" } : Jvm.MethodName)) ∈ vz_tbl := vz_in (List.mem_append_right _ (List.mem_append_right _ (List.mem_append_left _ (List.mem_of_getElem? (i := 229) rfl)))) rfl
theorem kw_471 : (Jvm.Cond.instanceMethod ({ cls := "BinTreesModel", name := "build", desc := "(I)V" } : Jvm.MethodName)) ∈ vz_tbl := vz_in (List.mem_append_right _ (List.mem_append_right _ (List.mem_append_left _ (List.mem_of_getElem? (i := 231) rfl)))) rfl
theorem kw_472 : (Jvm.Cond.code ({ cls := "BinTreesModel", name := "build", desc := "(I)V" } : Jvm.MethodName) prog_6_method_20_code (4 : Nat) (Option.none : Option Jvm.ClassFile.FieldType)) ∈ vz_tbl := vz_in (List.mem_append_right _ (List.mem_append_right _ (List.mem_append_left _ (List.mem_of_getElem? (i := 232) rfl)))) rfl
theorem kw_473 : (Jvm.Cond.methodLink "BinTreesModel" (138 : Nat) ({ cls := "BinTreesModel", name := "doRow", desc := "(I)Z" } : Jvm.MethodName)) ∈ vz_tbl := vz_in (List.mem_append_right _ (List.mem_append_right _ (List.mem_append_left _ (List.mem_of_getElem? (i := 233) rfl)))) rfl
theorem kw_475 : (Jvm.Cond.instanceMethod ({ cls := "BinTreesModel", name := "doRow", desc := "(I)Z" } : Jvm.MethodName)) ∈ vz_tbl := vz_in (List.mem_append_right _ (List.mem_append_right _ (List.mem_append_left _ (List.mem_of_getElem? (i := 235) rfl)))) rfl
theorem kw_476 : (Jvm.Cond.code ({ cls := "BinTreesModel", name := "doRow", desc := "(I)Z" } : Jvm.MethodName) prog_6_method_19_code (3 : Nat) (Option.some Jvm.ClassFile.FieldType.boolean)) ∈ vz_tbl := vz_in (List.mem_append_right _ (List.mem_append_right _ (List.mem_append_left _ (List.mem_of_getElem? (i := 236) rfl)))) rfl
theorem kw_477 : (Jvm.Cond.methodLink "BinTreesModel" (118 : Nat) ({ cls := "BinTreesModel", name := "putAt", desc := "(III)V" } : Jvm.MethodName)) ∈ vz_tbl := vz_in (List.mem_append_right _ (List.mem_append_right _ (List.mem_append_left _ (List.mem_of_getElem? (i := 237) rfl)))) rfl
theorem kw_479 : (Jvm.Cond.instanceMethod ({ cls := "BinTreesModel", name := "putAt", desc := "(III)V" } : Jvm.MethodName)) ∈ vz_tbl := vz_in (List.mem_append_right _ (List.mem_append_right _ (List.mem_append_left _ (List.mem_of_getElem? (i := 239) rfl)))) rfl
theorem kw_480 : (Jvm.Cond.code ({ cls := "BinTreesModel", name := "putAt", desc := "(III)V" } : Jvm.MethodName) prog_6_method_9_code (5 : Nat) (Option.none : Option Jvm.ClassFile.FieldType)) ∈ vz_tbl := vz_in (List.mem_append_right _ (List.mem_append_right _ (List.mem_append_right _ (List.mem_of_getElem? (i := 0) rfl)))) rfl
theorem kw_481 : (Jvm.Cond.methodLink "BinTreesModel" (122 : Nat) ({ cls := "BinTreesModel", name := "doMove", desc := "(I)Z" } : Jvm.MethodName)) ∈ vz_tbl := vz_in (List.mem_append_right _ (List.mem_append_right _ (List.mem_append_right _ (List.mem_of_getElem? (i := 1) rfl)))) rfl
theorem kw_483 : (Jvm.Cond.instanceMethod ({ cls := "BinTreesModel", name := "doMove", desc := "(I)Z" } : Jvm.MethodName)) ∈ vz_tbl := vz_in (List.mem_append_right _ (List.mem_append_right _ (List.mem_append_right _ (List.mem_of_getElem? (i := 3) rfl)))) rfl
theorem kw_484 : (Jvm.Cond.code ({ cls := "BinTreesModel", name := "doMove", desc := "(I)Z" } : Jvm.MethodName) prog_6_method_16_code (4 : Nat) (Option.some Jvm.ClassFile.FieldType.boolean)) ∈ vz_tbl := vz_in (List.mem_append_right _ (List.mem_append_right _ (List.mem_append_right _ (List.mem_of_getElem? (i := 4) rfl)))) rfl
theorem kw_485 : (Jvm.Cond.methodLink "BinTreesModel" (107 : Nat) ({ cls := "BinTreesModel", name := "mayGo", desc := "(II)Z" } : Jvm.MethodName)) ∈ vz_tbl := vz_in (List.mem_append_right _ (List.mem_append_right _ (List.mem_append_right _ (List.mem_of_getElem? (i := 5) rfl)))) rfl
theorem kw_487 : (Jvm.Cond.instanceMethod ({ cls := "BinTreesModel", name := "mayGo", desc := "(II)Z" } : Jvm.MethodName)) ∈ vz_tbl := vz_in (List.mem_append_right _ (List.mem_append_right _ (List.mem_append_right _ (List.mem_of_getElem? (i := 7) rfl)))) rfl
theorem kw_488 : (Jvm.Cond.code ({ cls := "BinTreesModel", name := "mayGo", desc := "(II)Z" } : Jvm.MethodName) prog_6_method_14_code (3 : Nat) (Option.some Jvm.ClassFile.FieldType.boolean)) ∈ vz_tbl := vz_in (List.mem_append_right _ (List.mem_append_right _ (List.mem_append_right _ (List.mem_of_getElem? (i := 8) rfl)))) rfl
theorem kw_489 : (Jvm.Cond.methodLink "BinTreesModel" (98 : Nat) ({ cls := "BinTreesModel", name := "isBelow", desc := "(II)Z" } : Jvm.MethodName)) ∈ vz_tbl := vz_in (List.mem_append_right _ (List.mem_append_right _ (List.mem_append_right _ (List.mem_of_getElem? (i := 9) rfl)))) rfl
theorem kw_491 : (Jvm.Cond.instanceMethod ({ cls := "BinTreesModel", name := "isBelow", desc := "(II)Z" } : Jvm.MethodName)) ∈ vz_tbl := vz_in (List.mem_append_right _ (List.mem_append_right _ (List.mem_append_right _ (List.mem_of_getElem? (i := 11) rfl)))) rfl
theorem kw_492 : (Jvm.Cond.code ({ cls := "BinTreesModel", name := "isBelow", desc := "(II)Z" } : Jvm.MethodName) prog_6_method_12_code (4 : Nat) (Option.some Jvm.ClassFile.FieldType.boolean)) ∈ vz_tbl := vz_in (List.mem_append_right _ (List.mem_append_right _ (List.mem_append_right _ (List.mem_of_getElem? (i := 12) rfl)))) rfl
theorem kw_493 : (Jvm.Cond.methodLink "BinTreesModel" (101 : Nat) ({ cls := "BinTreesModel", name := "top", desc := "(I)I" } : Jvm.MethodName)) ∈ vz_tbl := vz_in (List.mem_append_right _ (List.mem_append_right _ (List.mem_append_right _ (List.mem_of_getElem? (i := 13) rfl)))) rfl
theorem kw_495 : (Jvm.Cond.instanceMethod ({ cls := "BinTreesModel", name := "top", desc := "(I)I" } : Jvm.MethodName)) ∈ vz_tbl := vz_in (List.mem_append_right _ (List.mem_append_right _ (List.mem_append_right _ (List.mem_of_getElem? (i := 15) rfl)))) rfl
theorem kw_496 : (Jvm.Cond.code ({ cls := "BinTreesModel", name := "top", desc := "(I)I" } : Jvm.MethodName) prog_6_method_11_code (3 : Nat) (Option.some Jvm.ClassFile.FieldType.int)) ∈ vz_tbl := vz_in (List.mem_append_right _ (List.mem_append_right _ (List.mem_append_right _ (List.mem_of_getElem? (i := 16) rfl)))) rfl
theorem kw_497 : (Jvm.Cond.methodLink "BinTreesModel" (94 : Nat) ({ cls := "BinTreesModel", name := "depth", desc := "(I)I" } : Jvm.MethodName)) ∈ vz_tbl := vz_in (List.mem_append_right _ (List.mem_append_right _ (List.mem_append_right _ (List.mem_of_getElem? (i := 17) rfl)))) rfl
theorem kw_499 : (Jvm.Cond.instanceMethod ({ cls := "BinTreesModel", name := "depth", desc := "(I)I" } : Jvm.MethodName)) ∈ vz_tbl := vz_in (List.mem_append_right _ (List.mem_append_right _ (List.mem_append_right _ (List.mem_of_getElem? (i := 19) rfl)))) rfl
theorem kw_500 : (Jvm.Cond.code ({ cls := "BinTreesModel", name := "depth", desc := "(I)I" } : Jvm.MethodName) prog_6_method_10_code (4 : Nat) (Option.some Jvm.ClassFile.FieldType.int)) ∈ vz_tbl := vz_in (List.mem_append_right _ (List.mem_append_right _ (List.mem_append_right _ (List.mem_of_getElem? (i := 20) rfl)))) rfl
theorem kw_501 : (Jvm.Cond.methodLink "BinTreesModel" (104 : Nat) ({ cls := "BinTreesModel", name := "height", desc := "(I)I" } : Jvm.MethodName)) ∈ vz_tbl := vz_in (List.mem_append_right _ (List.mem_append_right _ (List.mem_append_right _ (List.mem_of_getElem? (i := 21) rfl)))) rfl
theorem kw_503 : (Jvm.Cond.instanceMethod ({ cls := "BinTreesModel", name := "height", desc := "(I)I" } : Jvm.MethodName)) ∈ vz_tbl := vz_in (List.mem_append_right _ (List.mem_append_right _ (List.mem_append_right _ (List.mem_of_getElem? (i := 23) rfl)))) rfl
theorem kw_504 : (Jvm.Cond.code ({ cls := "BinTreesModel", name := "height", desc := "(I)I" } : Jvm.MethodName) prog_6_method_13_code (6 : Nat) (Option.some Jvm.ClassFile.FieldType.int)) ∈ vz_tbl := vz_in (List.mem_append_right _ (List.mem_append_right _ (List.mem_append_right _ (List.mem_of_getElem? (i := 24) rfl)))) rfl
theorem kw_505 : (Jvm.Cond.methodLink "BinTreesModel" (110 : Nat) ({ cls := "BinTreesModel", name := "takeOut", desc := "(I)V" } : Jvm.MethodName)) ∈ vz_tbl := vz_in (List.mem_append_right _ (List.mem_append_right _ (List.mem_append_right _ (List.mem_of_getElem? (i := 25) rfl)))) rfl
theorem kw_507 : (Jvm.Cond.instanceMethod ({ cls := "BinTreesModel", name := "takeOut", desc := "(I)V" } : Jvm.MethodName)) ∈ vz_tbl := vz_in (List.mem_append_right _ (List.mem_append_right _ (List.mem_append_right _ (List.mem_of_getElem? (i := 27) rfl)))) rfl
theorem kw_508 : (Jvm.Cond.code ({ cls := "BinTreesModel", name := "takeOut", desc := "(I)V" } : Jvm.MethodName) prog_6_method_8_code (6 : Nat) (Option.none : Option Jvm.ClassFile.FieldType)) ∈ vz_tbl := vz_in (List.mem_append_right _ (List.mem_append_right _ (List.mem_append_right _ (List.mem_of_getElem? (i := 28) rfl)))) rfl
theorem kw_509 : (Jvm.Cond.methodLink "BinTreesModel" (114 : Nat) ({ cls := "BinTreesModel", name := "placeOf", desc := "(II)I" } : Jvm.MethodName)) ∈ vz_tbl := vz_in (List.mem_append_right _ (List.mem_append_right _ (List.mem_append_right _ (List.mem_of_getElem? (i := 29) rfl)))) rfl
theorem kw_511 : (Jvm.Cond.instanceMethod ({ cls := "BinTreesModel", name := "placeOf", desc := "(II)I" } : Jvm.MethodName)) ∈ vz_tbl := vz_in (List.mem_append_right _ (List.mem_append_right _ (List.mem_append_right _ (List.mem_of_getElem? (i := 31) rfl)))) rfl
theorem kw_512 : (Jvm.Cond.code ({ cls := "BinTreesModel", name := "placeOf", desc := "(II)I" } : Jvm.MethodName) prog_6_method_15_code (4 : Nat) (Option.some Jvm.ClassFile.FieldType.int)) ∈ vz_tbl := vz_in (List.mem_append_right _ (List.mem_append_right _ (List.mem_append_right _ (List.mem_of_getElem? (i := 32) rfl)))) rfl
theorem kw_513 : (Jvm.Cond.methodLink "BinTreesModel" (126 : Nat) ({ cls := "BinTreesModel", name := "doRemove", desc := "(I)Z" } : Jvm.MethodName)) ∈ vz_tbl := vz_in (List.mem_append_right _ (List.mem_append_right _ (List.mem_append_right _ (List.mem_of_getElem? (i := 33) rfl)))) rfl
theorem kw_515 : (Jvm.Cond.instanceMethod ({ cls := "BinTreesModel", name := "doRemove", desc := "(I)Z" } : Jvm.MethodName)) ∈ vz_tbl := vz_in (List.mem_append_right _ (List.mem_append_right _ (List.mem_append_right _ (List.mem_of_getElem? (i := 35) rfl)))) rfl
theorem kw_516 : (Jvm.Cond.code ({ cls := "BinTreesModel", name := "doRemove", desc := "(I)Z" } : Jvm.MethodName) prog_6_method_17_code (2 : Nat) (Option.some Jvm.ClassFile.FieldType.boolean)) ∈ vz_tbl := vz_in (List.mem_append_right _ (List.mem_append_right _ (List.mem_append_right _ (List.mem_of_getElem? (i := 36) rfl)))) rfl
theorem kw_517 : (Jvm.Cond.methodLink "BinTreesModel" (129 : Nat) ({ cls := "BinTreesModel", name := "doRestore", desc := "(I)Z" } : Jvm.MethodName)) ∈ vz_tbl := vz_in (List.mem_append_right _ (List.mem_append_right _ (List.mem_append_right _ (List.mem_of_getElem? (i := 37) rfl)))) rfl
theorem kw_519 : (Jvm.Cond.instanceMethod ({ cls := "BinTreesModel", name := "doRestore", desc := "(I)Z" } : Jvm.MethodName)) ∈ vz_tbl := vz_in (List.mem_append_right _ (List.mem_append_right _ (List.mem_append_right _ (List.mem_of_getElem? (i := 39) rfl)))) rfl
theorem kw_520 : (Jvm.Cond.code ({ cls := "BinTreesModel", name := "doRestore", desc := "(I)Z" } : Jvm.MethodName) prog_6_method_18_code (3 : Nat) (Option.some Jvm.ClassFile.FieldType.boolean)) ∈ vz_tbl := vz_in (List.mem_append_right _ (List.mem_append_right _ (List.mem_append_right _ (List.mem_of_getElem? (i := 40) rfl)))) rfl
theorem kw_521 : (Jvm.Cond.methodLink "BinTreesModel" (168 : Nat) ({ cls := "BinTreesModel", name := "parentOf", desc := "(I)I" } : Jvm.MethodName)) ∈ vz_tbl := vz_in (List.mem_append_right _ (List.mem_append_right _ (List.mem_append_right _ (List.mem_of_getElem? (i := 41) rfl)))) rfl
theorem kw_523 : (Jvm.Cond.instanceMethod ({ cls := "BinTreesModel", name := "parentOf", desc := "(I)I" } : Jvm.MethodName)) ∈ vz_tbl := vz_in (List.mem_append_right _ (List.mem_append_right _ (List.mem_append_right _ (List.mem_of_getElem? (i := 43) rfl)))) rfl
theorem kw_524 : (Jvm.Cond.code ({ cls := "BinTreesModel", name := "parentOf", desc := "(I)I" } : Jvm.MethodName) prog_6_method_33_code (2 : Nat) (Option.some Jvm.ClassFile.FieldType.int)) ∈ vz_tbl := vz_in (List.mem_append_right _ (List.mem_append_right _ (List.mem_append_right _ (List.mem_of_getElem? (i := 44) rfl)))) rfl
theorem kw_525 : (Jvm.Cond.methodLink "BinTreesLaw" (53 : Nat) ({ cls := "BinTreesModel", name := "child", desc := "(III)I" } : Jvm.MethodName)) ∈ vz_tbl := vz_in (List.mem_append_right _ (List.mem_append_right _ (List.mem_append_right _ (List.mem_of_getElem? (i := 45) rfl)))) rfl
theorem kw_526 : (Jvm.Cond.instanceMethod ({ cls := "BinTreesModel", name := "child", desc := "(III)I" } : Jvm.MethodName)) ∈ vz_tbl := vz_in (List.mem_append_right _ (List.mem_append_right _ (List.mem_append_right _ (List.mem_of_getElem? (i := 46) rfl)))) rfl
theorem kw_527 : (Jvm.Cond.selects "BinTreesModel" ({ cls := "BinTreesModel", name := "child", desc := "(III)I" } : Jvm.MethodName) ({ cls := "BinTreesModel", name := "child", desc := "(III)I" } : Jvm.MethodName)) ∈ vz_tbl := vz_in (List.mem_append_right _ (List.mem_append_right _ (List.mem_append_right _ (List.mem_of_getElem? (i := 47) rfl)))) rfl
theorem kw_528 : (Jvm.Cond.code ({ cls := "BinTreesModel", name := "child", desc := "(III)I" } : Jvm.MethodName) prog_6_method_35_code (5 : Nat) (Option.some Jvm.ClassFile.FieldType.int)) ∈ vz_tbl := vz_in (List.mem_append_right _ (List.mem_append_right _ (List.mem_append_right _ (List.mem_of_getElem? (i := 48) rfl)))) rfl
theorem kw_529 : (Jvm.Cond.methodLink "BinTreesLaw" (57 : Nat) ({ cls := "BinTreesModel", name := "row", desc := "(II)I" } : Jvm.MethodName)) ∈ vz_tbl := vz_in (List.mem_append_right _ (List.mem_append_right _ (List.mem_append_right _ (List.mem_of_getElem? (i := 49) rfl)))) rfl
theorem kw_530 : (Jvm.Cond.instanceMethod ({ cls := "BinTreesModel", name := "row", desc := "(II)I" } : Jvm.MethodName)) ∈ vz_tbl := vz_in (List.mem_append_right _ (List.mem_append_right _ (List.mem_append_right _ (List.mem_of_getElem? (i := 50) rfl)))) rfl
theorem kw_531 : (Jvm.Cond.selects "BinTreesModel" ({ cls := "BinTreesModel", name := "row", desc := "(II)I" } : Jvm.MethodName) ({ cls := "BinTreesModel", name := "row", desc := "(II)I" } : Jvm.MethodName)) ∈ vz_tbl := vz_in (List.mem_append_right _ (List.mem_append_right _ (List.mem_append_right _ (List.mem_of_getElem? (i := 51) rfl)))) rfl
theorem kw_532 : (Jvm.Cond.code ({ cls := "BinTreesModel", name := "row", desc := "(II)I" } : Jvm.MethodName) prog_6_method_36_code (3 : Nat) (Option.some Jvm.ClassFile.FieldType.int)) ∈ vz_tbl := vz_in (List.mem_append_right _ (List.mem_append_right _ (List.mem_append_right _ (List.mem_of_getElem? (i := 52) rfl)))) rfl
theorem kw_533 : (Jvm.Cond.methodLink "BinTreesLaw" (61 : Nat) ({ cls := "BinTreesModel", name := "judged", desc := "(II)I" } : Jvm.MethodName)) ∈ vz_tbl := vz_in (List.mem_append_right _ (List.mem_append_right _ (List.mem_append_right _ (List.mem_of_getElem? (i := 53) rfl)))) rfl
theorem kw_534 : (Jvm.Cond.instanceMethod ({ cls := "BinTreesModel", name := "judged", desc := "(II)I" } : Jvm.MethodName)) ∈ vz_tbl := vz_in (List.mem_append_right _ (List.mem_append_right _ (List.mem_append_right _ (List.mem_of_getElem? (i := 54) rfl)))) rfl
theorem kw_535 : (Jvm.Cond.selects "BinTreesModel" ({ cls := "BinTreesModel", name := "judged", desc := "(II)I" } : Jvm.MethodName) ({ cls := "BinTreesModel", name := "judged", desc := "(II)I" } : Jvm.MethodName)) ∈ vz_tbl := vz_in (List.mem_append_right _ (List.mem_append_right _ (List.mem_append_right _ (List.mem_of_getElem? (i := 55) rfl)))) rfl
theorem kw_536 : (Jvm.Cond.code ({ cls := "BinTreesModel", name := "judged", desc := "(II)I" } : Jvm.MethodName) prog_6_method_37_code (3 : Nat) (Option.some Jvm.ClassFile.FieldType.int)) ∈ vz_tbl := vz_in (List.mem_append_right _ (List.mem_append_right _ (List.mem_append_right _ (List.mem_of_getElem? (i := 56) rfl)))) rfl
theorem kw_537 : (Jvm.Cond.methodLink "BinTreesLaw" (66 : Nat) ({ cls := "BinTreesModel", name := "alike", desc := "(II)Z" } : Jvm.MethodName)) ∈ vz_tbl := vz_in (List.mem_append_right _ (List.mem_append_right _ (List.mem_append_right _ (List.mem_of_getElem? (i := 57) rfl)))) rfl
theorem kw_538 : (Jvm.Cond.instanceMethod ({ cls := "BinTreesModel", name := "alike", desc := "(II)Z" } : Jvm.MethodName)) ∈ vz_tbl := vz_in (List.mem_append_right _ (List.mem_append_right _ (List.mem_append_right _ (List.mem_of_getElem? (i := 58) rfl)))) rfl
theorem kw_539 : (Jvm.Cond.selects "BinTreesModel" ({ cls := "BinTreesModel", name := "alike", desc := "(II)Z" } : Jvm.MethodName) ({ cls := "BinTreesModel", name := "alike", desc := "(II)Z" } : Jvm.MethodName)) ∈ vz_tbl := vz_in (List.mem_append_right _ (List.mem_append_right _ (List.mem_append_right _ (List.mem_of_getElem? (i := 59) rfl)))) rfl
theorem kw_540 : (Jvm.Cond.code ({ cls := "BinTreesModel", name := "alike", desc := "(II)Z" } : Jvm.MethodName) prog_6_method_38_code (5 : Nat) (Option.some Jvm.ClassFile.FieldType.boolean)) ∈ vz_tbl := vz_in (List.mem_append_right _ (List.mem_append_right _ (List.mem_append_right _ (List.mem_of_getElem? (i := 60) rfl)))) rfl
theorem kw_541 : (Jvm.Cond.methodLink "BinTreesLaw" (70 : Nat) ({ cls := "BinTreesModel", name := "total", desc := "(I)I" } : Jvm.MethodName)) ∈ vz_tbl := vz_in (List.mem_append_right _ (List.mem_append_right _ (List.mem_append_right _ (List.mem_of_getElem? (i := 61) rfl)))) rfl
theorem kw_542 : (Jvm.Cond.instanceMethod ({ cls := "BinTreesModel", name := "total", desc := "(I)I" } : Jvm.MethodName)) ∈ vz_tbl := vz_in (List.mem_append_right _ (List.mem_append_right _ (List.mem_append_right _ (List.mem_of_getElem? (i := 62) rfl)))) rfl
theorem kw_543 : (Jvm.Cond.selects "BinTreesModel" ({ cls := "BinTreesModel", name := "total", desc := "(I)I" } : Jvm.MethodName) ({ cls := "BinTreesModel", name := "total", desc := "(I)I" } : Jvm.MethodName)) ∈ vz_tbl := vz_in (List.mem_append_right _ (List.mem_append_right _ (List.mem_append_right _ (List.mem_of_getElem? (i := 63) rfl)))) rfl
theorem kw_544 : (Jvm.Cond.code ({ cls := "BinTreesModel", name := "total", desc := "(I)I" } : Jvm.MethodName) prog_6_method_42_code (3 : Nat) (Option.some Jvm.ClassFile.FieldType.int)) ∈ vz_tbl := vz_in (List.mem_append_right _ (List.mem_append_right _ (List.mem_append_right _ (List.mem_of_getElem? (i := 64) rfl)))) rfl
theorem kw_545 : (Jvm.Cond.methodLink "BinTreesModel" (171 : Nat) ({ cls := "BinTreesModel", name := "knownRows", desc := "(I)I" } : Jvm.MethodName)) ∈ vz_tbl := vz_in (List.mem_append_right _ (List.mem_append_right _ (List.mem_append_right _ (List.mem_of_getElem? (i := 65) rfl)))) rfl
theorem kw_547 : (Jvm.Cond.instanceMethod ({ cls := "BinTreesModel", name := "knownRows", desc := "(I)I" } : Jvm.MethodName)) ∈ vz_tbl := vz_in (List.mem_append_right _ (List.mem_append_right _ (List.mem_append_right _ (List.mem_of_getElem? (i := 67) rfl)))) rfl
theorem kw_548 : (Jvm.Cond.code ({ cls := "BinTreesModel", name := "knownRows", desc := "(I)I" } : Jvm.MethodName) prog_6_method_39_code (4 : Nat) (Option.some Jvm.ClassFile.FieldType.int)) ∈ vz_tbl := vz_in (List.mem_append_right _ (List.mem_append_right _ (List.mem_append_right _ (List.mem_of_getElem? (i := 68) rfl)))) rfl
theorem kw_549 : (Jvm.Cond.methodLink "BinTreesModel" (174 : Nat) ({ cls := "BinTreesModel", name := "thereOf", desc := "(I)I" } : Jvm.MethodName)) ∈ vz_tbl := vz_in (List.mem_append_right _ (List.mem_append_right _ (List.mem_append_right _ (List.mem_of_getElem? (i := 69) rfl)))) rfl
theorem kw_551 : (Jvm.Cond.instanceMethod ({ cls := "BinTreesModel", name := "thereOf", desc := "(I)I" } : Jvm.MethodName)) ∈ vz_tbl := vz_in (List.mem_append_right _ (List.mem_append_right _ (List.mem_append_right _ (List.mem_of_getElem? (i := 71) rfl)))) rfl
theorem kw_552 : (Jvm.Cond.code ({ cls := "BinTreesModel", name := "thereOf", desc := "(I)I" } : Jvm.MethodName) prog_6_method_40_code (4 : Nat) (Option.some Jvm.ClassFile.FieldType.int)) ∈ vz_tbl := vz_in (List.mem_append_right _ (List.mem_append_right _ (List.mem_append_right _ (List.mem_of_getElem? (i := 72) rfl)))) rfl
theorem kw_553 : (Jvm.Cond.methodLink "BinTreesModel" (177 : Nat) ({ cls := "BinTreesModel", name := "binOf", desc := "(I)I" } : Jvm.MethodName)) ∈ vz_tbl := vz_in (List.mem_append_right _ (List.mem_append_right _ (List.mem_append_right _ (List.mem_of_getElem? (i := 73) rfl)))) rfl
theorem kw_555 : (Jvm.Cond.instanceMethod ({ cls := "BinTreesModel", name := "binOf", desc := "(I)I" } : Jvm.MethodName)) ∈ vz_tbl := vz_in (List.mem_append_right _ (List.mem_append_right _ (List.mem_append_right _ (List.mem_of_getElem? (i := 75) rfl)))) rfl
theorem kw_556 : (Jvm.Cond.code ({ cls := "BinTreesModel", name := "binOf", desc := "(I)I" } : Jvm.MethodName) prog_6_method_41_code (2 : Nat) (Option.some Jvm.ClassFile.FieldType.int)) ∈ vz_tbl := vz_in (List.mem_append_right _ (List.mem_append_right _ (List.mem_append_right _ (List.mem_of_getElem? (i := 76) rfl)))) rfl
theorem ks_0 : Cond.selects "BinTrees" (⟨"BinTrees", "mayWrite", "(I)Z"⟩ : MethodName) ⟨"BinTrees", "mayWrite", "(I)Z"⟩ ∈ vz_tbl := vz_in (List.mem_append_left _ (List.mem_of_getElem? (i := 0) rfl)) rfl
theorem ks_1 : Cond.selects "BinTrees$Log" (⟨"BinTrees$Log", "putInOrder", "(I)V"⟩ : MethodName) ⟨"BinTrees$Log", "putInOrder", "(I)V"⟩ ∈ vz_tbl := vz_in (List.mem_append_left _ (List.mem_of_getElem? (i := 1) rfl)) rfl
theorem ks_2 : Cond.selects "BinTrees$Log" (⟨"BinTrees$Log", "isAhead", "(II)Z"⟩ : MethodName) ⟨"BinTrees$Log", "isAhead", "(II)Z"⟩ ∈ vz_tbl := vz_in (List.mem_append_left _ (List.mem_of_getElem? (i := 2) rfl)) rfl
theorem ks_3 : Cond.selects "BinTrees" (⟨"BinTrees", "told", "(II)I"⟩ : MethodName) ⟨"BinTrees", "told", "(II)I"⟩ ∈ vz_tbl := vz_in (List.mem_append_left _ (List.mem_of_getElem? (i := 3) rfl)) rfl
theorem ks_4 : Cond.selects "BinTrees$Person" (⟨"BinTrees$Person", "countFrom", "(LBinTrees$Log;I)I"⟩ : MethodName) ⟨"BinTrees$Person", "countFrom", "(LBinTrees$Log;I)I"⟩ ∈ vz_tbl := vz_in (List.mem_append_left _ (List.mem_of_getElem? (i := 4) rfl)) rfl
theorem ks_5 : Cond.selects "BinTrees$Tree" (⟨"BinTrees$Tree", "putAt", "(III)V"⟩ : MethodName) ⟨"BinTrees$Tree", "putAt", "(III)V"⟩ ∈ vz_tbl := vz_in (List.mem_append_left _ (List.mem_of_getElem? (i := 5) rfl)) rfl
theorem ks_6 : Cond.selects "BinTrees$Tree" (⟨"BinTrees$Tree", "mayLie", "(II)Z"⟩ : MethodName) ⟨"BinTrees$Tree", "mayLie", "(II)Z"⟩ ∈ vz_tbl := vz_in (List.mem_append_left _ (List.mem_of_getElem? (i := 6) rfl)) rfl
theorem ks_7 : Cond.selects "BinTrees$Tree" (⟨"BinTrees$Tree", "takeOut", "(I)V"⟩ : MethodName) ⟨"BinTrees$Tree", "takeOut", "(I)V"⟩ ∈ vz_tbl := vz_in (List.mem_append_left _ (List.mem_of_getElem? (i := 7) rfl)) rfl
theorem ks_8 : Cond.selects "BinTrees$Tree" (⟨"BinTrees$Tree", "spotBehind", "(II)I"⟩ : MethodName) ⟨"BinTrees$Tree", "spotBehind", "(II)I"⟩ ∈ vz_tbl := vz_in (List.mem_append_left _ (List.mem_of_getElem? (i := 8) rfl)) rfl
theorem ks_9 : Cond.selects "BinTrees" (⟨"BinTrees", "isMade", "(I)Z"⟩ : MethodName) ⟨"BinTrees", "isMade", "(I)Z"⟩ ∈ vz_tbl := vz_in (List.mem_append_left _ (List.mem_of_getElem? (i := 9) rfl)) rfl
theorem ks_10 : Cond.selects "BinTrees" (⟨"BinTrees", "isObject", "(I)Z"⟩ : MethodName) ⟨"BinTrees", "isObject", "(I)Z"⟩ ∈ vz_tbl := vz_in (List.mem_append_left _ (List.mem_of_getElem? (i := 10) rfl)) rfl
theorem ks_11 : Cond.selects "BinTrees" (⟨"BinTrees", "isRow", "(I)Z"⟩ : MethodName) ⟨"BinTrees", "isRow", "(I)Z"⟩ ∈ vz_tbl := vz_in (List.mem_append_left _ (List.mem_of_getElem? (i := 11) rfl)) rfl
theorem ks_12 : Cond.selects "BinTreesModel" (⟨"BinTreesModel", "add", "(IIIII)I"⟩ : MethodName) ⟨"BinTreesModel", "add", "(IIIII)I"⟩ ∈ vz_tbl := vz_in (List.mem_append_left _ (List.mem_of_getElem? (i := 12) rfl)) rfl
theorem ks_13 : Cond.selects "BinTreesModel" (⟨"BinTreesModel", "learn", "(II)V"⟩ : MethodName) ⟨"BinTreesModel", "learn", "(II)V"⟩ ∈ vz_tbl := vz_in (List.mem_append_left _ (List.mem_of_getElem? (i := 13) rfl)) rfl
theorem ks_14 : Cond.selects "BinTreesModel" (⟨"BinTreesModel", "costOf", "(II)I"⟩ : MethodName) ⟨"BinTreesModel", "costOf", "(II)I"⟩ ∈ vz_tbl := vz_in (List.mem_append_left _ (List.mem_of_getElem? (i := 14) rfl)) rfl
theorem ks_15 : Cond.selects "BinTreesModel" (⟨"BinTreesModel", "knowsRow", "(II)Z"⟩ : MethodName) ⟨"BinTreesModel", "knowsRow", "(II)Z"⟩ ∈ vz_tbl := vz_in (List.mem_append_left _ (List.mem_of_getElem? (i := 15) rfl)) rfl
theorem ks_16 : Cond.selects "BinTreesModel" (⟨"BinTreesModel", "isBefore", "(II)Z"⟩ : MethodName) ⟨"BinTreesModel", "isBefore", "(II)Z"⟩ ∈ vz_tbl := vz_in (List.mem_append_left _ (List.mem_of_getElem? (i := 16) rfl)) rfl
theorem ks_17 : Cond.selects "BinTreesModel" (⟨"BinTreesModel", "isUndone", "(II)Z"⟩ : MethodName) ⟨"BinTreesModel", "isUndone", "(II)Z"⟩ ∈ vz_tbl := vz_in (List.mem_append_left _ (List.mem_of_getElem? (i := 17) rfl)) rfl
theorem ks_18 : Cond.selects "BinTreesModel" (⟨"BinTreesModel", "findOrder", "(I)V"⟩ : MethodName) ⟨"BinTreesModel", "findOrder", "(I)V"⟩ ∈ vz_tbl := vz_in (List.mem_append_left _ (List.mem_of_getElem? (i := 18) rfl)) rfl
theorem ks_19 : Cond.selects "BinTreesModel" (⟨"BinTreesModel", "isIn", "(II)Z"⟩ : MethodName) ⟨"BinTreesModel", "isIn", "(II)Z"⟩ ∈ vz_tbl := vz_in (List.mem_append_left _ (List.mem_of_getElem? (i := 19) rfl)) rfl
theorem ks_20 : Cond.selects "BinTreesModel" (⟨"BinTreesModel", "build", "(I)V"⟩ : MethodName) ⟨"BinTreesModel", "build", "(I)V"⟩ ∈ vz_tbl := vz_in (List.mem_append_left _ (List.mem_of_getElem? (i := 20) rfl)) rfl
theorem ks_21 : Cond.selects "BinTreesModel" (⟨"BinTreesModel", "doRow", "(I)Z"⟩ : MethodName) ⟨"BinTreesModel", "doRow", "(I)Z"⟩ ∈ vz_tbl := vz_in (List.mem_append_left _ (List.mem_of_getElem? (i := 21) rfl)) rfl
theorem ks_22 : Cond.selects "BinTreesModel" (⟨"BinTreesModel", "putAt", "(III)V"⟩ : MethodName) ⟨"BinTreesModel", "putAt", "(III)V"⟩ ∈ vz_tbl := vz_in (List.mem_append_left _ (List.mem_of_getElem? (i := 22) rfl)) rfl
theorem ks_23 : Cond.selects "BinTreesModel" (⟨"BinTreesModel", "doMove", "(I)Z"⟩ : MethodName) ⟨"BinTreesModel", "doMove", "(I)Z"⟩ ∈ vz_tbl := vz_in (List.mem_append_left _ (List.mem_of_getElem? (i := 23) rfl)) rfl
theorem ks_24 : Cond.selects "BinTreesModel" (⟨"BinTreesModel", "mayGo", "(II)Z"⟩ : MethodName) ⟨"BinTreesModel", "mayGo", "(II)Z"⟩ ∈ vz_tbl := vz_in (List.mem_append_left _ (List.mem_of_getElem? (i := 24) rfl)) rfl
theorem ks_25 : Cond.selects "BinTreesModel" (⟨"BinTreesModel", "isBelow", "(II)Z"⟩ : MethodName) ⟨"BinTreesModel", "isBelow", "(II)Z"⟩ ∈ vz_tbl := vz_in (List.mem_append_left _ (List.mem_of_getElem? (i := 25) rfl)) rfl
theorem ks_26 : Cond.selects "BinTreesModel" (⟨"BinTreesModel", "top", "(I)I"⟩ : MethodName) ⟨"BinTreesModel", "top", "(I)I"⟩ ∈ vz_tbl := vz_in (List.mem_append_left _ (List.mem_of_getElem? (i := 26) rfl)) rfl
theorem ks_27 : Cond.selects "BinTreesModel" (⟨"BinTreesModel", "depth", "(I)I"⟩ : MethodName) ⟨"BinTreesModel", "depth", "(I)I"⟩ ∈ vz_tbl := vz_in (List.mem_append_left _ (List.mem_of_getElem? (i := 27) rfl)) rfl
theorem ks_28 : Cond.selects "BinTreesModel" (⟨"BinTreesModel", "height", "(I)I"⟩ : MethodName) ⟨"BinTreesModel", "height", "(I)I"⟩ ∈ vz_tbl := vz_in (List.mem_append_left _ (List.mem_of_getElem? (i := 28) rfl)) rfl
theorem ks_29 : Cond.selects "BinTreesModel" (⟨"BinTreesModel", "takeOut", "(I)V"⟩ : MethodName) ⟨"BinTreesModel", "takeOut", "(I)V"⟩ ∈ vz_tbl := vz_in (List.mem_append_left _ (List.mem_of_getElem? (i := 29) rfl)) rfl
theorem ks_30 : Cond.selects "BinTreesModel" (⟨"BinTreesModel", "placeOf", "(II)I"⟩ : MethodName) ⟨"BinTreesModel", "placeOf", "(II)I"⟩ ∈ vz_tbl := vz_in (List.mem_append_left _ (List.mem_of_getElem? (i := 30) rfl)) rfl
theorem ks_31 : Cond.selects "BinTreesModel" (⟨"BinTreesModel", "doRemove", "(I)Z"⟩ : MethodName) ⟨"BinTreesModel", "doRemove", "(I)Z"⟩ ∈ vz_tbl := vz_in (List.mem_append_left _ (List.mem_of_getElem? (i := 31) rfl)) rfl
theorem ks_32 : Cond.selects "BinTreesModel" (⟨"BinTreesModel", "doRestore", "(I)Z"⟩ : MethodName) ⟨"BinTreesModel", "doRestore", "(I)Z"⟩ ∈ vz_tbl := vz_in (List.mem_append_left _ (List.mem_of_getElem? (i := 32) rfl)) rfl
theorem ks_33 : Cond.selects "BinTreesModel" (⟨"BinTreesModel", "parentOf", "(I)I"⟩ : MethodName) ⟨"BinTreesModel", "parentOf", "(I)I"⟩ ∈ vz_tbl := vz_in (List.mem_append_left _ (List.mem_of_getElem? (i := 33) rfl)) rfl
theorem ks_34 : Cond.selects "BinTreesModel" (⟨"BinTreesModel", "knownRows", "(I)I"⟩ : MethodName) ⟨"BinTreesModel", "knownRows", "(I)I"⟩ ∈ vz_tbl := vz_in (List.mem_append_left _ (List.mem_of_getElem? (i := 34) rfl)) rfl
theorem ks_35 : Cond.selects "BinTreesModel" (⟨"BinTreesModel", "thereOf", "(I)I"⟩ : MethodName) ⟨"BinTreesModel", "thereOf", "(I)I"⟩ ∈ vz_tbl := vz_in (List.mem_append_left _ (List.mem_of_getElem? (i := 35) rfl)) rfl
theorem ks_36 : Cond.selects "BinTreesModel" (⟨"BinTreesModel", "binOf", "(I)I"⟩ : MethodName) ⟨"BinTreesModel", "binOf", "(I)I"⟩ ∈ vz_tbl := vz_in (List.mem_append_left _ (List.mem_of_getElem? (i := 36) rfl)) rfl
end
section
/-! numbers -/
theorem ti_0 : (0 : Int32).toInt = 0 := by decide
theorem ti_1 : (1 : Int32).toInt = 1 := by decide
theorem ti_m1 : (-1 : Int32).toInt = -1 := by decide
theorem ti_2 : (2 : Int32).toInt = 2 := by decide
theorem ti_3 : (3 : Int32).toInt = 3 := by decide
theorem ti_4 : (4 : Int32).toInt = 4 := by decide
theorem ti_8 : (8 : Int32).toInt = 8 := by decide
theorem ti_10 : (10 : Int32).toInt = 10 := by decide
theorem ti_39 : (39 : Int32).toInt = 39 := by decide
theorem ti_40 : (40 : Int32).toInt = 40 := by decide
theorem ti_300 : (300 : Int32).toInt = 300 := by decide
theorem ti_add {x y : Int32} (h1 : -2147483648 ≤ x.toInt + y.toInt) (h2 : x.toInt + y.toInt < 2147483648) : (x + y).toInt = x.toInt + y.toInt := by
  rw [Int32.toInt_add]
  apply Int.bmod_eq_of_le <;> omega
theorem ti_sub {x y : Int32} (h1 : -2147483648 ≤ x.toInt - y.toInt) (h2 : x.toInt - y.toInt < 2147483648) : (x - y).toInt = x.toInt - y.toInt := by
  rw [Int32.toInt_sub]
  apply Int.bmod_eq_of_le <;> omega
theorem ti_lo (x : Int32) : -2147483648 ≤ x.toInt := Int32.le_toInt x
theorem ti_hi (x : Int32) : x.toInt < 2147483648 := Int32.toInt_lt x
theorem ti_inc {x : Int32} (h : x.toInt < 2147483647) : (x + 1).toInt = x.toInt + 1 := by
  have h1 := ti_lo x
  rw [ti_add (by rw [ti_1]; omega) (by rw [ti_1]; omega), ti_1]
theorem ti_dec {x : Int32} (h : -2147483648 < x.toInt) : (x + (-1)).toInt = x.toInt - 1 := by
  have h1 := ti_hi x
  rw [ti_add (by rw [ti_m1]; omega) (by rw [ti_m1]; omega), ti_m1]; omega
theorem ti_dec' {x : Int32} (h : -2147483648 < x.toInt) : (x - 1).toInt = x.toInt - 1 := by
  have h1 := ti_hi x
  rw [ti_sub (by rw [ti_1]; omega) (by rw [ti_1]; omega), ti_1]
theorem ti_ix {x : Int32} {n : Nat} (h0 : 0 ≤ x.toInt) (h1 : x.toInt < n) : x.toNatClampNeg < n := by
  have : x.toNatClampNeg = x.toInt.toNat := rfl
  omega
theorem ti_vp {x : Int32} {n : Nat} (h0 : 0 ≤ x.toInt) (h1 : x.toInt < n) : vp_in x n := vp_in_iff.mpr ⟨h0, h1⟩
/-! states -/
abbrev cA : Type := Nat → Int32
/-- there, parent, wasLast, line, size -/
abbrev cT : Type := cA × cA × cA × cA × Int32
abbrev wT (cI cZ : ClassId) (h0 a1 a2 a3 a4 : Nat) (T : cT) : va_W := [(h0, .inr (0, [.ref a1, .ref a2, .ref a3, .ref a4, .int T.2.2.2.2])), (a1, .inl (cZ, 40, .inl T.1)), (a2, .inl (cI, 40, .inl T.2.1)), (a3, .inl (cI, 40, .inl T.2.2.1)), (a4, .inl (cI, 40, .inl T.2.2.2.1))]
/-- sort, node, time, subject, parent, behind, undoing, ordered, count, made -/
abbrev cL : Type := cA × cA × cA × cA × cA × cA × cA × cA × Int32 × Int32
abbrev wL (cI cZ : ClassId) (g0 g1 g2 g3 g4 g5 g6 g7 g8 : Nat) (L : cL) : va_W := [(g0, .inr (1, [.ref g1, .ref g2, .ref g3, .ref g4, .ref g5, .ref g6, .ref g7, .ref g8, .int L.2.2.2.2.2.2.2.2.1, .int L.2.2.2.2.2.2.2.2.2])), (g1, .inl (cI, 301, .inl L.1)), (g2, .inl (cI, 301, .inl L.2.1)), (g3, .inl (cI, 301, .inl L.2.2.1)), (g4, .inl (cI, 301, .inl L.2.2.2.1)), (g5, .inl (cI, 301, .inl L.2.2.2.2.1)), (g6, .inl (cI, 301, .inl L.2.2.2.2.2.1)), (g7, .inl (cI, 301, .inl L.2.2.2.2.2.2.1)), (g8, .inl (cI, 300, .inl L.2.2.2.2.2.2.2.1))]
/-- takes, tree, known, time, lastCost -/
abbrev cP : Type := cA × cT × Int32 × Int32 × Int32
abbrev wP (cI cZ : ClassId) (p0 p1 h0 a1 a2 a3 a4 : Nat) (P : cP) : va_W := [(p0, .inr (2, [.ref p1, .ref h0, .int P.2.2.1, .int P.2.2.2.1, .int P.2.2.2.2])), (p1, .inl (cI, 301, .inl P.1)), (h0, .inr (0, [.ref a1, .ref a2, .ref a3, .ref a4, .int P.2.1.2.2.2.2])), (a1, .inl (cZ, 40, .inl P.2.1.1)), (a2, .inl (cI, 40, .inl P.2.1.2.1)), (a3, .inl (cI, 40, .inl P.2.1.2.2.1)), (a4, .inl (cI, 40, .inl P.2.1.2.2.2.1))]
/-- an array of its own -/
abbrev wZ (cI cZ : ClassId) (z0 : Nat) (f : cA) : va_W := [(z0, .inl (cZ, 40, .inl f))]
/-- the object and its people -/
abbrev wB (cI cZ cQ : ClassId) (b0 b1 u0 : Nat) (F : Nat → Option Nat) : va_W := [(b0, .inr (3, [.ref u0, .ref b1])), (b1, .inl (cQ, 4, .inr (.inr (.inr (.inr F)))))]
end
section
theorem d_T_stepsUp_0 : decode b_T_stepsUp 0 = .ok (.iload_n 1, 1) := by decide +kernel
theorem d_T_stepsUp_1 : decode b_T_stepsUp 1 = .ok (.istore_n 3, 1) := by decide +kernel
theorem d_T_stepsUp_2 : decode b_T_stepsUp 2 = .ok (.iconst 0, 1) := by decide +kernel
theorem d_T_stepsUp_3 : decode b_T_stepsUp 3 = .ok (.istore 4, 2) := by decide +kernel
theorem d_T_stepsUp_5 : decode b_T_stepsUp 5 = .ok (.iload 4, 2) := by decide +kernel
theorem d_T_stepsUp_7 : decode b_T_stepsUp 7 = .ok (.bipush 40, 2) := by decide +kernel
theorem d_T_stepsUp_9 : decode b_T_stepsUp 9 = .ok (.if_icmp .ge 29, 3) := by decide +kernel
theorem d_T_stepsUp_12 : decode b_T_stepsUp 12 = .ok (.iload_n 3, 1) := by decide +kernel
theorem d_T_stepsUp_13 : decode b_T_stepsUp 13 = .ok (.iconst (-1), 1) := by decide +kernel
theorem d_T_stepsUp_14 : decode b_T_stepsUp 14 = .ok (.if_icmp .eq 24, 3) := by decide +kernel
theorem d_T_stepsUp_17 : decode b_T_stepsUp 17 = .ok (.iload_n 3, 1) := by decide +kernel
theorem d_T_stepsUp_18 : decode b_T_stepsUp 18 = .ok (.iload_n 2, 1) := by decide +kernel
theorem d_T_stepsUp_19 : decode b_T_stepsUp 19 = .ok (.if_icmp .ne 6, 3) := by decide +kernel
theorem d_T_stepsUp_22 : decode b_T_stepsUp 22 = .ok (.iload 4, 2) := by decide +kernel
theorem d_T_stepsUp_24 : decode b_T_stepsUp 24 = .ok (.ireturn, 1) := by decide +kernel
theorem d_T_stepsUp_25 : decode b_T_stepsUp 25 = .ok (.aload_n 0, 1) := by decide +kernel
theorem d_T_stepsUp_26 : decode b_T_stepsUp 26 = .ok (.getfield 15, 3) := by decide +kernel
theorem d_T_stepsUp_29 : decode b_T_stepsUp 29 = .ok (.iload_n 3, 1) := by decide +kernel
theorem d_T_stepsUp_30 : decode b_T_stepsUp 30 = .ok (.iaload, 1) := by decide +kernel
theorem d_T_stepsUp_31 : decode b_T_stepsUp 31 = .ok (.istore_n 3, 1) := by decide +kernel
theorem d_T_stepsUp_32 : decode b_T_stepsUp 32 = .ok (.iinc 4 1, 3) := by decide +kernel
theorem d_T_stepsUp_35 : decode b_T_stepsUp 35 = .ok (.goto (-30), 3) := by decide +kernel
theorem d_T_stepsUp_38 : decode b_T_stepsUp 38 = .ok (.iconst (-1), 1) := by decide +kernel
theorem d_T_stepsUp_39 : decode b_T_stepsUp 39 = .ok (.ireturn, 1) := by decide +kernel
theorem d_T_topOf_0 : decode b_T_topOf 0 = .ok (.iload_n 1, 1) := by decide +kernel
theorem d_T_topOf_1 : decode b_T_topOf 1 = .ok (.istore_n 2, 1) := by decide +kernel
theorem d_T_topOf_2 : decode b_T_topOf 2 = .ok (.iconst 0, 1) := by decide +kernel
theorem d_T_topOf_3 : decode b_T_topOf 3 = .ok (.istore_n 3, 1) := by decide +kernel
theorem d_T_topOf_4 : decode b_T_topOf 4 = .ok (.iload_n 3, 1) := by decide +kernel
theorem d_T_topOf_5 : decode b_T_topOf 5 = .ok (.bipush 40, 2) := by decide +kernel
theorem d_T_topOf_7 : decode b_T_topOf 7 = .ok (.if_icmp .ge 26, 3) := by decide +kernel
theorem d_T_topOf_10 : decode b_T_topOf 10 = .ok (.aload_n 0, 1) := by decide +kernel
theorem d_T_topOf_11 : decode b_T_topOf 11 = .ok (.getfield 15, 3) := by decide +kernel
theorem d_T_topOf_14 : decode b_T_topOf 14 = .ok (.iload_n 2, 1) := by decide +kernel
theorem d_T_topOf_15 : decode b_T_topOf 15 = .ok (.iaload, 1) := by decide +kernel
theorem d_T_topOf_16 : decode b_T_topOf 16 = .ok (.iconst (-1), 1) := by decide +kernel
theorem d_T_topOf_17 : decode b_T_topOf 17 = .ok (.if_icmp .eq 16, 3) := by decide +kernel
theorem d_T_topOf_20 : decode b_T_topOf 20 = .ok (.aload_n 0, 1) := by decide +kernel
theorem d_T_topOf_21 : decode b_T_topOf 21 = .ok (.getfield 15, 3) := by decide +kernel
theorem d_T_topOf_24 : decode b_T_topOf 24 = .ok (.iload_n 2, 1) := by decide +kernel
theorem d_T_topOf_25 : decode b_T_topOf 25 = .ok (.iaload, 1) := by decide +kernel
theorem d_T_topOf_26 : decode b_T_topOf 26 = .ok (.istore_n 2, 1) := by decide +kernel
theorem d_T_topOf_27 : decode b_T_topOf 27 = .ok (.iinc 3 1, 3) := by decide +kernel
theorem d_T_topOf_30 : decode b_T_topOf 30 = .ok (.goto (-26), 3) := by decide +kernel
theorem d_T_topOf_33 : decode b_T_topOf 33 = .ok (.iload_n 2, 1) := by decide +kernel
theorem d_T_topOf_34 : decode b_T_topOf 34 = .ok (.ireturn, 1) := by decide +kernel
theorem d_T_takeOut_0 : decode b_T_takeOut 0 = .ok (.iconst 0, 1) := by decide +kernel
theorem d_T_takeOut_1 : decode b_T_takeOut 1 = .ok (.istore_n 2, 1) := by decide +kernel
theorem d_T_takeOut_2 : decode b_T_takeOut 2 = .ok (.iconst 0, 1) := by decide +kernel
theorem d_T_takeOut_3 : decode b_T_takeOut 3 = .ok (.istore_n 3, 1) := by decide +kernel
theorem d_T_takeOut_4 : decode b_T_takeOut 4 = .ok (.iload_n 3, 1) := by decide +kernel
theorem d_T_takeOut_5 : decode b_T_takeOut 5 = .ok (.aload_n 0, 1) := by decide +kernel
theorem d_T_takeOut_6 : decode b_T_takeOut 6 = .ok (.getfield 34, 3) := by decide +kernel
theorem d_T_takeOut_9 : decode b_T_takeOut 9 = .ok (.if_icmp .ge 34, 3) := by decide +kernel
theorem d_T_takeOut_12 : decode b_T_takeOut 12 = .ok (.aload_n 0, 1) := by decide +kernel
theorem d_T_takeOut_13 : decode b_T_takeOut 13 = .ok (.getfield 22, 3) := by decide +kernel
theorem d_T_takeOut_16 : decode b_T_takeOut 16 = .ok (.iload_n 3, 1) := by decide +kernel
theorem d_T_takeOut_17 : decode b_T_takeOut 17 = .ok (.iaload, 1) := by decide +kernel
theorem d_T_takeOut_18 : decode b_T_takeOut 18 = .ok (.iload_n 1, 1) := by decide +kernel
theorem d_T_takeOut_19 : decode b_T_takeOut 19 = .ok (.if_icmp .eq 18, 3) := by decide +kernel
theorem d_T_takeOut_22 : decode b_T_takeOut 22 = .ok (.aload_n 0, 1) := by decide +kernel
theorem d_T_takeOut_23 : decode b_T_takeOut 23 = .ok (.getfield 22, 3) := by decide +kernel
theorem d_T_takeOut_26 : decode b_T_takeOut 26 = .ok (.iload_n 2, 1) := by decide +kernel
theorem d_T_takeOut_27 : decode b_T_takeOut 27 = .ok (.aload_n 0, 1) := by decide +kernel
theorem d_T_takeOut_28 : decode b_T_takeOut 28 = .ok (.getfield 22, 3) := by decide +kernel
theorem d_T_takeOut_31 : decode b_T_takeOut 31 = .ok (.iload_n 3, 1) := by decide +kernel
theorem d_T_takeOut_32 : decode b_T_takeOut 32 = .ok (.iaload, 1) := by decide +kernel
theorem d_T_takeOut_33 : decode b_T_takeOut 33 = .ok (.iastore, 1) := by decide +kernel
theorem d_T_takeOut_34 : decode b_T_takeOut 34 = .ok (.iinc 2 1, 3) := by decide +kernel
theorem d_T_takeOut_37 : decode b_T_takeOut 37 = .ok (.iinc 3 1, 3) := by decide +kernel
theorem d_T_takeOut_40 : decode b_T_takeOut 40 = .ok (.goto (-36), 3) := by decide +kernel
theorem d_T_takeOut_43 : decode b_T_takeOut 43 = .ok (.aload_n 0, 1) := by decide +kernel
theorem d_T_takeOut_44 : decode b_T_takeOut 44 = .ok (.iload_n 2, 1) := by decide +kernel
theorem d_T_takeOut_45 : decode b_T_takeOut 45 = .ok (.putfield 34, 3) := by decide +kernel
theorem d_T_takeOut_48 : decode b_T_takeOut 48 = .ok (.return_, 1) := by decide +kernel
theorem d_T_putAt_0 : decode b_T_putAt 0 = .ok (.aload_n 0, 1) := by decide +kernel
theorem d_T_putAt_1 : decode b_T_putAt 1 = .ok (.getfield 34, 3) := by decide +kernel
theorem d_T_putAt_4 : decode b_T_putAt 4 = .ok (.istore 4, 2) := by decide +kernel
theorem d_T_putAt_6 : decode b_T_putAt 6 = .ok (.iload 4, 2) := by decide +kernel
theorem d_T_putAt_8 : decode b_T_putAt 8 = .ok (.iload_n 1, 1) := by decide +kernel
theorem d_T_putAt_9 : decode b_T_putAt 9 = .ok (.if_icmp .le 25, 3) := by decide +kernel
theorem d_T_putAt_12 : decode b_T_putAt 12 = .ok (.aload_n 0, 1) := by decide +kernel
theorem d_T_putAt_13 : decode b_T_putAt 13 = .ok (.getfield 22, 3) := by decide +kernel
theorem d_T_putAt_16 : decode b_T_putAt 16 = .ok (.iload 4, 2) := by decide +kernel
theorem d_T_putAt_18 : decode b_T_putAt 18 = .ok (.aload_n 0, 1) := by decide +kernel
theorem d_T_putAt_19 : decode b_T_putAt 19 = .ok (.getfield 22, 3) := by decide +kernel
theorem d_T_putAt_22 : decode b_T_putAt 22 = .ok (.iload 4, 2) := by decide +kernel
theorem d_T_putAt_24 : decode b_T_putAt 24 = .ok (.iconst 1, 1) := by decide +kernel
theorem d_T_putAt_25 : decode b_T_putAt 25 = .ok (.isub, 1) := by decide +kernel
theorem d_T_putAt_26 : decode b_T_putAt 26 = .ok (.iaload, 1) := by decide +kernel
theorem d_T_putAt_27 : decode b_T_putAt 27 = .ok (.iastore, 1) := by decide +kernel
theorem d_T_putAt_28 : decode b_T_putAt 28 = .ok (.iinc 4 (-1), 3) := by decide +kernel
theorem d_T_putAt_31 : decode b_T_putAt 31 = .ok (.goto (-25), 3) := by decide +kernel
theorem d_T_putAt_34 : decode b_T_putAt 34 = .ok (.aload_n 0, 1) := by decide +kernel
theorem d_T_putAt_35 : decode b_T_putAt 35 = .ok (.getfield 22, 3) := by decide +kernel
theorem d_T_putAt_38 : decode b_T_putAt 38 = .ok (.iload_n 1, 1) := by decide +kernel
theorem d_T_putAt_39 : decode b_T_putAt 39 = .ok (.iload_n 2, 1) := by decide +kernel
theorem d_T_putAt_40 : decode b_T_putAt 40 = .ok (.iastore, 1) := by decide +kernel
theorem d_T_putAt_41 : decode b_T_putAt 41 = .ok (.aload_n 0, 1) := by decide +kernel
theorem d_T_putAt_42 : decode b_T_putAt 42 = .ok (.getfield 15, 3) := by decide +kernel
theorem d_T_putAt_45 : decode b_T_putAt 45 = .ok (.iload_n 2, 1) := by decide +kernel
theorem d_T_putAt_46 : decode b_T_putAt 46 = .ok (.iload_n 3, 1) := by decide +kernel
theorem d_T_putAt_47 : decode b_T_putAt 47 = .ok (.iastore, 1) := by decide +kernel
theorem d_T_putAt_48 : decode b_T_putAt 48 = .ok (.aload_n 0, 1) := by decide +kernel
theorem d_T_putAt_49 : decode b_T_putAt 49 = .ok (.dup, 1) := by decide +kernel
theorem d_T_putAt_50 : decode b_T_putAt 50 = .ok (.getfield 34, 3) := by decide +kernel
theorem d_T_putAt_53 : decode b_T_putAt 53 = .ok (.iconst 1, 1) := by decide +kernel
theorem d_T_putAt_54 : decode b_T_putAt 54 = .ok (.iadd, 1) := by decide +kernel
theorem d_T_putAt_55 : decode b_T_putAt 55 = .ok (.putfield 34, 3) := by decide +kernel
theorem d_T_putAt_58 : decode b_T_putAt 58 = .ok (.return_, 1) := by decide +kernel
theorem d_T_spotBehind_0 : decode b_T_spotBehind 0 = .ok (.iconst 0, 1) := by decide +kernel
theorem d_T_spotBehind_1 : decode b_T_spotBehind 1 = .ok (.istore_n 3, 1) := by decide +kernel
theorem d_T_spotBehind_2 : decode b_T_spotBehind 2 = .ok (.iload_n 3, 1) := by decide +kernel
theorem d_T_spotBehind_3 : decode b_T_spotBehind 3 = .ok (.aload_n 0, 1) := by decide +kernel
theorem d_T_spotBehind_4 : decode b_T_spotBehind 4 = .ok (.getfield 34, 3) := by decide +kernel
theorem d_T_spotBehind_7 : decode b_T_spotBehind 7 = .ok (.if_icmp .ge 33, 3) := by decide +kernel
theorem d_T_spotBehind_10 : decode b_T_spotBehind 10 = .ok (.aload_n 0, 1) := by decide +kernel
theorem d_T_spotBehind_11 : decode b_T_spotBehind 11 = .ok (.getfield 22, 3) := by decide +kernel
theorem d_T_spotBehind_14 : decode b_T_spotBehind 14 = .ok (.iload_n 3, 1) := by decide +kernel
theorem d_T_spotBehind_15 : decode b_T_spotBehind 15 = .ok (.iaload, 1) := by decide +kernel
theorem d_T_spotBehind_16 : decode b_T_spotBehind 16 = .ok (.iload_n 1, 1) := by decide +kernel
theorem d_T_spotBehind_17 : decode b_T_spotBehind 17 = .ok (.if_icmp .ne 17, 3) := by decide +kernel
theorem d_T_spotBehind_20 : decode b_T_spotBehind 20 = .ok (.aload_n 0, 1) := by decide +kernel
theorem d_T_spotBehind_21 : decode b_T_spotBehind 21 = .ok (.getfield 15, 3) := by decide +kernel
theorem d_T_spotBehind_24 : decode b_T_spotBehind 24 = .ok (.iload_n 1, 1) := by decide +kernel
theorem d_T_spotBehind_25 : decode b_T_spotBehind 25 = .ok (.iaload, 1) := by decide +kernel
theorem d_T_spotBehind_26 : decode b_T_spotBehind 26 = .ok (.iload_n 2, 1) := by decide +kernel
theorem d_T_spotBehind_27 : decode b_T_spotBehind 27 = .ok (.if_icmp .ne 7, 3) := by decide +kernel
theorem d_T_spotBehind_30 : decode b_T_spotBehind 30 = .ok (.iload_n 3, 1) := by decide +kernel
theorem d_T_spotBehind_31 : decode b_T_spotBehind 31 = .ok (.iconst 1, 1) := by decide +kernel
theorem d_T_spotBehind_32 : decode b_T_spotBehind 32 = .ok (.iadd, 1) := by decide +kernel
theorem d_T_spotBehind_33 : decode b_T_spotBehind 33 = .ok (.ireturn, 1) := by decide +kernel
theorem d_T_spotBehind_34 : decode b_T_spotBehind 34 = .ok (.iinc 3 1, 3) := by decide +kernel
theorem d_T_spotBehind_37 : decode b_T_spotBehind 37 = .ok (.goto (-35), 3) := by decide +kernel
theorem d_T_spotBehind_40 : decode b_T_spotBehind 40 = .ok (.iconst 0, 1) := by decide +kernel
theorem d_T_spotBehind_41 : decode b_T_spotBehind 41 = .ok (.ireturn, 1) := by decide +kernel
theorem d_T_childCount_0 : decode b_T_childCount 0 = .ok (.iconst 0, 1) := by decide +kernel
theorem d_T_childCount_1 : decode b_T_childCount 1 = .ok (.istore_n 2, 1) := by decide +kernel
theorem d_T_childCount_2 : decode b_T_childCount 2 = .ok (.iconst 0, 1) := by decide +kernel
theorem d_T_childCount_3 : decode b_T_childCount 3 = .ok (.istore_n 3, 1) := by decide +kernel
theorem d_T_childCount_4 : decode b_T_childCount 4 = .ok (.iload_n 3, 1) := by decide +kernel
theorem d_T_childCount_5 : decode b_T_childCount 5 = .ok (.aload_n 0, 1) := by decide +kernel
theorem d_T_childCount_6 : decode b_T_childCount 6 = .ok (.getfield 34, 3) := by decide +kernel
theorem d_T_childCount_9 : decode b_T_childCount 9 = .ok (.if_icmp .ge 27, 3) := by decide +kernel
theorem d_T_childCount_12 : decode b_T_childCount 12 = .ok (.aload_n 0, 1) := by decide +kernel
theorem d_T_childCount_13 : decode b_T_childCount 13 = .ok (.getfield 15, 3) := by decide +kernel
theorem d_T_childCount_16 : decode b_T_childCount 16 = .ok (.aload_n 0, 1) := by decide +kernel
theorem d_T_childCount_17 : decode b_T_childCount 17 = .ok (.getfield 22, 3) := by decide +kernel
theorem d_T_childCount_20 : decode b_T_childCount 20 = .ok (.iload_n 3, 1) := by decide +kernel
theorem d_T_childCount_21 : decode b_T_childCount 21 = .ok (.iaload, 1) := by decide +kernel
theorem d_T_childCount_22 : decode b_T_childCount 22 = .ok (.iaload, 1) := by decide +kernel
theorem d_T_childCount_23 : decode b_T_childCount 23 = .ok (.iload_n 1, 1) := by decide +kernel
theorem d_T_childCount_24 : decode b_T_childCount 24 = .ok (.if_icmp .ne 6, 3) := by decide +kernel
theorem d_T_childCount_27 : decode b_T_childCount 27 = .ok (.iinc 2 1, 3) := by decide +kernel
theorem d_T_childCount_30 : decode b_T_childCount 30 = .ok (.iinc 3 1, 3) := by decide +kernel
theorem d_T_childCount_33 : decode b_T_childCount 33 = .ok (.goto (-29), 3) := by decide +kernel
theorem d_T_childCount_36 : decode b_T_childCount 36 = .ok (.iload_n 2, 1) := by decide +kernel
theorem d_T_childCount_37 : decode b_T_childCount 37 = .ok (.ireturn, 1) := by decide +kernel
theorem d_T_childAt_0 : decode b_T_childAt 0 = .ok (.iconst 0, 1) := by decide +kernel
theorem d_T_childAt_1 : decode b_T_childAt 1 = .ok (.istore_n 3, 1) := by decide +kernel
theorem d_T_childAt_2 : decode b_T_childAt 2 = .ok (.iconst 0, 1) := by decide +kernel
theorem d_T_childAt_3 : decode b_T_childAt 3 = .ok (.istore 4, 2) := by decide +kernel
theorem d_T_childAt_5 : decode b_T_childAt 5 = .ok (.iload 4, 2) := by decide +kernel
theorem d_T_childAt_7 : decode b_T_childAt 7 = .ok (.aload_n 0, 1) := by decide +kernel
theorem d_T_childAt_8 : decode b_T_childAt 8 = .ok (.getfield 34, 3) := by decide +kernel
theorem d_T_childAt_11 : decode b_T_childAt 11 = .ok (.if_icmp .ge 41, 3) := by decide +kernel
theorem d_T_childAt_14 : decode b_T_childAt 14 = .ok (.aload_n 0, 1) := by decide +kernel
theorem d_T_childAt_15 : decode b_T_childAt 15 = .ok (.getfield 15, 3) := by decide +kernel
theorem d_T_childAt_18 : decode b_T_childAt 18 = .ok (.aload_n 0, 1) := by decide +kernel
theorem d_T_childAt_19 : decode b_T_childAt 19 = .ok (.getfield 22, 3) := by decide +kernel
theorem d_T_childAt_22 : decode b_T_childAt 22 = .ok (.iload 4, 2) := by decide +kernel
theorem d_T_childAt_24 : decode b_T_childAt 24 = .ok (.iaload, 1) := by decide +kernel
theorem d_T_childAt_25 : decode b_T_childAt 25 = .ok (.iaload, 1) := by decide +kernel
theorem d_T_childAt_26 : decode b_T_childAt 26 = .ok (.iload_n 1, 1) := by decide +kernel
theorem d_T_childAt_27 : decode b_T_childAt 27 = .ok (.if_icmp .ne 19, 3) := by decide +kernel
theorem d_T_childAt_30 : decode b_T_childAt 30 = .ok (.iload_n 3, 1) := by decide +kernel
theorem d_T_childAt_31 : decode b_T_childAt 31 = .ok (.iload_n 2, 1) := by decide +kernel
theorem d_T_childAt_32 : decode b_T_childAt 32 = .ok (.if_icmp .ne 11, 3) := by decide +kernel
theorem d_T_childAt_35 : decode b_T_childAt 35 = .ok (.aload_n 0, 1) := by decide +kernel
theorem d_T_childAt_36 : decode b_T_childAt 36 = .ok (.getfield 22, 3) := by decide +kernel
theorem d_T_childAt_39 : decode b_T_childAt 39 = .ok (.iload 4, 2) := by decide +kernel
theorem d_T_childAt_41 : decode b_T_childAt 41 = .ok (.iaload, 1) := by decide +kernel
theorem d_T_childAt_42 : decode b_T_childAt 42 = .ok (.ireturn, 1) := by decide +kernel
theorem d_T_childAt_43 : decode b_T_childAt 43 = .ok (.iinc 3 1, 3) := by decide +kernel
theorem d_T_childAt_46 : decode b_T_childAt 46 = .ok (.iinc 4 1, 3) := by decide +kernel
theorem d_T_childAt_49 : decode b_T_childAt 49 = .ok (.goto (-44), 3) := by decide +kernel
theorem d_T_childAt_52 : decode b_T_childAt 52 = .ok (.iconst (-1), 1) := by decide +kernel
theorem d_T_childAt_53 : decode b_T_childAt 53 = .ok (.ireturn, 1) := by decide +kernel
theorem d_T_placeOf_0 : decode b_T_placeOf 0 = .ok (.iload_n 1, 1) := by decide +kernel
theorem d_T_placeOf_1 : decode b_T_placeOf 1 = .ok (.ifCond .ne 5, 3) := by decide +kernel
theorem d_T_placeOf_4 : decode b_T_placeOf 4 = .ok (.iconst 0, 1) := by decide +kernel
theorem d_T_placeOf_5 : decode b_T_placeOf 5 = .ok (.ireturn, 1) := by decide +kernel
theorem d_T_placeOf_6 : decode b_T_placeOf 6 = .ok (.iconst 0, 1) := by decide +kernel
theorem d_T_placeOf_7 : decode b_T_placeOf 7 = .ok (.istore_n 2, 1) := by decide +kernel
theorem d_T_placeOf_8 : decode b_T_placeOf 8 = .ok (.iconst 0, 1) := by decide +kernel
theorem d_T_placeOf_9 : decode b_T_placeOf 9 = .ok (.istore_n 3, 1) := by decide +kernel
theorem d_T_placeOf_10 : decode b_T_placeOf 10 = .ok (.iload_n 3, 1) := by decide +kernel
theorem d_T_placeOf_11 : decode b_T_placeOf 11 = .ok (.aload_n 0, 1) := by decide +kernel
theorem d_T_placeOf_12 : decode b_T_placeOf 12 = .ok (.getfield 34, 3) := by decide +kernel
theorem d_T_placeOf_15 : decode b_T_placeOf 15 = .ok (.if_icmp .ge 42, 3) := by decide +kernel
theorem d_T_placeOf_18 : decode b_T_placeOf 18 = .ok (.aload_n 0, 1) := by decide +kernel
theorem d_T_placeOf_19 : decode b_T_placeOf 19 = .ok (.getfield 22, 3) := by decide +kernel
theorem d_T_placeOf_22 : decode b_T_placeOf 22 = .ok (.iload_n 3, 1) := by decide +kernel
theorem d_T_placeOf_23 : decode b_T_placeOf 23 = .ok (.iaload, 1) := by decide +kernel
theorem d_T_placeOf_24 : decode b_T_placeOf 24 = .ok (.iload_n 1, 1) := by decide +kernel
theorem d_T_placeOf_25 : decode b_T_placeOf 25 = .ok (.if_icmp .eq 32, 3) := by decide +kernel
theorem d_T_placeOf_28 : decode b_T_placeOf 28 = .ok (.aload_n 0, 1) := by decide +kernel
theorem d_T_placeOf_29 : decode b_T_placeOf 29 = .ok (.getfield 15, 3) := by decide +kernel
theorem d_T_placeOf_32 : decode b_T_placeOf 32 = .ok (.aload_n 0, 1) := by decide +kernel
theorem d_T_placeOf_33 : decode b_T_placeOf 33 = .ok (.getfield 22, 3) := by decide +kernel
theorem d_T_placeOf_36 : decode b_T_placeOf 36 = .ok (.iload_n 3, 1) := by decide +kernel
theorem d_T_placeOf_37 : decode b_T_placeOf 37 = .ok (.iaload, 1) := by decide +kernel
theorem d_T_placeOf_38 : decode b_T_placeOf 38 = .ok (.iaload, 1) := by decide +kernel
theorem d_T_placeOf_39 : decode b_T_placeOf 39 = .ok (.aload_n 0, 1) := by decide +kernel
theorem d_T_placeOf_40 : decode b_T_placeOf 40 = .ok (.getfield 15, 3) := by decide +kernel
theorem d_T_placeOf_43 : decode b_T_placeOf 43 = .ok (.iload_n 1, 1) := by decide +kernel
theorem d_T_placeOf_44 : decode b_T_placeOf 44 = .ok (.iaload, 1) := by decide +kernel
theorem d_T_placeOf_45 : decode b_T_placeOf 45 = .ok (.if_icmp .ne 6, 3) := by decide +kernel
theorem d_T_placeOf_48 : decode b_T_placeOf 48 = .ok (.iinc 2 1, 3) := by decide +kernel
theorem d_T_placeOf_51 : decode b_T_placeOf 51 = .ok (.iinc 3 1, 3) := by decide +kernel
theorem d_T_placeOf_54 : decode b_T_placeOf 54 = .ok (.goto (-44), 3) := by decide +kernel
theorem d_T_placeOf_57 : decode b_T_placeOf 57 = .ok (.iload_n 2, 1) := by decide +kernel
theorem d_T_placeOf_58 : decode b_T_placeOf 58 = .ok (.ireturn, 1) := by decide +kernel
def l_T_stepsUp_5 (T : cT) (x2 : Int32) : Nat → Int32 → Int32 → Int32
  | 0, _, _ => 0
  | n + 1, x3, x4 => (if 40 ≤ x4 then -1 else (if x3 = (-1) then -1 else (if x3 = x2 then x4 else (l_T_stepsUp_5 T x2 n (T.2.1 x3.toNatClampNeg) (x4 + 1)))))
def m_T_stepsUp (T : cT) (x1 : Int32) (x2 : Int32) : Int32 := (l_T_stepsUp_5 T x2 41 x1 0)
set_option maxHeartbeats 1000000 in
set_option maxRecDepth 100000 in
theorem c_T_stepsUp (l : Launch) (dC : Nat → ClassId) (dI : Nat → Nat → Nat) (cI cZ cQ : ClassId) (h0 : Nat) (a1 : Nat) (a2 : Nat) (a3 : Nat) (a4 : Nat) (T : cT) (x1 : Int32) (x2 : Int32) (hpar : ∀ j, j < 40 → -1 ≤ (T.2.1 j).toInt ∧ (T.2.1 j).toInt < 40) (h1 : -1 ≤ x1.toInt ∧ x1.toInt < 40) : vz_C l (dC, dI) classes [(cI, .int), (cZ, .boolean), (cQ, .object "BinTrees$Person")] y_T_stepsUp (Cond.code y_T_stepsUp b_T_stepsUp 5 (some .int) :: vz_tbl) ({ frames := 0, cells := 0, slots := 0, locals := 0 }) [.ref h0, .int x1, .int x2] (wT cI cZ h0 a1 a2 a3 a4 T) (some (.int (m_T_stepsUp T x1 x2))) (wT cI cZ h0 a1 a2 a3 a4 T) := by
  generalize hres : (m_T_stepsUp T x1 x2) = RES
  refine vz_C.of (by decide) (Nat.le_of_ble_eq_true rfl) ?_
  intro p e s m below meth c ls E hl hK hP hD hS
  obtain ⟨hx, hb, hr, hml, hown, hT, hlocks⟩ := E
  obtain ⟨Q, hQ⟩ : ∃ Q, Q = MQ below (vz_Q (dC, dI) classes (wT cI cZ h0 a1 a2 a3 a4 T) (some (.int RES)) (wT cI cZ h0 a1 a2 a3 a4 T)) ([.ref h0, .int x1, .int x2] : List Value).toArray s 0 0 (vz_A (wT cI cZ h0 a1 a2 a3 a4 T)) := ⟨_, rfl⟩
  rw [← hQ]
  have hl : lv_has ls 5 [(0, .ref h0), (1, .int x1), (2, .int x2)] := hl
  have T0 := ti_0
  have T1 := ti_1
  have Tm := ti_m1
  have T8 := ti_8
  have T39 := ti_39
  have T40 := ti_40
  have T4 := ti_4
  have T300 := ti_300
  have k_5 : ∀ (n : Nat) (x3 : Int32) (x4 : Int32), l_T_stepsUp_5 T x2 n x3 x4 = RES → (-1 ≤ x3.toInt ∧ x3.toInt < 40) → (0 ≤ x4.toInt ∧ x4.toInt ≤ 40 ∧ 40 < n + x4.toInt) → ∀ (H : Heap) (locs : List Loc) (ls : Array Slot), va_P (dC, dI) classes (wT cI cZ h0 a1 a2 a3 a4 T) H → va_D (vz_A (wT cI cZ h0 a1 a2 a3 a4 T)) (wT cI cZ h0 a1 a2 a3 a4 T) → va_S (vz_A (wT cI cZ h0 a1 a2 a3 a4 T)) s.heap H locs → lv_has ls 5 [(0, .ref h0), (2, .int x2), (3, .int x3), (4, .int x4)] → W p l e ({ frames := 0, cells := 0, slots := 0, locals := 0 }) s m ([.ref h0, .int x1, .int x2] : List Value).toArray below meth c H locs 0 0 Q (F0 m 5 ls []) := by
    intro n
    induction n with
    | zero =>
      intro x3 x4 hres i3 i4 H locs ls hP hD hS hl
      exfalso
      omega
    | succ n ih =>
      intro x3 x4 hres i3 i4 H locs ls hP hD hS hl
      refine lv_iload hx hb d_T_stepsUp_5 (lv_at hl 3 rfl) ?_
      refine lv_bipush (v := 40) hx hb d_T_stepsUp_7 (by decide) ?_
      refine lv_icmp_ge (tgt := 38) hx hb d_T_stepsUp_9 (by decide) (fun c_9 => ?_) (fun c_9 => ?_)
      · have z_9 := Int32.le_iff_toInt_le.mp c_9
        refine lv_iconst (v := -1) hx hb d_T_stepsUp_38 (by decide) ?_
        rw [l_T_stepsUp_5, if_pos c_9] at hres
        subst hres
        subst hQ
        exact vz_iret hx hb hr hlocks d_T_stepsUp_39 hS rfl hP
      · have z_9 := mt Int32.le_iff_toInt_le.mpr c_9
        refine lv_iload_n hx hb d_T_stepsUp_12 rfl (lv_at hl 2 rfl) ?_
        refine lv_iconst (v := -1) hx hb d_T_stepsUp_13 (by decide) ?_
        refine lv_icmp_eq (tgt := 38) hx hb d_T_stepsUp_14 (by decide) (fun c_14 => ?_) (fun c_14 => ?_)
        · have z_14 := congrArg Int32.toInt c_14
          refine lv_iconst (v := -1) hx hb d_T_stepsUp_38 (by decide) ?_
          rw [l_T_stepsUp_5, if_neg c_9, if_pos c_14] at hres
          subst hres
          subst hQ
          exact vz_iret hx hb hr hlocks d_T_stepsUp_39 hS rfl hP
        · have z_14 := mt Int32.toInt_inj.mp c_14
          refine lv_iload_n hx hb d_T_stepsUp_17 rfl (lv_at hl 2 rfl) ?_
          refine lv_iload_n hx hb d_T_stepsUp_18 rfl (lv_at hl 1 rfl) ?_
          refine lv_icmp_ne (tgt := 25) hx hb d_T_stepsUp_19 (by decide) (fun c_19 => ?_) (fun c_19 => ?_)
          · have z_19 := mt Int32.toInt_inj.mp c_19
            refine lv_aload_n hx hb d_T_stepsUp_25 rfl (lv_at hl 0 rfl) ?_
            refine va_get (D := (dC, dI)) (ci := 0) (v := .ref a2) (C := R_T) (T := F_T) (N := 5) hx hb hT i_T hown hK hP 0 rfl rfl 1 (by decide) (hT _ kw_92) (fun _ h9 => h9) rfl d_T_stepsUp_26 ?_
            refine lv_iload_n hx hb d_T_stepsUp_29 rfl (lv_at hl 2 rfl) ?_
            refine va_iald hx hb hK hP 2 0 rfl rfl (ti_vp (by omega) (by omega)) d_T_stepsUp_30 ?_
            refine lv_istore_n (lv' := [(3, .int (T.2.1 x3.toNatClampNeg)), (0, .ref h0), (2, .int x2), (4, .int x4)]) hx hb d_T_stepsUp_31 rfl hl (by decide) rfl (fun ls hl => ?_)
            refine lv_iinc (v := x4 + 1) (lv' := [(4, .int (x4 + 1)), (3, .int (T.2.1 x3.toNatClampNeg)), (0, .ref h0), (2, .int x2)]) hx hb d_T_stepsUp_32 hl (k := 3) rfl rfl (by decide) rfl (fun ls hl => ?_)
            refine lv_goto (tgt := 5) hx hb d_T_stepsUp_35 (by decide) ?_
            rw [l_T_stepsUp_5, if_neg c_9, if_neg c_14, if_neg c_19] at hres
            exact ih (T.2.1 x3.toNatClampNeg) (x4 + 1)  hres (hpar _ (ti_ix (by omega) (by omega))) (by rw [ti_inc (by omega)]; omega) H locs ls hP hD hS (lv_sub hl [2, 3, 1, 0] rfl)
          · have z_19 := congrArg Int32.toInt c_19
            refine lv_iload hx hb d_T_stepsUp_22 (lv_at hl 3 rfl) ?_
            rw [l_T_stepsUp_5, if_neg c_9, if_neg c_14, if_pos c_19] at hres
            subst hres
            subst hQ
            exact vz_iret hx hb hr hlocks d_T_stepsUp_24 hS rfl hP
  have hS0 := hS
  refine lv_iload_n hx hb d_T_stepsUp_0 rfl (lv_at hl 1 rfl) ?_
  refine lv_istore_n (lv' := [(3, .int x1), (0, .ref h0), (1, .int x1), (2, .int x2)]) hx hb d_T_stepsUp_1 rfl hl (by decide) rfl (fun ls hl => ?_)
  refine lv_iconst (v := 0) hx hb d_T_stepsUp_2 (by decide) ?_
  refine lv_istore (lv' := [(4, .int 0), (3, .int x1), (0, .ref h0), (1, .int x1), (2, .int x2)]) hx hb d_T_stepsUp_3 hl (by decide) rfl (fun ls hl => ?_)
  rw [m_T_stepsUp] at hres
  exact k_5 41 x1 0  hres (h1) (by omega) _ _ ls hP hD hS (lv_sub hl [2, 4, 1, 0] rfl)

def l_T_topOf_4 (T : cT) : Nat → Int32 → Int32 → Int32
  | 0, _, _ => 0
  | n + 1, x2, x3 => (if 40 ≤ x3 then x2 else (if (T.2.1 x2.toNatClampNeg) = (-1) then x2 else (l_T_topOf_4 T n (T.2.1 x2.toNatClampNeg) (x3 + 1))))
def m_T_topOf (T : cT) (x1 : Int32) : Int32 := (l_T_topOf_4 T 41 x1 0)
set_option maxHeartbeats 1000000 in
set_option maxRecDepth 100000 in
theorem c_T_topOf (l : Launch) (dC : Nat → ClassId) (dI : Nat → Nat → Nat) (cI cZ cQ : ClassId) (h0 : Nat) (a1 : Nat) (a2 : Nat) (a3 : Nat) (a4 : Nat) (T : cT) (x1 : Int32) (hpar : ∀ j, j < 40 → -1 ≤ (T.2.1 j).toInt ∧ (T.2.1 j).toInt < 40) (h1 : 0 ≤ x1.toInt ∧ x1.toInt < 40) : vz_C l (dC, dI) classes [(cI, .int), (cZ, .boolean), (cQ, .object "BinTrees$Person")] y_T_topOf (Cond.code y_T_topOf b_T_topOf 4 (some .int) :: vz_tbl) ({ frames := 0, cells := 0, slots := 0, locals := 0 }) [.ref h0, .int x1] (wT cI cZ h0 a1 a2 a3 a4 T) (some (.int (m_T_topOf T x1))) (wT cI cZ h0 a1 a2 a3 a4 T) := by
  generalize hres : (m_T_topOf T x1) = RES
  refine vz_C.of (by decide) (Nat.le_of_ble_eq_true rfl) ?_
  intro p e s m below meth c ls E hl hK hP hD hS
  obtain ⟨hx, hb, hr, hml, hown, hT, hlocks⟩ := E
  obtain ⟨Q, hQ⟩ : ∃ Q, Q = MQ below (vz_Q (dC, dI) classes (wT cI cZ h0 a1 a2 a3 a4 T) (some (.int RES)) (wT cI cZ h0 a1 a2 a3 a4 T)) ([.ref h0, .int x1] : List Value).toArray s 0 0 (vz_A (wT cI cZ h0 a1 a2 a3 a4 T)) := ⟨_, rfl⟩
  rw [← hQ]
  have hl : lv_has ls 4 [(0, .ref h0), (1, .int x1)] := hl
  have T0 := ti_0
  have T1 := ti_1
  have Tm := ti_m1
  have T8 := ti_8
  have T39 := ti_39
  have T40 := ti_40
  have T4 := ti_4
  have T300 := ti_300
  have k_4 : ∀ (n : Nat) (x2 : Int32) (x3 : Int32), l_T_topOf_4 T n x2 x3 = RES → (0 ≤ x2.toInt ∧ x2.toInt < 40) → (0 ≤ x3.toInt ∧ x3.toInt ≤ 40 ∧ 40 < n + x3.toInt) → ∀ (H : Heap) (locs : List Loc) (ls : Array Slot), va_P (dC, dI) classes (wT cI cZ h0 a1 a2 a3 a4 T) H → va_D (vz_A (wT cI cZ h0 a1 a2 a3 a4 T)) (wT cI cZ h0 a1 a2 a3 a4 T) → va_S (vz_A (wT cI cZ h0 a1 a2 a3 a4 T)) s.heap H locs → lv_has ls 4 [(0, .ref h0), (2, .int x2), (3, .int x3)] → W p l e ({ frames := 0, cells := 0, slots := 0, locals := 0 }) s m ([.ref h0, .int x1] : List Value).toArray below meth c H locs 0 0 Q (F0 m 4 ls []) := by
    intro n
    induction n with
    | zero =>
      intro x2 x3 hres i2 i3 H locs ls hP hD hS hl
      exfalso
      omega
    | succ n ih =>
      intro x2 x3 hres i2 i3 H locs ls hP hD hS hl
      refine lv_iload_n hx hb d_T_topOf_4 rfl (lv_at hl 2 rfl) ?_
      refine lv_bipush (v := 40) hx hb d_T_topOf_5 (by decide) ?_
      refine lv_icmp_ge (tgt := 33) hx hb d_T_topOf_7 (by decide) (fun c_7 => ?_) (fun c_7 => ?_)
      · have z_7 := Int32.le_iff_toInt_le.mp c_7
        refine lv_iload_n hx hb d_T_topOf_33 rfl (lv_at hl 1 rfl) ?_
        rw [l_T_topOf_4, if_pos c_7] at hres
        subst hres
        subst hQ
        exact vz_iret hx hb hr hlocks d_T_topOf_34 hS rfl hP
      · have z_7 := mt Int32.le_iff_toInt_le.mpr c_7
        refine lv_aload_n hx hb d_T_topOf_10 rfl (lv_at hl 0 rfl) ?_
        refine va_get (D := (dC, dI)) (ci := 0) (v := .ref a2) (C := R_T) (T := F_T) (N := 5) hx hb hT i_T hown hK hP 0 rfl rfl 1 (by decide) (hT _ kw_92) (fun _ h9 => h9) rfl d_T_topOf_11 ?_
        refine lv_iload_n hx hb d_T_topOf_14 rfl (lv_at hl 1 rfl) ?_
        refine va_iald hx hb hK hP 2 0 rfl rfl (ti_vp (by omega) (by omega)) d_T_topOf_15 ?_
        refine lv_iconst (v := -1) hx hb d_T_topOf_16 (by decide) ?_
        refine lv_icmp_eq (tgt := 33) hx hb d_T_topOf_17 (by decide) (fun c_17 => ?_) (fun c_17 => ?_)
        · have z_17 := congrArg Int32.toInt c_17
          refine lv_iload_n hx hb d_T_topOf_33 rfl (lv_at hl 1 rfl) ?_
          rw [l_T_topOf_4, if_neg c_7, if_pos c_17] at hres
          subst hres
          subst hQ
          exact vz_iret hx hb hr hlocks d_T_topOf_34 hS rfl hP
        · have z_17 := mt Int32.toInt_inj.mp c_17
          refine lv_aload_n hx hb d_T_topOf_20 rfl (lv_at hl 0 rfl) ?_
          refine va_get (D := (dC, dI)) (ci := 0) (v := .ref a2) (C := R_T) (T := F_T) (N := 5) hx hb hT i_T hown hK hP 0 rfl rfl 1 (by decide) (hT _ kw_92) (fun _ h9 => h9) rfl d_T_topOf_21 ?_
          refine lv_iload_n hx hb d_T_topOf_24 rfl (lv_at hl 1 rfl) ?_
          refine va_iald hx hb hK hP 2 0 rfl rfl (ti_vp (by omega) (by omega)) d_T_topOf_25 ?_
          refine lv_istore_n (lv' := [(2, .int (T.2.1 x2.toNatClampNeg)), (0, .ref h0), (3, .int x3)]) hx hb d_T_topOf_26 rfl hl (by decide) rfl (fun ls hl => ?_)
          refine lv_iinc (v := x3 + 1) (lv' := [(3, .int (x3 + 1)), (2, .int (T.2.1 x2.toNatClampNeg)), (0, .ref h0)]) hx hb d_T_topOf_27 hl (k := 2) rfl rfl (by decide) rfl (fun ls hl => ?_)
          refine lv_goto (tgt := 4) hx hb d_T_topOf_30 (by decide) ?_
          rw [l_T_topOf_4, if_neg c_7, if_neg c_17] at hres
          exact ih (T.2.1 x2.toNatClampNeg) (x3 + 1)  hres (by have := hpar _ (ti_ix (x := x2) (n := 40) (by omega) (by omega)); omega) (by rw [ti_inc (by omega)]; omega) H locs ls hP hD hS (lv_sub hl [2, 1, 0] rfl)
  have hS0 := hS
  refine lv_iload_n hx hb d_T_topOf_0 rfl (lv_at hl 1 rfl) ?_
  refine lv_istore_n (lv' := [(2, .int x1), (0, .ref h0), (1, .int x1)]) hx hb d_T_topOf_1 rfl hl (by decide) rfl (fun ls hl => ?_)
  refine lv_iconst (v := 0) hx hb d_T_topOf_2 (by decide) ?_
  refine lv_istore_n (lv' := [(3, .int 0), (2, .int x1), (0, .ref h0), (1, .int x1)]) hx hb d_T_topOf_3 rfl hl (by decide) rfl (fun ls hl => ?_)
  rw [m_T_topOf] at hres
  exact k_4 41 x1 0  hres (h1) (by omega) _ _ ls hP hD hS (lv_sub hl [2, 1, 0] rfl)

theorem hW_T_takeOut_45 (cI cZ cQ : ClassId) (q0 q1 q2 q3 q4 : Nat) (S0 : cT) (v : Int32) : (wT cI cZ q0 q1 q2 q3 q4 S0 : va_W).set 0 (q0, .inr (0, [.ref q1, .ref q2, .ref q3, .ref q4, .int S0.2.2.2.2].set 4 (.int v))) = wT cI cZ q0 q1 q2 q3 q4 (S0.1, S0.2.1, S0.2.2.1, S0.2.2.2.1, v) := rfl
theorem hW_T_takeOut_33 (cI cZ cQ : ClassId) (q0 q1 q2 q3 q4 : Nat) (S0 : cT) (v : cA) : (wT cI cZ q0 q1 q2 q3 q4 S0 : va_W).set 4 (q4, .inl (cI, 40, .inl v)) = wT cI cZ q0 q1 q2 q3 q4 (S0.1, S0.2.1, S0.2.2.1, v, S0.2.2.2.2) := rfl
def l_T_takeOut_4 (T : cT) (x1 : Int32) : Nat → Int32 → Int32 → cA → cT
  | 0, _, _, _ => T
  | n + 1, x2, x3, f => (if T.2.2.2.2 ≤ x3 then (T.1, T.2.1, T.2.2.1, f, x2) else (if (f x3.toNatClampNeg) = x1 then (l_T_takeOut_4 T x1 n x2 (x3 + 1) f) else (l_T_takeOut_4 T x1 n (x2 + 1) (x3 + 1) (upd f x2.toNatClampNeg (f x3.toNatClampNeg)))))
def m_T_takeOut (T : cT) (x1 : Int32) : cT := (l_T_takeOut_4 T x1 41 0 0 T.2.2.2.1)
set_option maxHeartbeats 1000000 in
set_option maxRecDepth 100000 in
theorem c_T_takeOut (l : Launch) (dC : Nat → ClassId) (dI : Nat → Nat → Nat) (cI cZ cQ : ClassId) (h0 : Nat) (a1 : Nat) (a2 : Nat) (a3 : Nat) (a4 : Nat) (T : cT) (x1 : Int32) (hsz : 0 ≤ T.2.2.2.2.toInt ∧ T.2.2.2.2.toInt ≤ 40) : vz_C l (dC, dI) classes [(cI, .int), (cZ, .boolean), (cQ, .object "BinTrees$Person")] y_T_takeOut (Cond.code y_T_takeOut b_T_takeOut 4 none :: vz_tbl) ({ frames := 0, cells := 0, slots := 0, locals := 0 }) [.ref h0, .int x1] (wT cI cZ h0 a1 a2 a3 a4 T) (none) (wT cI cZ h0 a1 a2 a3 a4 (m_T_takeOut T x1)) := by
  generalize hres : (m_T_takeOut T x1) = RES
  refine vz_C.of (by decide) (Nat.le_of_ble_eq_true rfl) ?_
  intro p e s m below meth c ls E hl hK hP hD hS
  obtain ⟨hx, hb, hr, hml, hown, hT, hlocks⟩ := E
  obtain ⟨Q, hQ⟩ : ∃ Q, Q = MQ below (vz_Q (dC, dI) classes (wT cI cZ h0 a1 a2 a3 a4 T) (none) (wT cI cZ h0 a1 a2 a3 a4 RES)) ([.ref h0, .int x1] : List Value).toArray s 0 0 (vz_A (wT cI cZ h0 a1 a2 a3 a4 T)) := ⟨_, rfl⟩
  rw [← hQ]
  have hl : lv_has ls 4 [(0, .ref h0), (1, .int x1)] := hl
  have T0 := ti_0
  have T1 := ti_1
  have Tm := ti_m1
  have T8 := ti_8
  have T39 := ti_39
  have T40 := ti_40
  have T4 := ti_4
  have T300 := ti_300
  have k_4 : ∀ (n : Nat) (x2 : Int32) (x3 : Int32) (f : cA), l_T_takeOut_4 T x1 n x2 x3 f = RES → (0 ≤ x2.toInt ∧ x2.toInt ≤ x3.toInt ∧ x3.toInt ≤ T.2.2.2.2.toInt ∧ T.2.2.2.2.toInt < n + x3.toInt) → ∀ (H : Heap) (locs : List Loc) (ls : Array Slot), va_P (dC, dI) classes (wT cI cZ h0 a1 a2 a3 a4 (T.1, T.2.1, T.2.2.1, f, T.2.2.2.2)) H → va_D (vz_A (wT cI cZ h0 a1 a2 a3 a4 T)) (wT cI cZ h0 a1 a2 a3 a4 (T.1, T.2.1, T.2.2.1, f, T.2.2.2.2)) → va_S (vz_A (wT cI cZ h0 a1 a2 a3 a4 T)) s.heap H locs → lv_has ls 4 [(0, .ref h0), (1, .int x1), (2, .int x2), (3, .int x3)] → W p l e ({ frames := 0, cells := 0, slots := 0, locals := 0 }) s m ([.ref h0, .int x1] : List Value).toArray below meth c H locs 0 0 Q (F0 m 4 ls []) := by
    intro n
    induction n with
    | zero =>
      intro x2 x3 f hres i3 H locs ls hP hD hS hl
      exfalso
      omega
    | succ n ih =>
      intro x2 x3 f hres i3 H locs ls hP hD hS hl
      refine lv_iload_n hx hb d_T_takeOut_4 rfl (lv_at hl 3 rfl) ?_
      refine lv_aload_n hx hb d_T_takeOut_5 rfl (lv_at hl 0 rfl) ?_
      refine va_get (D := (dC, dI)) (ci := 0) (v := .int T.2.2.2.2) (C := R_T) (T := F_T) (N := 5) hx hb hT i_T hown hK hP 0 rfl rfl 4 (by decide) (hT _ kw_97) (fun _ h9 => h9) rfl d_T_takeOut_6 ?_
      refine lv_icmp_ge (tgt := 43) hx hb d_T_takeOut_9 (by decide) (fun c_9 => ?_) (fun c_9 => ?_)
      · have z_9 := Int32.le_iff_toInt_le.mp c_9
        refine lv_aload_n hx hb d_T_takeOut_43 rfl (lv_at hl 0 rfl) ?_
        refine lv_iload_n hx hb d_T_takeOut_44 rfl (lv_at hl 2 rfl) ?_
        refine va_put (D := (dC, dI)) (ci := 0) (v := .int x2) (ty := .int) (C := R_T) (T := F_T) (N := 5) hx hb hT i_T tt_T tt_T_ok n_T hown hK hP hD hS 0 rfl rfl 4 (by decide) (hT _ kw_97) (fun _ h9 => h9) rfl (by decide +kernel) rfl rfl (Nat.le_of_ble_eq_true rfl) d_T_takeOut_45 (fun H locs hP hD hS => ?_)
        have hP : va_P (dC, dI) classes (wT cI cZ h0 a1 a2 a3 a4 (T.1, T.2.1, T.2.2.1, f, x2)) H := vz_reP (hW_T_takeOut_45 cI cZ cQ h0 a1 a2 a3 a4 (T.1, T.2.1, T.2.2.1, f, T.2.2.2.2) x2) hP
        have hD : va_D (vz_A (wT cI cZ h0 a1 a2 a3 a4 T)) (wT cI cZ h0 a1 a2 a3 a4 (T.1, T.2.1, T.2.2.1, f, x2)) := vz_reD (hW_T_takeOut_45 cI cZ cQ h0 a1 a2 a3 a4 (T.1, T.2.1, T.2.2.1, f, T.2.2.2.2) x2) hD
        rw [l_T_takeOut_4, if_pos c_9] at hres
        subst hres
        subst hQ
        exact vz_vret hx hb hr hlocks d_T_takeOut_48 hS rfl hP
      · have z_9 := mt Int32.le_iff_toInt_le.mpr c_9
        refine lv_aload_n hx hb d_T_takeOut_12 rfl (lv_at hl 0 rfl) ?_
        refine va_get (D := (dC, dI)) (ci := 0) (v := .ref a4) (C := R_T) (T := F_T) (N := 5) hx hb hT i_T hown hK hP 0 rfl rfl 3 (by decide) (hT _ kw_96) (fun _ h9 => h9) rfl d_T_takeOut_13 ?_
        refine lv_iload_n hx hb d_T_takeOut_16 rfl (lv_at hl 3 rfl) ?_
        refine va_iald hx hb hK hP 4 0 rfl rfl (ti_vp (by omega) (by omega)) d_T_takeOut_17 ?_
        refine lv_iload_n hx hb d_T_takeOut_18 rfl (lv_at hl 1 rfl) ?_
        refine lv_icmp_eq (tgt := 37) hx hb d_T_takeOut_19 (by decide) (fun c_19 => ?_) (fun c_19 => ?_)
        · have z_19 := congrArg Int32.toInt c_19
          refine lv_iinc (v := x3 + 1) (lv' := [(3, .int (x3 + 1)), (0, .ref h0), (1, .int x1), (2, .int x2)]) hx hb d_T_takeOut_37 hl (k := 3) rfl rfl (by decide) rfl (fun ls hl => ?_)
          refine lv_goto (tgt := 4) hx hb d_T_takeOut_40 (by decide) ?_
          rw [l_T_takeOut_4, if_neg c_9, if_pos c_19] at hres
          exact ih x2 (x3 + 1) f  hres (by first | (rw [ti_inc (x := x3) (by omega)]; omega) | (rw [ti_inc (x := x3) (by omega), ti_inc (x := x2) (by omega)]; omega)) H locs ls hP hD hS (lv_sub hl [1, 2, 3, 0] rfl)
        · have z_19 := mt Int32.toInt_inj.mp c_19
          refine lv_aload_n hx hb d_T_takeOut_22 rfl (lv_at hl 0 rfl) ?_
          refine va_get (D := (dC, dI)) (ci := 0) (v := .ref a4) (C := R_T) (T := F_T) (N := 5) hx hb hT i_T hown hK hP 0 rfl rfl 3 (by decide) (hT _ kw_96) (fun _ h9 => h9) rfl d_T_takeOut_23 ?_
          refine lv_iload_n hx hb d_T_takeOut_26 rfl (lv_at hl 2 rfl) ?_
          refine lv_aload_n hx hb d_T_takeOut_27 rfl (lv_at hl 0 rfl) ?_
          refine va_get (D := (dC, dI)) (ci := 0) (v := .ref a4) (C := R_T) (T := F_T) (N := 5) hx hb hT i_T hown hK hP 0 rfl rfl 3 (by decide) (hT _ kw_96) (fun _ h9 => h9) rfl d_T_takeOut_28 ?_
          refine lv_iload_n hx hb d_T_takeOut_31 rfl (lv_at hl 3 rfl) ?_
          refine va_iald hx hb hK hP 4 0 rfl rfl (ti_vp (by omega) (by omega)) d_T_takeOut_32 ?_
          refine va_iast hx hb hK hP hD hS 4 0 rfl rfl (ti_vp (by omega) (by omega)) d_T_takeOut_33 (fun H locs hP hD hS => ?_)
          have hP : va_P (dC, dI) classes (wT cI cZ h0 a1 a2 a3 a4 (T.1, T.2.1, T.2.2.1, upd f x2.toNatClampNeg (f x3.toNatClampNeg), T.2.2.2.2)) H := vz_reP (hW_T_takeOut_33 cI cZ cQ h0 a1 a2 a3 a4 (T.1, T.2.1, T.2.2.1, f, T.2.2.2.2) (upd f x2.toNatClampNeg (f x3.toNatClampNeg))) hP
          have hD : va_D (vz_A (wT cI cZ h0 a1 a2 a3 a4 T)) (wT cI cZ h0 a1 a2 a3 a4 (T.1, T.2.1, T.2.2.1, upd f x2.toNatClampNeg (f x3.toNatClampNeg), T.2.2.2.2)) := vz_reD (hW_T_takeOut_33 cI cZ cQ h0 a1 a2 a3 a4 (T.1, T.2.1, T.2.2.1, f, T.2.2.2.2) (upd f x2.toNatClampNeg (f x3.toNatClampNeg))) hD
          refine lv_iinc (v := x2 + 1) (lv' := [(2, .int (x2 + 1)), (0, .ref h0), (1, .int x1), (3, .int x3)]) hx hb d_T_takeOut_34 hl (k := 2) rfl rfl (by decide) rfl (fun ls hl => ?_)
          refine lv_iinc (v := x3 + 1) (lv' := [(3, .int (x3 + 1)), (2, .int (x2 + 1)), (0, .ref h0), (1, .int x1)]) hx hb d_T_takeOut_37 hl (k := 3) rfl rfl (by decide) rfl (fun ls hl => ?_)
          refine lv_goto (tgt := 4) hx hb d_T_takeOut_40 (by decide) ?_
          rw [l_T_takeOut_4, if_neg c_9, if_neg c_19] at hres
          exact ih (x2 + 1) (x3 + 1) (upd f x2.toNatClampNeg (f x3.toNatClampNeg))  hres (by first | (rw [ti_inc (x := x3) (by omega)]; omega) | (rw [ti_inc (x := x3) (by omega), ti_inc (x := x2) (by omega)]; omega)) H locs ls hP hD hS (lv_sub hl [2, 3, 1, 0] rfl)
  have hS0 := hS
  refine lv_iconst (v := 0) hx hb d_T_takeOut_0 (by decide) ?_
  refine lv_istore_n (lv' := [(2, .int 0), (0, .ref h0), (1, .int x1)]) hx hb d_T_takeOut_1 rfl hl (by decide) rfl (fun ls hl => ?_)
  refine lv_iconst (v := 0) hx hb d_T_takeOut_2 (by decide) ?_
  refine lv_istore_n (lv' := [(3, .int 0), (2, .int 0), (0, .ref h0), (1, .int x1)]) hx hb d_T_takeOut_3 rfl hl (by decide) rfl (fun ls hl => ?_)
  rw [m_T_takeOut] at hres
  exact k_4 41 0 0 T.2.2.2.1  hres (by omega) _ _ ls hP hD hS (lv_sub hl [2, 3, 1, 0] rfl)

theorem hW_T_putAt_40 (cI cZ cQ : ClassId) (q0 q1 q2 q3 q4 : Nat) (S0 : cT) (v : cA) : (wT cI cZ q0 q1 q2 q3 q4 S0 : va_W).set 4 (q4, .inl (cI, 40, .inl v)) = wT cI cZ q0 q1 q2 q3 q4 (S0.1, S0.2.1, S0.2.2.1, v, S0.2.2.2.2) := rfl
theorem hW_T_putAt_47 (cI cZ cQ : ClassId) (q0 q1 q2 q3 q4 : Nat) (S0 : cT) (v : cA) : (wT cI cZ q0 q1 q2 q3 q4 S0 : va_W).set 2 (q2, .inl (cI, 40, .inl v)) = wT cI cZ q0 q1 q2 q3 q4 (S0.1, v, S0.2.2.1, S0.2.2.2.1, S0.2.2.2.2) := rfl
theorem hW_T_putAt_55 (cI cZ cQ : ClassId) (q0 q1 q2 q3 q4 : Nat) (S0 : cT) (v : Int32) : (wT cI cZ q0 q1 q2 q3 q4 S0 : va_W).set 0 (q0, .inr (0, [.ref q1, .ref q2, .ref q3, .ref q4, .int S0.2.2.2.2].set 4 (.int v))) = wT cI cZ q0 q1 q2 q3 q4 (S0.1, S0.2.1, S0.2.2.1, S0.2.2.2.1, v) := rfl
theorem hW_T_putAt_27 (cI cZ cQ : ClassId) (q0 q1 q2 q3 q4 : Nat) (S0 : cT) (v : cA) : (wT cI cZ q0 q1 q2 q3 q4 S0 : va_W).set 4 (q4, .inl (cI, 40, .inl v)) = wT cI cZ q0 q1 q2 q3 q4 (S0.1, S0.2.1, S0.2.2.1, v, S0.2.2.2.2) := rfl
def l_T_putAt_6 (T : cT) (x1 : Int32) (x2 : Int32) (x3 : Int32) : Nat → Int32 → cA → cT
  | 0, _, _ => T
  | n + 1, x4, f => (if x4 ≤ x1 then (T.1, upd T.2.1 x2.toNatClampNeg x3, T.2.2.1, upd f x1.toNatClampNeg x2, T.2.2.2.2 + 1) else (l_T_putAt_6 T x1 x2 x3 n (x4 + (-1)) (upd f x4.toNatClampNeg (f (x4 - 1).toNatClampNeg))))
def m_T_putAt (T : cT) (x1 : Int32) (x2 : Int32) (x3 : Int32) : cT := (l_T_putAt_6 T x1 x2 x3 41 T.2.2.2.2 T.2.2.2.1)
set_option maxHeartbeats 1000000 in
set_option maxRecDepth 100000 in
theorem c_T_putAt (l : Launch) (dC : Nat → ClassId) (dI : Nat → Nat → Nat) (cI cZ cQ : ClassId) (h0 : Nat) (a1 : Nat) (a2 : Nat) (a3 : Nat) (a4 : Nat) (T : cT) (x1 : Int32) (x2 : Int32) (x3 : Int32) (hsz : 0 ≤ T.2.2.2.2.toInt ∧ T.2.2.2.2.toInt < 40) (h1 : 0 ≤ x1.toInt ∧ x1.toInt ≤ T.2.2.2.2.toInt) (h2 : 0 ≤ x2.toInt ∧ x2.toInt < 40) : vz_C l (dC, dI) classes [(cI, .int), (cZ, .boolean), (cQ, .object "BinTrees$Person")] y_T_putAt (Cond.code y_T_putAt b_T_putAt 5 none :: vz_tbl) ({ frames := 0, cells := 0, slots := 0, locals := 0 }) [.ref h0, .int x1, .int x2, .int x3] (wT cI cZ h0 a1 a2 a3 a4 T) (none) (wT cI cZ h0 a1 a2 a3 a4 (m_T_putAt T x1 x2 x3)) := by
  generalize hres : (m_T_putAt T x1 x2 x3) = RES
  refine vz_C.of (by decide) (Nat.le_of_ble_eq_true rfl) ?_
  intro p e s m below meth c ls E hl hK hP hD hS
  obtain ⟨hx, hb, hr, hml, hown, hT, hlocks⟩ := E
  obtain ⟨Q, hQ⟩ : ∃ Q, Q = MQ below (vz_Q (dC, dI) classes (wT cI cZ h0 a1 a2 a3 a4 T) (none) (wT cI cZ h0 a1 a2 a3 a4 RES)) ([.ref h0, .int x1, .int x2, .int x3] : List Value).toArray s 0 0 (vz_A (wT cI cZ h0 a1 a2 a3 a4 T)) := ⟨_, rfl⟩
  rw [← hQ]
  have hl : lv_has ls 5 [(0, .ref h0), (1, .int x1), (2, .int x2), (3, .int x3)] := hl
  have T0 := ti_0
  have T1 := ti_1
  have Tm := ti_m1
  have T8 := ti_8
  have T39 := ti_39
  have T40 := ti_40
  have T4 := ti_4
  have T300 := ti_300
  have k_6 : ∀ (n : Nat) (x4 : Int32) (f : cA), l_T_putAt_6 T x1 x2 x3 n x4 f = RES → (x1.toInt ≤ x4.toInt ∧ x4.toInt ≤ T.2.2.2.2.toInt ∧ x4.toInt < n + x1.toInt) → ∀ (H : Heap) (locs : List Loc) (ls : Array Slot), va_P (dC, dI) classes (wT cI cZ h0 a1 a2 a3 a4 (T.1, T.2.1, T.2.2.1, f, T.2.2.2.2)) H → va_D (vz_A (wT cI cZ h0 a1 a2 a3 a4 T)) (wT cI cZ h0 a1 a2 a3 a4 (T.1, T.2.1, T.2.2.1, f, T.2.2.2.2)) → va_S (vz_A (wT cI cZ h0 a1 a2 a3 a4 T)) s.heap H locs → lv_has ls 5 [(0, .ref h0), (1, .int x1), (2, .int x2), (3, .int x3), (4, .int x4)] → W p l e ({ frames := 0, cells := 0, slots := 0, locals := 0 }) s m ([.ref h0, .int x1, .int x2, .int x3] : List Value).toArray below meth c H locs 0 0 Q (F0 m 6 ls []) := by
    intro n
    induction n with
    | zero =>
      intro x4 f hres i4 H locs ls hP hD hS hl
      exfalso
      omega
    | succ n ih =>
      intro x4 f hres i4 H locs ls hP hD hS hl
      refine lv_iload hx hb d_T_putAt_6 (lv_at hl 4 rfl) ?_
      refine lv_iload_n hx hb d_T_putAt_8 rfl (lv_at hl 1 rfl) ?_
      refine lv_icmp_le (tgt := 34) hx hb d_T_putAt_9 (by decide) (fun c_9 => ?_) (fun c_9 => ?_)
      · have z_9 := Int32.le_iff_toInt_le.mp c_9
        refine lv_aload_n hx hb d_T_putAt_34 rfl (lv_at hl 0 rfl) ?_
        refine va_get (D := (dC, dI)) (ci := 0) (v := .ref a4) (C := R_T) (T := F_T) (N := 5) hx hb hT i_T hown hK hP 0 rfl rfl 3 (by decide) (hT _ kw_96) (fun _ h9 => h9) rfl d_T_putAt_35 ?_
        refine lv_iload_n hx hb d_T_putAt_38 rfl (lv_at hl 1 rfl) ?_
        refine lv_iload_n hx hb d_T_putAt_39 rfl (lv_at hl 2 rfl) ?_
        refine va_iast hx hb hK hP hD hS 4 0 rfl rfl (ti_vp (by omega) (by omega)) d_T_putAt_40 (fun H locs hP hD hS => ?_)
        have hP : va_P (dC, dI) classes (wT cI cZ h0 a1 a2 a3 a4 (T.1, T.2.1, T.2.2.1, upd f x1.toNatClampNeg x2, T.2.2.2.2)) H := vz_reP (hW_T_putAt_40 cI cZ cQ h0 a1 a2 a3 a4 (T.1, T.2.1, T.2.2.1, f, T.2.2.2.2) (upd f x1.toNatClampNeg x2)) hP
        have hD : va_D (vz_A (wT cI cZ h0 a1 a2 a3 a4 T)) (wT cI cZ h0 a1 a2 a3 a4 (T.1, T.2.1, T.2.2.1, upd f x1.toNatClampNeg x2, T.2.2.2.2)) := vz_reD (hW_T_putAt_40 cI cZ cQ h0 a1 a2 a3 a4 (T.1, T.2.1, T.2.2.1, f, T.2.2.2.2) (upd f x1.toNatClampNeg x2)) hD
        refine lv_aload_n hx hb d_T_putAt_41 rfl (lv_at hl 0 rfl) ?_
        refine va_get (D := (dC, dI)) (ci := 0) (v := .ref a2) (C := R_T) (T := F_T) (N := 5) hx hb hT i_T hown hK hP 0 rfl rfl 1 (by decide) (hT _ kw_92) (fun _ h9 => h9) rfl d_T_putAt_42 ?_
        refine lv_iload_n hx hb d_T_putAt_45 rfl (lv_at hl 2 rfl) ?_
        refine lv_iload_n hx hb d_T_putAt_46 rfl (lv_at hl 3 rfl) ?_
        refine va_iast hx hb hK hP hD hS 2 0 rfl rfl (ti_vp (by omega) (by omega)) d_T_putAt_47 (fun H locs hP hD hS => ?_)
        have hP : va_P (dC, dI) classes (wT cI cZ h0 a1 a2 a3 a4 (T.1, upd T.2.1 x2.toNatClampNeg x3, T.2.2.1, upd f x1.toNatClampNeg x2, T.2.2.2.2)) H := vz_reP (hW_T_putAt_47 cI cZ cQ h0 a1 a2 a3 a4 (T.1, T.2.1, T.2.2.1, upd f x1.toNatClampNeg x2, T.2.2.2.2) (upd T.2.1 x2.toNatClampNeg x3)) hP
        have hD : va_D (vz_A (wT cI cZ h0 a1 a2 a3 a4 T)) (wT cI cZ h0 a1 a2 a3 a4 (T.1, upd T.2.1 x2.toNatClampNeg x3, T.2.2.1, upd f x1.toNatClampNeg x2, T.2.2.2.2)) := vz_reD (hW_T_putAt_47 cI cZ cQ h0 a1 a2 a3 a4 (T.1, T.2.1, T.2.2.1, upd f x1.toNatClampNeg x2, T.2.2.2.2) (upd T.2.1 x2.toNatClampNeg x3)) hD
        refine lv_aload_n hx hb d_T_putAt_48 rfl (lv_at hl 0 rfl) ?_
        refine lv_dup hx hb d_T_putAt_49 rfl ?_
        refine va_get (D := (dC, dI)) (ci := 0) (v := .int T.2.2.2.2) (C := R_T) (T := F_T) (N := 5) hx hb hT i_T hown hK hP 0 rfl rfl 4 (by decide) (hT _ kw_97) (fun _ h9 => h9) rfl d_T_putAt_50 ?_
        refine lv_iconst (v := 1) hx hb d_T_putAt_53 (by decide) ?_
        refine lv_iadd hx hb d_T_putAt_54 ?_
        refine va_put (D := (dC, dI)) (ci := 0) (v := .int (T.2.2.2.2 + 1)) (ty := .int) (C := R_T) (T := F_T) (N := 5) hx hb hT i_T tt_T tt_T_ok n_T hown hK hP hD hS 0 rfl rfl 4 (by decide) (hT _ kw_97) (fun _ h9 => h9) rfl (by decide +kernel) rfl rfl (Nat.le_of_ble_eq_true rfl) d_T_putAt_55 (fun H locs hP hD hS => ?_)
        have hP : va_P (dC, dI) classes (wT cI cZ h0 a1 a2 a3 a4 (T.1, upd T.2.1 x2.toNatClampNeg x3, T.2.2.1, upd f x1.toNatClampNeg x2, T.2.2.2.2 + 1)) H := vz_reP (hW_T_putAt_55 cI cZ cQ h0 a1 a2 a3 a4 (T.1, upd T.2.1 x2.toNatClampNeg x3, T.2.2.1, upd f x1.toNatClampNeg x2, T.2.2.2.2) (T.2.2.2.2 + 1)) hP
        have hD : va_D (vz_A (wT cI cZ h0 a1 a2 a3 a4 T)) (wT cI cZ h0 a1 a2 a3 a4 (T.1, upd T.2.1 x2.toNatClampNeg x3, T.2.2.1, upd f x1.toNatClampNeg x2, T.2.2.2.2 + 1)) := vz_reD (hW_T_putAt_55 cI cZ cQ h0 a1 a2 a3 a4 (T.1, upd T.2.1 x2.toNatClampNeg x3, T.2.2.1, upd f x1.toNatClampNeg x2, T.2.2.2.2) (T.2.2.2.2 + 1)) hD
        rw [l_T_putAt_6, if_pos c_9] at hres
        subst hres
        subst hQ
        exact vz_vret hx hb hr hlocks d_T_putAt_58 hS rfl hP
      · have z_9 := mt Int32.le_iff_toInt_le.mpr c_9
        refine lv_aload_n hx hb d_T_putAt_12 rfl (lv_at hl 0 rfl) ?_
        refine va_get (D := (dC, dI)) (ci := 0) (v := .ref a4) (C := R_T) (T := F_T) (N := 5) hx hb hT i_T hown hK hP 0 rfl rfl 3 (by decide) (hT _ kw_96) (fun _ h9 => h9) rfl d_T_putAt_13 ?_
        refine lv_iload hx hb d_T_putAt_16 (lv_at hl 4 rfl) ?_
        refine lv_aload_n hx hb d_T_putAt_18 rfl (lv_at hl 0 rfl) ?_
        refine va_get (D := (dC, dI)) (ci := 0) (v := .ref a4) (C := R_T) (T := F_T) (N := 5) hx hb hT i_T hown hK hP 0 rfl rfl 3 (by decide) (hT _ kw_96) (fun _ h9 => h9) rfl d_T_putAt_19 ?_
        refine lv_iload hx hb d_T_putAt_22 (lv_at hl 4 rfl) ?_
        refine lv_iconst (v := 1) hx hb d_T_putAt_24 (by decide) ?_
        refine lv_isub hx hb d_T_putAt_25 ?_
        refine va_iald hx hb hK hP 4 0 rfl rfl (ti_vp (by rw [ti_dec' (by omega)]; omega) (by rw [ti_dec' (by omega)]; omega)) d_T_putAt_26 ?_
        refine va_iast hx hb hK hP hD hS 4 0 rfl rfl (ti_vp (by omega) (by omega)) d_T_putAt_27 (fun H locs hP hD hS => ?_)
        have hP : va_P (dC, dI) classes (wT cI cZ h0 a1 a2 a3 a4 (T.1, T.2.1, T.2.2.1, upd f x4.toNatClampNeg (f (x4 - 1).toNatClampNeg), T.2.2.2.2)) H := vz_reP (hW_T_putAt_27 cI cZ cQ h0 a1 a2 a3 a4 (T.1, T.2.1, T.2.2.1, f, T.2.2.2.2) (upd f x4.toNatClampNeg (f (x4 - 1).toNatClampNeg))) hP
        have hD : va_D (vz_A (wT cI cZ h0 a1 a2 a3 a4 T)) (wT cI cZ h0 a1 a2 a3 a4 (T.1, T.2.1, T.2.2.1, upd f x4.toNatClampNeg (f (x4 - 1).toNatClampNeg), T.2.2.2.2)) := vz_reD (hW_T_putAt_27 cI cZ cQ h0 a1 a2 a3 a4 (T.1, T.2.1, T.2.2.1, f, T.2.2.2.2) (upd f x4.toNatClampNeg (f (x4 - 1).toNatClampNeg))) hD
        refine lv_iinc (v := x4 + (-1)) (lv' := [(4, .int (x4 + (-1))), (0, .ref h0), (1, .int x1), (2, .int x2), (3, .int x3)]) hx hb d_T_putAt_28 hl (k := 4) rfl rfl (by decide) rfl (fun ls hl => ?_)
        refine lv_goto (tgt := 6) hx hb d_T_putAt_31 (by decide) ?_
        rw [l_T_putAt_6, if_neg c_9] at hres
        exact ih (x4 + (-1)) (upd f x4.toNatClampNeg (f (x4 - 1).toNatClampNeg))  hres (by rw [ti_dec (by omega)]; omega) H locs ls hP hD hS (lv_sub hl [1, 2, 3, 4, 0] rfl)
  have hS0 := hS
  refine lv_aload_n hx hb d_T_putAt_0 rfl (lv_at hl 0 rfl) ?_
  refine va_get (D := (dC, dI)) (ci := 0) (v := .int T.2.2.2.2) (C := R_T) (T := F_T) (N := 5) hx hb hT i_T hown hK hP 0 rfl rfl 4 (by decide) (hT _ kw_97) (fun _ h9 => h9) rfl d_T_putAt_1 ?_
  refine lv_istore (lv' := [(4, .int T.2.2.2.2), (0, .ref h0), (1, .int x1), (2, .int x2), (3, .int x3)]) hx hb d_T_putAt_4 hl (by decide) rfl (fun ls hl => ?_)
  rw [m_T_putAt] at hres
  exact k_6 41 T.2.2.2.2 T.2.2.2.1  hres (by omega) _ _ ls hP hD hS (lv_sub hl [1, 2, 3, 4, 0] rfl)

def l_T_spotBehind_2 (T : cT) (x1 : Int32) (x2 : Int32) : Nat → Int32 → Int32
  | 0, _ => 0
  | n + 1, x3 => (if T.2.2.2.2 ≤ x3 then 0 else (if (T.2.2.2.1 x3.toNatClampNeg) = x1 then (if (T.2.1 x1.toNatClampNeg) = x2 then x3 + 1 else (l_T_spotBehind_2 T x1 x2 n (x3 + 1))) else (l_T_spotBehind_2 T x1 x2 n (x3 + 1))))
def m_T_spotBehind (T : cT) (x1 : Int32) (x2 : Int32) : Int32 := (l_T_spotBehind_2 T x1 x2 41 0)
set_option maxHeartbeats 1000000 in
set_option maxRecDepth 100000 in
theorem c_T_spotBehind (l : Launch) (dC : Nat → ClassId) (dI : Nat → Nat → Nat) (cI cZ cQ : ClassId) (h0 : Nat) (a1 : Nat) (a2 : Nat) (a3 : Nat) (a4 : Nat) (T : cT) (x1 : Int32) (x2 : Int32) (hsz : 0 ≤ T.2.2.2.2.toInt ∧ T.2.2.2.2.toInt ≤ 40) (hline : ∀ j, j < 40 → 0 ≤ (T.2.2.2.1 j).toInt ∧ (T.2.2.2.1 j).toInt < 40) : vz_C l (dC, dI) classes [(cI, .int), (cZ, .boolean), (cQ, .object "BinTrees$Person")] y_T_spotBehind (Cond.code y_T_spotBehind b_T_spotBehind 4 (some .int) :: vz_tbl) ({ frames := 0, cells := 0, slots := 0, locals := 0 }) [.ref h0, .int x1, .int x2] (wT cI cZ h0 a1 a2 a3 a4 T) (some (.int (m_T_spotBehind T x1 x2))) (wT cI cZ h0 a1 a2 a3 a4 T) := by
  generalize hres : (m_T_spotBehind T x1 x2) = RES
  refine vz_C.of (by decide) (Nat.le_of_ble_eq_true rfl) ?_
  intro p e s m below meth c ls E hl hK hP hD hS
  obtain ⟨hx, hb, hr, hml, hown, hT, hlocks⟩ := E
  obtain ⟨Q, hQ⟩ : ∃ Q, Q = MQ below (vz_Q (dC, dI) classes (wT cI cZ h0 a1 a2 a3 a4 T) (some (.int RES)) (wT cI cZ h0 a1 a2 a3 a4 T)) ([.ref h0, .int x1, .int x2] : List Value).toArray s 0 0 (vz_A (wT cI cZ h0 a1 a2 a3 a4 T)) := ⟨_, rfl⟩
  rw [← hQ]
  have hl : lv_has ls 4 [(0, .ref h0), (1, .int x1), (2, .int x2)] := hl
  have T0 := ti_0
  have T1 := ti_1
  have Tm := ti_m1
  have T8 := ti_8
  have T39 := ti_39
  have T40 := ti_40
  have T4 := ti_4
  have T300 := ti_300
  have k_2 : ∀ (n : Nat) (x3 : Int32), l_T_spotBehind_2 T x1 x2 n x3 = RES → (0 ≤ x3.toInt ∧ x3.toInt ≤ T.2.2.2.2.toInt ∧ T.2.2.2.2.toInt < n + x3.toInt) → ∀ (H : Heap) (locs : List Loc) (ls : Array Slot), va_P (dC, dI) classes (wT cI cZ h0 a1 a2 a3 a4 T) H → va_D (vz_A (wT cI cZ h0 a1 a2 a3 a4 T)) (wT cI cZ h0 a1 a2 a3 a4 T) → va_S (vz_A (wT cI cZ h0 a1 a2 a3 a4 T)) s.heap H locs → lv_has ls 4 [(0, .ref h0), (1, .int x1), (2, .int x2), (3, .int x3)] → W p l e ({ frames := 0, cells := 0, slots := 0, locals := 0 }) s m ([.ref h0, .int x1, .int x2] : List Value).toArray below meth c H locs 0 0 Q (F0 m 2 ls []) := by
    intro n
    induction n with
    | zero =>
      intro x3 hres i3 H locs ls hP hD hS hl
      exfalso
      omega
    | succ n ih =>
      intro x3 hres i3 H locs ls hP hD hS hl
      refine lv_iload_n hx hb d_T_spotBehind_2 rfl (lv_at hl 3 rfl) ?_
      refine lv_aload_n hx hb d_T_spotBehind_3 rfl (lv_at hl 0 rfl) ?_
      refine va_get (D := (dC, dI)) (ci := 0) (v := .int T.2.2.2.2) (C := R_T) (T := F_T) (N := 5) hx hb hT i_T hown hK hP 0 rfl rfl 4 (by decide) (hT _ kw_97) (fun _ h9 => h9) rfl d_T_spotBehind_4 ?_
      refine lv_icmp_ge (tgt := 40) hx hb d_T_spotBehind_7 (by decide) (fun c_7 => ?_) (fun c_7 => ?_)
      · have z_7 := Int32.le_iff_toInt_le.mp c_7
        refine lv_iconst (v := 0) hx hb d_T_spotBehind_40 (by decide) ?_
        rw [l_T_spotBehind_2, if_pos c_7] at hres
        subst hres
        subst hQ
        exact vz_iret hx hb hr hlocks d_T_spotBehind_41 hS rfl hP
      · have z_7 := mt Int32.le_iff_toInt_le.mpr c_7
        refine lv_aload_n hx hb d_T_spotBehind_10 rfl (lv_at hl 0 rfl) ?_
        refine va_get (D := (dC, dI)) (ci := 0) (v := .ref a4) (C := R_T) (T := F_T) (N := 5) hx hb hT i_T hown hK hP 0 rfl rfl 3 (by decide) (hT _ kw_96) (fun _ h9 => h9) rfl d_T_spotBehind_11 ?_
        refine lv_iload_n hx hb d_T_spotBehind_14 rfl (lv_at hl 3 rfl) ?_
        refine va_iald hx hb hK hP 4 0 rfl rfl (ti_vp (by omega) (by omega)) d_T_spotBehind_15 ?_
        refine lv_iload_n hx hb d_T_spotBehind_16 rfl (lv_at hl 1 rfl) ?_
        refine lv_icmp_ne (tgt := 34) hx hb d_T_spotBehind_17 (by decide) (fun c_17 => ?_) (fun c_17 => ?_)
        · have z_17 := mt Int32.toInt_inj.mp c_17
          refine lv_iinc (v := x3 + 1) (lv' := [(3, .int (x3 + 1)), (0, .ref h0), (1, .int x1), (2, .int x2)]) hx hb d_T_spotBehind_34 hl (k := 3) rfl rfl (by decide) rfl (fun ls hl => ?_)
          refine lv_goto (tgt := 2) hx hb d_T_spotBehind_37 (by decide) ?_
          rw [l_T_spotBehind_2, if_neg c_7, if_neg c_17] at hres
          exact ih (x3 + 1)  hres (by rw [ti_inc (x := x3) (by omega)]; omega) H locs ls hP hD hS (lv_sub hl [1, 2, 3, 0] rfl)
        · have z_17 := congrArg Int32.toInt c_17
          refine lv_aload_n hx hb d_T_spotBehind_20 rfl (lv_at hl 0 rfl) ?_
          refine va_get (D := (dC, dI)) (ci := 0) (v := .ref a2) (C := R_T) (T := F_T) (N := 5) hx hb hT i_T hown hK hP 0 rfl rfl 1 (by decide) (hT _ kw_92) (fun _ h9 => h9) rfl d_T_spotBehind_21 ?_
          refine lv_iload_n hx hb d_T_spotBehind_24 rfl (lv_at hl 1 rfl) ?_
          refine va_iald hx hb hK hP 2 0 rfl rfl (by have hz := hline _ (ti_ix (x := x3) (n := 40) (by omega) (by omega)); rw [c_17] at hz; exact ti_vp (by omega) (by omega)) d_T_spotBehind_25 ?_
          refine lv_iload_n hx hb d_T_spotBehind_26 rfl (lv_at hl 2 rfl) ?_
          refine lv_icmp_ne (tgt := 34) hx hb d_T_spotBehind_27 (by decide) (fun c_27 => ?_) (fun c_27 => ?_)
          · have z_27 := mt Int32.toInt_inj.mp c_27
            refine lv_iinc (v := x3 + 1) (lv' := [(3, .int (x3 + 1)), (0, .ref h0), (1, .int x1), (2, .int x2)]) hx hb d_T_spotBehind_34 hl (k := 3) rfl rfl (by decide) rfl (fun ls hl => ?_)
            refine lv_goto (tgt := 2) hx hb d_T_spotBehind_37 (by decide) ?_
            rw [l_T_spotBehind_2, if_neg c_7, if_pos c_17, if_neg c_27] at hres
            exact ih (x3 + 1)  hres (by rw [ti_inc (x := x3) (by omega)]; omega) H locs ls hP hD hS (lv_sub hl [1, 2, 3, 0] rfl)
          · have z_27 := congrArg Int32.toInt c_27
            refine lv_iload_n hx hb d_T_spotBehind_30 rfl (lv_at hl 3 rfl) ?_
            refine lv_iconst (v := 1) hx hb d_T_spotBehind_31 (by decide) ?_
            refine lv_iadd hx hb d_T_spotBehind_32 ?_
            rw [l_T_spotBehind_2, if_neg c_7, if_pos c_17, if_pos c_27] at hres
            subst hres
            subst hQ
            exact vz_iret hx hb hr hlocks d_T_spotBehind_33 hS rfl hP
  have hS0 := hS
  refine lv_iconst (v := 0) hx hb d_T_spotBehind_0 (by decide) ?_
  refine lv_istore_n (lv' := [(3, .int 0), (0, .ref h0), (1, .int x1), (2, .int x2)]) hx hb d_T_spotBehind_1 rfl hl (by decide) rfl (fun ls hl => ?_)
  rw [m_T_spotBehind] at hres
  exact k_2 41 0  hres (by omega) _ _ ls hP hD hS (lv_sub hl [1, 2, 3, 0] rfl)

def l_T_childCount_4 (T : cT) (x1 : Int32) : Nat → Int32 → Int32 → Int32
  | 0, _, _ => 0
  | n + 1, x2, x3 => (if T.2.2.2.2 ≤ x3 then x2 else (if (T.2.1 (T.2.2.2.1 x3.toNatClampNeg).toNatClampNeg) = x1 then (l_T_childCount_4 T x1 n (x2 + 1) (x3 + 1)) else (l_T_childCount_4 T x1 n x2 (x3 + 1))))
def m_T_childCount (T : cT) (x1 : Int32) : Int32 := (l_T_childCount_4 T x1 41 0 0)
set_option maxHeartbeats 1000000 in
set_option maxRecDepth 100000 in
theorem c_T_childCount (l : Launch) (dC : Nat → ClassId) (dI : Nat → Nat → Nat) (cI cZ cQ : ClassId) (h0 : Nat) (a1 : Nat) (a2 : Nat) (a3 : Nat) (a4 : Nat) (T : cT) (x1 : Int32) (hsz : 0 ≤ T.2.2.2.2.toInt ∧ T.2.2.2.2.toInt ≤ 40) (hline : ∀ j, j < 40 → 0 ≤ (T.2.2.2.1 j).toInt ∧ (T.2.2.2.1 j).toInt < 40) : vz_C l (dC, dI) classes [(cI, .int), (cZ, .boolean), (cQ, .object "BinTrees$Person")] y_T_childCount (Cond.code y_T_childCount b_T_childCount 4 (some .int) :: vz_tbl) ({ frames := 0, cells := 0, slots := 0, locals := 0 }) [.ref h0, .int x1] (wT cI cZ h0 a1 a2 a3 a4 T) (some (.int (m_T_childCount T x1))) (wT cI cZ h0 a1 a2 a3 a4 T) := by
  generalize hres : (m_T_childCount T x1) = RES
  refine vz_C.of (by decide) (Nat.le_of_ble_eq_true rfl) ?_
  intro p e s m below meth c ls E hl hK hP hD hS
  obtain ⟨hx, hb, hr, hml, hown, hT, hlocks⟩ := E
  obtain ⟨Q, hQ⟩ : ∃ Q, Q = MQ below (vz_Q (dC, dI) classes (wT cI cZ h0 a1 a2 a3 a4 T) (some (.int RES)) (wT cI cZ h0 a1 a2 a3 a4 T)) ([.ref h0, .int x1] : List Value).toArray s 0 0 (vz_A (wT cI cZ h0 a1 a2 a3 a4 T)) := ⟨_, rfl⟩
  rw [← hQ]
  have hl : lv_has ls 4 [(0, .ref h0), (1, .int x1)] := hl
  have T0 := ti_0
  have T1 := ti_1
  have Tm := ti_m1
  have T8 := ti_8
  have T39 := ti_39
  have T40 := ti_40
  have T4 := ti_4
  have T300 := ti_300
  have k_4 : ∀ (n : Nat) (x2 : Int32) (x3 : Int32), l_T_childCount_4 T x1 n x2 x3 = RES → (0 ≤ x3.toInt ∧ x3.toInt ≤ T.2.2.2.2.toInt ∧ T.2.2.2.2.toInt < n + x3.toInt) → ∀ (H : Heap) (locs : List Loc) (ls : Array Slot), va_P (dC, dI) classes (wT cI cZ h0 a1 a2 a3 a4 T) H → va_D (vz_A (wT cI cZ h0 a1 a2 a3 a4 T)) (wT cI cZ h0 a1 a2 a3 a4 T) → va_S (vz_A (wT cI cZ h0 a1 a2 a3 a4 T)) s.heap H locs → lv_has ls 4 [(0, .ref h0), (1, .int x1), (2, .int x2), (3, .int x3)] → W p l e ({ frames := 0, cells := 0, slots := 0, locals := 0 }) s m ([.ref h0, .int x1] : List Value).toArray below meth c H locs 0 0 Q (F0 m 4 ls []) := by
    intro n
    induction n with
    | zero =>
      intro x2 x3 hres i3 H locs ls hP hD hS hl
      exfalso
      omega
    | succ n ih =>
      intro x2 x3 hres i3 H locs ls hP hD hS hl
      refine lv_iload_n hx hb d_T_childCount_4 rfl (lv_at hl 3 rfl) ?_
      refine lv_aload_n hx hb d_T_childCount_5 rfl (lv_at hl 0 rfl) ?_
      refine va_get (D := (dC, dI)) (ci := 0) (v := .int T.2.2.2.2) (C := R_T) (T := F_T) (N := 5) hx hb hT i_T hown hK hP 0 rfl rfl 4 (by decide) (hT _ kw_97) (fun _ h9 => h9) rfl d_T_childCount_6 ?_
      refine lv_icmp_ge (tgt := 36) hx hb d_T_childCount_9 (by decide) (fun c_9 => ?_) (fun c_9 => ?_)
      · have z_9 := Int32.le_iff_toInt_le.mp c_9
        refine lv_iload_n hx hb d_T_childCount_36 rfl (lv_at hl 2 rfl) ?_
        rw [l_T_childCount_4, if_pos c_9] at hres
        subst hres
        subst hQ
        exact vz_iret hx hb hr hlocks d_T_childCount_37 hS rfl hP
      · have z_9 := mt Int32.le_iff_toInt_le.mpr c_9
        refine lv_aload_n hx hb d_T_childCount_12 rfl (lv_at hl 0 rfl) ?_
        refine va_get (D := (dC, dI)) (ci := 0) (v := .ref a2) (C := R_T) (T := F_T) (N := 5) hx hb hT i_T hown hK hP 0 rfl rfl 1 (by decide) (hT _ kw_92) (fun _ h9 => h9) rfl d_T_childCount_13 ?_
        refine lv_aload_n hx hb d_T_childCount_16 rfl (lv_at hl 0 rfl) ?_
        refine va_get (D := (dC, dI)) (ci := 0) (v := .ref a4) (C := R_T) (T := F_T) (N := 5) hx hb hT i_T hown hK hP 0 rfl rfl 3 (by decide) (hT _ kw_96) (fun _ h9 => h9) rfl d_T_childCount_17 ?_
        refine lv_iload_n hx hb d_T_childCount_20 rfl (lv_at hl 3 rfl) ?_
        refine va_iald hx hb hK hP 4 0 rfl rfl (ti_vp (by omega) (by omega)) d_T_childCount_21 ?_
        refine va_iald hx hb hK hP 2 0 rfl rfl (by have hz := hline _ (ti_ix (x := x3) (n := 40) (by omega) (by omega)); exact ti_vp (by omega) (by omega)) d_T_childCount_22 ?_
        refine lv_iload_n hx hb d_T_childCount_23 rfl (lv_at hl 1 rfl) ?_
        refine lv_icmp_ne (tgt := 30) hx hb d_T_childCount_24 (by decide) (fun c_24 => ?_) (fun c_24 => ?_)
        · have z_24 := mt Int32.toInt_inj.mp c_24
          refine lv_iinc (v := x3 + 1) (lv' := [(3, .int (x3 + 1)), (0, .ref h0), (1, .int x1), (2, .int x2)]) hx hb d_T_childCount_30 hl (k := 3) rfl rfl (by decide) rfl (fun ls hl => ?_)
          refine lv_goto (tgt := 4) hx hb d_T_childCount_33 (by decide) ?_
          rw [l_T_childCount_4, if_neg c_9, if_neg c_24] at hres
          exact ih x2 (x3 + 1)  hres (by rw [ti_inc (x := x3) (by omega)]; omega) H locs ls hP hD hS (lv_sub hl [1, 2, 3, 0] rfl)
        · have z_24 := congrArg Int32.toInt c_24
          refine lv_iinc (v := x2 + 1) (lv' := [(2, .int (x2 + 1)), (0, .ref h0), (1, .int x1), (3, .int x3)]) hx hb d_T_childCount_27 hl (k := 2) rfl rfl (by decide) rfl (fun ls hl => ?_)
          refine lv_iinc (v := x3 + 1) (lv' := [(3, .int (x3 + 1)), (2, .int (x2 + 1)), (0, .ref h0), (1, .int x1)]) hx hb d_T_childCount_30 hl (k := 3) rfl rfl (by decide) rfl (fun ls hl => ?_)
          refine lv_goto (tgt := 4) hx hb d_T_childCount_33 (by decide) ?_
          rw [l_T_childCount_4, if_neg c_9, if_pos c_24] at hres
          exact ih (x2 + 1) (x3 + 1)  hres (by rw [ti_inc (x := x3) (by omega)]; omega) H locs ls hP hD hS (lv_sub hl [2, 3, 1, 0] rfl)
  have hS0 := hS
  refine lv_iconst (v := 0) hx hb d_T_childCount_0 (by decide) ?_
  refine lv_istore_n (lv' := [(2, .int 0), (0, .ref h0), (1, .int x1)]) hx hb d_T_childCount_1 rfl hl (by decide) rfl (fun ls hl => ?_)
  refine lv_iconst (v := 0) hx hb d_T_childCount_2 (by decide) ?_
  refine lv_istore_n (lv' := [(3, .int 0), (2, .int 0), (0, .ref h0), (1, .int x1)]) hx hb d_T_childCount_3 rfl hl (by decide) rfl (fun ls hl => ?_)
  rw [m_T_childCount] at hres
  exact k_4 41 0 0  hres (by omega) _ _ ls hP hD hS (lv_sub hl [2, 3, 1, 0] rfl)

def l_T_childAt_5 (T : cT) (x1 : Int32) (x2 : Int32) : Nat → Int32 → Int32 → Int32
  | 0, _, _ => 0
  | n + 1, x3, x4 => (if T.2.2.2.2 ≤ x4 then -1 else (if (T.2.1 (T.2.2.2.1 x4.toNatClampNeg).toNatClampNeg) = x1 then (if x3 = x2 then T.2.2.2.1 x4.toNatClampNeg else (l_T_childAt_5 T x1 x2 n (x3 + 1) (x4 + 1))) else (l_T_childAt_5 T x1 x2 n x3 (x4 + 1))))
def m_T_childAt (T : cT) (x1 : Int32) (x2 : Int32) : Int32 := (l_T_childAt_5 T x1 x2 41 0 0)
set_option maxHeartbeats 1000000 in
set_option maxRecDepth 100000 in
theorem c_T_childAt (l : Launch) (dC : Nat → ClassId) (dI : Nat → Nat → Nat) (cI cZ cQ : ClassId) (h0 : Nat) (a1 : Nat) (a2 : Nat) (a3 : Nat) (a4 : Nat) (T : cT) (x1 : Int32) (x2 : Int32) (hsz : 0 ≤ T.2.2.2.2.toInt ∧ T.2.2.2.2.toInt ≤ 40) (hline : ∀ j, j < 40 → 0 ≤ (T.2.2.2.1 j).toInt ∧ (T.2.2.2.1 j).toInt < 40) : vz_C l (dC, dI) classes [(cI, .int), (cZ, .boolean), (cQ, .object "BinTrees$Person")] y_T_childAt (Cond.code y_T_childAt b_T_childAt 5 (some .int) :: vz_tbl) ({ frames := 0, cells := 0, slots := 0, locals := 0 }) [.ref h0, .int x1, .int x2] (wT cI cZ h0 a1 a2 a3 a4 T) (some (.int (m_T_childAt T x1 x2))) (wT cI cZ h0 a1 a2 a3 a4 T) := by
  generalize hres : (m_T_childAt T x1 x2) = RES
  refine vz_C.of (by decide) (Nat.le_of_ble_eq_true rfl) ?_
  intro p e s m below meth c ls E hl hK hP hD hS
  obtain ⟨hx, hb, hr, hml, hown, hT, hlocks⟩ := E
  obtain ⟨Q, hQ⟩ : ∃ Q, Q = MQ below (vz_Q (dC, dI) classes (wT cI cZ h0 a1 a2 a3 a4 T) (some (.int RES)) (wT cI cZ h0 a1 a2 a3 a4 T)) ([.ref h0, .int x1, .int x2] : List Value).toArray s 0 0 (vz_A (wT cI cZ h0 a1 a2 a3 a4 T)) := ⟨_, rfl⟩
  rw [← hQ]
  have hl : lv_has ls 5 [(0, .ref h0), (1, .int x1), (2, .int x2)] := hl
  have T0 := ti_0
  have T1 := ti_1
  have Tm := ti_m1
  have T8 := ti_8
  have T39 := ti_39
  have T40 := ti_40
  have T4 := ti_4
  have T300 := ti_300
  have k_5 : ∀ (n : Nat) (x3 : Int32) (x4 : Int32), l_T_childAt_5 T x1 x2 n x3 x4 = RES → (0 ≤ x4.toInt ∧ x4.toInt ≤ T.2.2.2.2.toInt ∧ T.2.2.2.2.toInt < n + x4.toInt) → ∀ (H : Heap) (locs : List Loc) (ls : Array Slot), va_P (dC, dI) classes (wT cI cZ h0 a1 a2 a3 a4 T) H → va_D (vz_A (wT cI cZ h0 a1 a2 a3 a4 T)) (wT cI cZ h0 a1 a2 a3 a4 T) → va_S (vz_A (wT cI cZ h0 a1 a2 a3 a4 T)) s.heap H locs → lv_has ls 5 [(0, .ref h0), (1, .int x1), (2, .int x2), (3, .int x3), (4, .int x4)] → W p l e ({ frames := 0, cells := 0, slots := 0, locals := 0 }) s m ([.ref h0, .int x1, .int x2] : List Value).toArray below meth c H locs 0 0 Q (F0 m 5 ls []) := by
    intro n
    induction n with
    | zero =>
      intro x3 x4 hres i3 H locs ls hP hD hS hl
      exfalso
      omega
    | succ n ih =>
      intro x3 x4 hres i3 H locs ls hP hD hS hl
      refine lv_iload hx hb d_T_childAt_5 (lv_at hl 4 rfl) ?_
      refine lv_aload_n hx hb d_T_childAt_7 rfl (lv_at hl 0 rfl) ?_
      refine va_get (D := (dC, dI)) (ci := 0) (v := .int T.2.2.2.2) (C := R_T) (T := F_T) (N := 5) hx hb hT i_T hown hK hP 0 rfl rfl 4 (by decide) (hT _ kw_97) (fun _ h9 => h9) rfl d_T_childAt_8 ?_
      refine lv_icmp_ge (tgt := 52) hx hb d_T_childAt_11 (by decide) (fun c_11 => ?_) (fun c_11 => ?_)
      · have z_11 := Int32.le_iff_toInt_le.mp c_11
        refine lv_iconst (v := -1) hx hb d_T_childAt_52 (by decide) ?_
        rw [l_T_childAt_5, if_pos c_11] at hres
        subst hres
        subst hQ
        exact vz_iret hx hb hr hlocks d_T_childAt_53 hS rfl hP
      · have z_11 := mt Int32.le_iff_toInt_le.mpr c_11
        refine lv_aload_n hx hb d_T_childAt_14 rfl (lv_at hl 0 rfl) ?_
        refine va_get (D := (dC, dI)) (ci := 0) (v := .ref a2) (C := R_T) (T := F_T) (N := 5) hx hb hT i_T hown hK hP 0 rfl rfl 1 (by decide) (hT _ kw_92) (fun _ h9 => h9) rfl d_T_childAt_15 ?_
        refine lv_aload_n hx hb d_T_childAt_18 rfl (lv_at hl 0 rfl) ?_
        refine va_get (D := (dC, dI)) (ci := 0) (v := .ref a4) (C := R_T) (T := F_T) (N := 5) hx hb hT i_T hown hK hP 0 rfl rfl 3 (by decide) (hT _ kw_96) (fun _ h9 => h9) rfl d_T_childAt_19 ?_
        refine lv_iload hx hb d_T_childAt_22 (lv_at hl 4 rfl) ?_
        refine va_iald hx hb hK hP 4 0 rfl rfl (ti_vp (by omega) (by omega)) d_T_childAt_24 ?_
        refine va_iald hx hb hK hP 2 0 rfl rfl (by have hz := hline _ (ti_ix (x := x4) (n := 40) (by omega) (by omega)); exact ti_vp (by omega) (by omega)) d_T_childAt_25 ?_
        refine lv_iload_n hx hb d_T_childAt_26 rfl (lv_at hl 1 rfl) ?_
        refine lv_icmp_ne (tgt := 46) hx hb d_T_childAt_27 (by decide) (fun c_27 => ?_) (fun c_27 => ?_)
        · have z_27 := mt Int32.toInt_inj.mp c_27
          refine lv_iinc (v := x4 + 1) (lv' := [(4, .int (x4 + 1)), (0, .ref h0), (1, .int x1), (2, .int x2), (3, .int x3)]) hx hb d_T_childAt_46 hl (k := 4) rfl rfl (by decide) rfl (fun ls hl => ?_)
          refine lv_goto (tgt := 5) hx hb d_T_childAt_49 (by decide) ?_
          rw [l_T_childAt_5, if_neg c_11, if_neg c_27] at hres
          exact ih x3 (x4 + 1)  hres (by rw [ti_inc (x := x4) (by omega)]; omega) H locs ls hP hD hS (lv_sub hl [1, 2, 3, 4, 0] rfl)
        · have z_27 := congrArg Int32.toInt c_27
          refine lv_iload_n hx hb d_T_childAt_30 rfl (lv_at hl 3 rfl) ?_
          refine lv_iload_n hx hb d_T_childAt_31 rfl (lv_at hl 2 rfl) ?_
          refine lv_icmp_ne (tgt := 43) hx hb d_T_childAt_32 (by decide) (fun c_32 => ?_) (fun c_32 => ?_)
          · have z_32 := mt Int32.toInt_inj.mp c_32
            refine lv_iinc (v := x3 + 1) (lv' := [(3, .int (x3 + 1)), (0, .ref h0), (1, .int x1), (2, .int x2), (4, .int x4)]) hx hb d_T_childAt_43 hl (k := 3) rfl rfl (by decide) rfl (fun ls hl => ?_)
            refine lv_iinc (v := x4 + 1) (lv' := [(4, .int (x4 + 1)), (3, .int (x3 + 1)), (0, .ref h0), (1, .int x1), (2, .int x2)]) hx hb d_T_childAt_46 hl (k := 4) rfl rfl (by decide) rfl (fun ls hl => ?_)
            refine lv_goto (tgt := 5) hx hb d_T_childAt_49 (by decide) ?_
            rw [l_T_childAt_5, if_neg c_11, if_pos c_27, if_neg c_32] at hres
            exact ih (x3 + 1) (x4 + 1)  hres (by rw [ti_inc (x := x4) (by omega)]; omega) H locs ls hP hD hS (lv_sub hl [2, 3, 4, 1, 0] rfl)
          · have z_32 := congrArg Int32.toInt c_32
            refine lv_aload_n hx hb d_T_childAt_35 rfl (lv_at hl 0 rfl) ?_
            refine va_get (D := (dC, dI)) (ci := 0) (v := .ref a4) (C := R_T) (T := F_T) (N := 5) hx hb hT i_T hown hK hP 0 rfl rfl 3 (by decide) (hT _ kw_96) (fun _ h9 => h9) rfl d_T_childAt_36 ?_
            refine lv_iload hx hb d_T_childAt_39 (lv_at hl 4 rfl) ?_
            refine va_iald hx hb hK hP 4 0 rfl rfl (ti_vp (by omega) (by omega)) d_T_childAt_41 ?_
            rw [l_T_childAt_5, if_neg c_11, if_pos c_27, if_pos c_32] at hres
            subst hres
            subst hQ
            exact vz_iret hx hb hr hlocks d_T_childAt_42 hS rfl hP
  have hS0 := hS
  refine lv_iconst (v := 0) hx hb d_T_childAt_0 (by decide) ?_
  refine lv_istore_n (lv' := [(3, .int 0), (0, .ref h0), (1, .int x1), (2, .int x2)]) hx hb d_T_childAt_1 rfl hl (by decide) rfl (fun ls hl => ?_)
  refine lv_iconst (v := 0) hx hb d_T_childAt_2 (by decide) ?_
  refine lv_istore (lv' := [(4, .int 0), (3, .int 0), (0, .ref h0), (1, .int x1), (2, .int x2)]) hx hb d_T_childAt_3 hl (by decide) rfl (fun ls hl => ?_)
  rw [m_T_childAt] at hres
  exact k_5 41 0 0  hres (by omega) _ _ ls hP hD hS (lv_sub hl [2, 3, 4, 1, 0] rfl)

def l_T_placeOf_10 (T : cT) (x1 : Int32) : Nat → Int32 → Int32 → Int32
  | 0, _, _ => 0
  | n + 1, x2, x3 => (if T.2.2.2.2 ≤ x3 then x2 else (if (T.2.2.2.1 x3.toNatClampNeg) = x1 then x2 else (if (T.2.1 (T.2.2.2.1 x3.toNatClampNeg).toNatClampNeg) = (T.2.1 x1.toNatClampNeg) then (l_T_placeOf_10 T x1 n (x2 + 1) (x3 + 1)) else (l_T_placeOf_10 T x1 n x2 (x3 + 1)))))
def m_T_placeOf (T : cT) (x1 : Int32) : Int32 := (if x1 = 0 then 0 else (l_T_placeOf_10 T x1 41 0 0))
set_option maxHeartbeats 1000000 in
set_option maxRecDepth 100000 in
theorem c_T_placeOf (l : Launch) (dC : Nat → ClassId) (dI : Nat → Nat → Nat) (cI cZ cQ : ClassId) (h0 : Nat) (a1 : Nat) (a2 : Nat) (a3 : Nat) (a4 : Nat) (T : cT) (x1 : Int32) (hsz : 0 ≤ T.2.2.2.2.toInt ∧ T.2.2.2.2.toInt ≤ 40) (hline : ∀ j, j < 40 → 0 ≤ (T.2.2.2.1 j).toInt ∧ (T.2.2.2.1 j).toInt < 40) (h1 : 0 ≤ x1.toInt ∧ x1.toInt < 40) : vz_C l (dC, dI) classes [(cI, .int), (cZ, .boolean), (cQ, .object "BinTrees$Person")] y_T_placeOf (Cond.code y_T_placeOf b_T_placeOf 4 (some .int) :: vz_tbl) ({ frames := 0, cells := 0, slots := 0, locals := 0 }) [.ref h0, .int x1] (wT cI cZ h0 a1 a2 a3 a4 T) (some (.int (m_T_placeOf T x1))) (wT cI cZ h0 a1 a2 a3 a4 T) := by
  generalize hres : (m_T_placeOf T x1) = RES
  refine vz_C.of (by decide) (Nat.le_of_ble_eq_true rfl) ?_
  intro p e s m below meth c ls E hl hK hP hD hS
  obtain ⟨hx, hb, hr, hml, hown, hT, hlocks⟩ := E
  obtain ⟨Q, hQ⟩ : ∃ Q, Q = MQ below (vz_Q (dC, dI) classes (wT cI cZ h0 a1 a2 a3 a4 T) (some (.int RES)) (wT cI cZ h0 a1 a2 a3 a4 T)) ([.ref h0, .int x1] : List Value).toArray s 0 0 (vz_A (wT cI cZ h0 a1 a2 a3 a4 T)) := ⟨_, rfl⟩
  rw [← hQ]
  have hl : lv_has ls 4 [(0, .ref h0), (1, .int x1)] := hl
  have T0 := ti_0
  have T1 := ti_1
  have Tm := ti_m1
  have T8 := ti_8
  have T39 := ti_39
  have T40 := ti_40
  have T4 := ti_4
  have T300 := ti_300
  have k_10 : ∀ (n : Nat) (x2 : Int32) (x3 : Int32), l_T_placeOf_10 T x1 n x2 x3 = RES → (0 ≤ x3.toInt ∧ x3.toInt ≤ T.2.2.2.2.toInt ∧ T.2.2.2.2.toInt < n + x3.toInt) → ∀ (H : Heap) (locs : List Loc) (ls : Array Slot), va_P (dC, dI) classes (wT cI cZ h0 a1 a2 a3 a4 T) H → va_D (vz_A (wT cI cZ h0 a1 a2 a3 a4 T)) (wT cI cZ h0 a1 a2 a3 a4 T) → va_S (vz_A (wT cI cZ h0 a1 a2 a3 a4 T)) s.heap H locs → lv_has ls 4 [(0, .ref h0), (1, .int x1), (2, .int x2), (3, .int x3)] → W p l e ({ frames := 0, cells := 0, slots := 0, locals := 0 }) s m ([.ref h0, .int x1] : List Value).toArray below meth c H locs 0 0 Q (F0 m 10 ls []) := by
    intro n
    induction n with
    | zero =>
      intro x2 x3 hres i3 H locs ls hP hD hS hl
      exfalso
      omega
    | succ n ih =>
      intro x2 x3 hres i3 H locs ls hP hD hS hl
      refine lv_iload_n hx hb d_T_placeOf_10 rfl (lv_at hl 3 rfl) ?_
      refine lv_aload_n hx hb d_T_placeOf_11 rfl (lv_at hl 0 rfl) ?_
      refine va_get (D := (dC, dI)) (ci := 0) (v := .int T.2.2.2.2) (C := R_T) (T := F_T) (N := 5) hx hb hT i_T hown hK hP 0 rfl rfl 4 (by decide) (hT _ kw_97) (fun _ h9 => h9) rfl d_T_placeOf_12 ?_
      refine lv_icmp_ge (tgt := 57) hx hb d_T_placeOf_15 (by decide) (fun c_15 => ?_) (fun c_15 => ?_)
      · have z_15 := Int32.le_iff_toInt_le.mp c_15
        refine lv_iload_n hx hb d_T_placeOf_57 rfl (lv_at hl 2 rfl) ?_
        rw [l_T_placeOf_10, if_pos c_15] at hres
        subst hres
        subst hQ
        exact vz_iret hx hb hr hlocks d_T_placeOf_58 hS rfl hP
      · have z_15 := mt Int32.le_iff_toInt_le.mpr c_15
        refine lv_aload_n hx hb d_T_placeOf_18 rfl (lv_at hl 0 rfl) ?_
        refine va_get (D := (dC, dI)) (ci := 0) (v := .ref a4) (C := R_T) (T := F_T) (N := 5) hx hb hT i_T hown hK hP 0 rfl rfl 3 (by decide) (hT _ kw_96) (fun _ h9 => h9) rfl d_T_placeOf_19 ?_
        refine lv_iload_n hx hb d_T_placeOf_22 rfl (lv_at hl 3 rfl) ?_
        refine va_iald hx hb hK hP 4 0 rfl rfl (ti_vp (by omega) (by omega)) d_T_placeOf_23 ?_
        refine lv_iload_n hx hb d_T_placeOf_24 rfl (lv_at hl 1 rfl) ?_
        refine lv_icmp_eq (tgt := 57) hx hb d_T_placeOf_25 (by decide) (fun c_25 => ?_) (fun c_25 => ?_)
        · have z_25 := congrArg Int32.toInt c_25
          refine lv_iload_n hx hb d_T_placeOf_57 rfl (lv_at hl 2 rfl) ?_
          rw [l_T_placeOf_10, if_neg c_15, if_pos c_25] at hres
          subst hres
          subst hQ
          exact vz_iret hx hb hr hlocks d_T_placeOf_58 hS rfl hP
        · have z_25 := mt Int32.toInt_inj.mp c_25
          refine lv_aload_n hx hb d_T_placeOf_28 rfl (lv_at hl 0 rfl) ?_
          refine va_get (D := (dC, dI)) (ci := 0) (v := .ref a2) (C := R_T) (T := F_T) (N := 5) hx hb hT i_T hown hK hP 0 rfl rfl 1 (by decide) (hT _ kw_92) (fun _ h9 => h9) rfl d_T_placeOf_29 ?_
          refine lv_aload_n hx hb d_T_placeOf_32 rfl (lv_at hl 0 rfl) ?_
          refine va_get (D := (dC, dI)) (ci := 0) (v := .ref a4) (C := R_T) (T := F_T) (N := 5) hx hb hT i_T hown hK hP 0 rfl rfl 3 (by decide) (hT _ kw_96) (fun _ h9 => h9) rfl d_T_placeOf_33 ?_
          refine lv_iload_n hx hb d_T_placeOf_36 rfl (lv_at hl 3 rfl) ?_
          refine va_iald hx hb hK hP 4 0 rfl rfl (ti_vp (by omega) (by omega)) d_T_placeOf_37 ?_
          refine va_iald hx hb hK hP 2 0 rfl rfl (by have hz := hline _ (ti_ix (x := x3) (n := 40) (by omega) (by omega)); exact ti_vp (by omega) (by omega)) d_T_placeOf_38 ?_
          refine lv_aload_n hx hb d_T_placeOf_39 rfl (lv_at hl 0 rfl) ?_
          refine va_get (D := (dC, dI)) (ci := 0) (v := .ref a2) (C := R_T) (T := F_T) (N := 5) hx hb hT i_T hown hK hP 0 rfl rfl 1 (by decide) (hT _ kw_92) (fun _ h9 => h9) rfl d_T_placeOf_40 ?_
          refine lv_iload_n hx hb d_T_placeOf_43 rfl (lv_at hl 1 rfl) ?_
          refine va_iald hx hb hK hP 2 0 rfl rfl (ti_vp (by omega) (by omega)) d_T_placeOf_44 ?_
          refine lv_icmp_ne (tgt := 51) hx hb d_T_placeOf_45 (by decide) (fun c_45 => ?_) (fun c_45 => ?_)
          · have z_45 := mt Int32.toInt_inj.mp c_45
            refine lv_iinc (v := x3 + 1) (lv' := [(3, .int (x3 + 1)), (0, .ref h0), (1, .int x1), (2, .int x2)]) hx hb d_T_placeOf_51 hl (k := 3) rfl rfl (by decide) rfl (fun ls hl => ?_)
            refine lv_goto (tgt := 10) hx hb d_T_placeOf_54 (by decide) ?_
            rw [l_T_placeOf_10, if_neg c_15, if_neg c_25, if_neg c_45] at hres
            exact ih x2 (x3 + 1)  hres (by rw [ti_inc (x := x3) (by omega)]; omega) H locs ls hP hD hS (lv_sub hl [1, 2, 3, 0] rfl)
          · have z_45 := congrArg Int32.toInt c_45
            refine lv_iinc (v := x2 + 1) (lv' := [(2, .int (x2 + 1)), (0, .ref h0), (1, .int x1), (3, .int x3)]) hx hb d_T_placeOf_48 hl (k := 2) rfl rfl (by decide) rfl (fun ls hl => ?_)
            refine lv_iinc (v := x3 + 1) (lv' := [(3, .int (x3 + 1)), (2, .int (x2 + 1)), (0, .ref h0), (1, .int x1)]) hx hb d_T_placeOf_51 hl (k := 3) rfl rfl (by decide) rfl (fun ls hl => ?_)
            refine lv_goto (tgt := 10) hx hb d_T_placeOf_54 (by decide) ?_
            rw [l_T_placeOf_10, if_neg c_15, if_neg c_25, if_pos c_45] at hres
            exact ih (x2 + 1) (x3 + 1)  hres (by rw [ti_inc (x := x3) (by omega)]; omega) H locs ls hP hD hS (lv_sub hl [2, 3, 1, 0] rfl)
  have hS0 := hS
  refine lv_iload_n hx hb d_T_placeOf_0 rfl (lv_at hl 1 rfl) ?_
  refine lv_if_ne (tgt := 6) hx hb d_T_placeOf_1 (by decide) (fun c_1 => ?_) (fun c_1 => ?_)
  · have z_1 := mt Int32.toInt_inj.mp c_1
    refine lv_iconst (v := 0) hx hb d_T_placeOf_6 (by decide) ?_
    refine lv_istore_n (lv' := [(2, .int 0), (0, .ref h0), (1, .int x1)]) hx hb d_T_placeOf_7 rfl hl (by decide) rfl (fun ls hl => ?_)
    refine lv_iconst (v := 0) hx hb d_T_placeOf_8 (by decide) ?_
    refine lv_istore_n (lv' := [(3, .int 0), (2, .int 0), (0, .ref h0), (1, .int x1)]) hx hb d_T_placeOf_9 rfl hl (by decide) rfl (fun ls hl => ?_)
    rw [m_T_placeOf, if_neg c_1] at hres
    exact k_10 41 0 0  hres (by omega) _ _ ls hP hD hS (lv_sub hl [2, 3, 1, 0] rfl)
  · have z_1 := congrArg Int32.toInt c_1
    refine lv_iconst (v := 0) hx hb d_T_placeOf_4 (by decide) ?_
    rw [m_T_placeOf, if_pos c_1] at hres
    subst hres
    subst hQ
    exact vz_iret hx hb hr hlocks d_T_placeOf_5 hS rfl hP
end
section
/-! what the small methods of Tree leave as it is, and ranges -/
def okT (T : cT) : Prop := (∀ j, j < 40 → -1 ≤ (T.2.1 j).toInt ∧ (T.2.1 j).toInt < 40) ∧ (∀ j, j < 40 → 0 ≤ (T.2.2.2.1 j).toInt ∧ (T.2.2.2.1 j).toInt < 40) ∧ (0 ≤ T.2.2.2.2.toInt ∧ T.2.2.2.2.toInt ≤ 39) ∧ (∀ j, j < 40 → T.1 j = 0 ∨ T.1 j = 1) ∧ (∀ j, 1 ≤ j → j < 40 → 0 ≤ (T.2.2.1 j).toInt ∧ (T.2.2.1 j).toInt < 40)
theorem upd_rg {f : cA} {n k : Nat} {x : Int32} {lo hi : Int} (h : ∀ j, j < n → lo ≤ (f j).toInt ∧ (f j).toInt < hi) (hx : lo ≤ x.toInt ∧ x.toInt < hi) : ∀ j, j < n → lo ≤ (upd f k x j).toInt ∧ (upd f k x j).toInt < hi := by
  intro j hj
  by_cases hk : j = k
  · subst hk; rw [pk_us]; exact hx
  · rw [pk_un hk]; exact h j hj
theorem su_rg {T : cT} {x2 : Int32} : ∀ (n : Nat) (x3 x4 : Int32), 0 ≤ x4.toInt → x4.toInt ≤ 40 → -1 ≤ (l_T_stepsUp_5 T x2 n x3 x4).toInt ∧ (l_T_stepsUp_5 T x2 n x3 x4).toInt < 40 := by
  intro n
  induction n with
  | zero => intro x3 x4 h1 h2; rw [l_T_stepsUp_5, ti_0]; omega
  | succ n ih =>
    intro x3 x4 h1 h2
    rw [l_T_stepsUp_5]
    split
    · rw [ti_m1]; omega
    · rename_i hc
      have z := mt Int32.le_iff_toInt_le.mpr hc
      rw [ti_40] at z
      split
      · rw [ti_m1]; omega
      · split
        · omega
        · exact ih _ _ (by rw [ti_inc (by omega)]; omega) (by rw [ti_inc (by omega)]; omega)
theorem su_rg' {T : cT} {x1 x2 : Int32} : -1 ≤ (m_T_stepsUp T x1 x2).toInt ∧ (m_T_stepsUp T x1 x2).toInt < 40 := su_rg 41 x1 0 (by rw [ti_0]; omega) (by rw [ti_0]; omega)
theorem to_ok {T : cT} {x1 : Int32} (hsz : 0 ≤ T.2.2.2.2.toInt ∧ T.2.2.2.2.toInt ≤ 39) (hok : okT T) : ∀ (n : Nat) (x2 x3 : Int32) (f : cA), 0 ≤ x2.toInt → x2.toInt ≤ x3.toInt → x3.toInt ≤ T.2.2.2.2.toInt → (∀ j, j < 40 → 0 ≤ (f j).toInt ∧ (f j).toInt < 40) → okT (l_T_takeOut_4 T x1 n x2 x3 f) ∧ (l_T_takeOut_4 T x1 n x2 x3 f).1 = T.1 ∧ (l_T_takeOut_4 T x1 n x2 x3 f).2.1 = T.2.1 ∧ (l_T_takeOut_4 T x1 n x2 x3 f).2.2.1 = T.2.2.1 := by
  intro n
  induction n with
  | zero => intro x2 x3 f h1 h2 h3 hf; rw [l_T_takeOut_4]; exact ⟨hok, rfl, rfl, rfl⟩
  | succ n ih =>
    intro x2 x3 f h1 h2 h3 hf
    rw [l_T_takeOut_4]
    split
    · rename_i hc
      have z := Int32.le_iff_toInt_le.mp hc
      exact ⟨⟨hok.1, hf, by dsimp only; omega, hok.2.2.2.1, hok.2.2.2.2⟩, rfl, rfl, rfl⟩
    · rename_i hc
      have z := mt Int32.le_iff_toInt_le.mpr hc
      have e3 := ti_inc (x := x3) (by omega)
      have e2 := ti_inc (x := x2) (by omega)
      split
      · exact ih _ _ _ h1 (by omega) (by omega) hf
      · exact ih _ _ _ (by omega) (by omega) (by omega) (upd_rg hf (hf _ (ti_ix (by omega) (by omega))))
theorem to_ok' {T : cT} {x1 : Int32} (hok : okT T) : okT (m_T_takeOut T x1) := (to_ok hok.2.2.1 hok 41 0 0 _ (by rw [ti_0]; omega) (by omega) (by rw [ti_0]; exact hok.2.2.1.1) hok.2.1).1
theorem to_f {T : cT} {x1 : Int32} (hok : okT T) : (m_T_takeOut T x1).1 = T.1 ∧ (m_T_takeOut T x1).2.1 = T.2.1 ∧ (m_T_takeOut T x1).2.2.1 = T.2.2.1 := (to_ok hok.2.2.1 hok 41 0 0 _ (by rw [ti_0]; omega) (by omega) (by rw [ti_0]; exact hok.2.2.1.1) hok.2.1).2
theorem sb_rg {T : cT} {x1 x2 : Int32} (hsz : 0 ≤ T.2.2.2.2.toInt ∧ T.2.2.2.2.toInt ≤ 39) : ∀ (n : Nat) (x3 : Int32), 0 ≤ x3.toInt → x3.toInt ≤ T.2.2.2.2.toInt → 0 ≤ (l_T_spotBehind_2 T x1 x2 n x3).toInt ∧ (l_T_spotBehind_2 T x1 x2 n x3).toInt ≤ T.2.2.2.2.toInt := by
  intro n
  induction n with
  | zero => intro x3 h1 h2; rw [l_T_spotBehind_2, ti_0]; omega
  | succ n ih =>
    intro x3 h1 h2
    rw [l_T_spotBehind_2]
    split
    · rw [ti_0]; omega
    · rename_i hc
      have z := mt Int32.le_iff_toInt_le.mpr hc
      have e3 := ti_inc (x := x3) (by omega)
      split
      · split
        · omega
        · exact ih _ (by omega) (by omega)
      · exact ih _ (by omega) (by omega)
theorem sb_rg' {T : cT} {x1 x2 : Int32} (hok : okT T) : 0 ≤ (m_T_spotBehind T x1 x2).toInt ∧ (m_T_spotBehind T x1 x2).toInt ≤ T.2.2.2.2.toInt := sb_rg hok.2.2.1 41 0 (by rw [ti_0]; omega) (by rw [ti_0]; exact hok.2.2.1.1)
theorem ok_lt {T : cT} (hok : okT T) : 0 ≤ T.2.2.2.2.toInt ∧ T.2.2.2.2.toInt < 40 := by have := hok.2.2.1; omega
theorem ok_le {T : cT} (hok : okT T) : 0 ≤ T.2.2.2.2.toInt ∧ T.2.2.2.2.toInt ≤ 40 := by have := hok.2.2.1; omega
end
section
theorem d_A_fill_0 : decode b_A_fill 0 = .ok (.iconst 0, 1) := by decide +kernel
theorem d_A_fill_1 : decode b_A_fill 1 = .ok (.istore_n 2, 1) := by decide +kernel
theorem d_A_fill_2 : decode b_A_fill 2 = .ok (.aload_n 0, 1) := by decide +kernel
theorem d_A_fill_3 : decode b_A_fill 3 = .ok (.arraylength, 1) := by decide +kernel
theorem d_A_fill_4 : decode b_A_fill 4 = .ok (.istore_n 3, 1) := by decide +kernel
theorem d_A_fill_5 : decode b_A_fill 5 = .ok (.iload_n 2, 1) := by decide +kernel
theorem d_A_fill_6 : decode b_A_fill 6 = .ok (.iload_n 3, 1) := by decide +kernel
theorem d_A_fill_7 : decode b_A_fill 7 = .ok (.if_icmp .ge 13, 3) := by decide +kernel
theorem d_A_fill_10 : decode b_A_fill 10 = .ok (.aload_n 0, 1) := by decide +kernel
theorem d_A_fill_11 : decode b_A_fill 11 = .ok (.iload_n 2, 1) := by decide +kernel
theorem d_A_fill_12 : decode b_A_fill 12 = .ok (.iload_n 1, 1) := by decide +kernel
theorem d_A_fill_13 : decode b_A_fill 13 = .ok (.bastore, 1) := by decide +kernel
theorem d_A_fill_14 : decode b_A_fill 14 = .ok (.iinc 2 1, 3) := by decide +kernel
theorem d_A_fill_17 : decode b_A_fill 17 = .ok (.goto (-12), 3) := by decide +kernel
theorem d_A_fill_20 : decode b_A_fill 20 = .ok (.return_, 1) := by decide +kernel
theorem hW_A_fill_13 (cI cZ cQ : ClassId) (q0 : Nat) (S0 : cA) (v : cA) : (wZ cI cZ q0 S0 : va_W).set 0 (q0, .inl (cZ, 40, .inl v)) = wZ cI cZ q0 v := rfl
def l_A_fill_5 (x1 : Int32) : Nat → Int32 → cA → cA
  | 0, _, g => g
  | n + 1, x2, g => (if 40 ≤ x2 then g else (l_A_fill_5 x1 n (x2 + 1) (upd g x2.toNatClampNeg (vp_nar .boolean x1))))
def m_A_fill (f : cA) (x1 : Int32) : cA := (l_A_fill_5 x1 41 0 f)
set_option maxHeartbeats 1000000 in
set_option maxRecDepth 100000 in
theorem c_A_fill (l : Launch) (dC : Nat → ClassId) (dI : Nat → Nat → Nat) (cI cZ cQ : ClassId) (z0 : Nat) (f : cA) (x1 : Int32)  : vz_C l (dC, dI) classes [(cI, .int), (cZ, .boolean), (cQ, .object "BinTrees$Person")] y_A_fill (Cond.code y_A_fill b_A_fill 4 none :: vz_tbl) ({ frames := 0, cells := 0, slots := 0, locals := 0 }) [.ref z0, .int x1] (wZ cI cZ z0 f) (none) (wZ cI cZ z0 (m_A_fill f x1)) := by
  generalize hres : (m_A_fill f x1) = RES
  refine vz_C.of (by decide) (Nat.le_of_ble_eq_true rfl) ?_
  intro p e s m below meth c ls E hl hK hP hD hS
  obtain ⟨hx, hb, hr, hml, hown, hT, hlocks⟩ := E
  obtain ⟨Q, hQ⟩ : ∃ Q, Q = MQ below (vz_Q (dC, dI) classes (wZ cI cZ z0 f) (none) (wZ cI cZ z0 RES)) ([.ref z0, .int x1] : List Value).toArray s 0 0 (vz_A (wZ cI cZ z0 f)) := ⟨_, rfl⟩
  rw [← hQ]
  have hl : lv_has ls 4 [(0, .ref z0), (1, .int x1)] := hl
  have T0 := ti_0
  have T1 := ti_1
  have Tm := ti_m1
  have T8 := ti_8
  have T39 := ti_39
  have T40 := ti_40
  have T4 := ti_4
  have T300 := ti_300
  have k_5 : ∀ (n : Nat) (x2 : Int32) (g : cA), l_A_fill_5 x1 n x2 g = RES → (0 ≤ x2.toInt ∧ x2.toInt ≤ 40 ∧ 40 < n + x2.toInt) → ∀ (H : Heap) (locs : List Loc) (ls : Array Slot), va_P (dC, dI) classes (wZ cI cZ z0 g) H → va_D (vz_A (wZ cI cZ z0 f)) (wZ cI cZ z0 g) → va_S (vz_A (wZ cI cZ z0 f)) s.heap H locs → lv_has ls 4 [(0, .ref z0), (1, .int x1), (2, .int x2), (3, .int 40)] → W p l e ({ frames := 0, cells := 0, slots := 0, locals := 0 }) s m ([.ref z0, .int x1] : List Value).toArray below meth c H locs 0 0 Q (F0 m 5 ls []) := by
    intro n
    induction n with
    | zero =>
      intro x2 g hres i2 H locs ls hP hD hS hl
      exfalso
      omega
    | succ n ih =>
      intro x2 g hres i2 H locs ls hP hD hS hl
      refine lv_iload_n hx hb d_A_fill_5 rfl (lv_at hl 2 rfl) ?_
      refine lv_iload_n hx hb d_A_fill_6 rfl (lv_at hl 3 rfl) ?_
      refine lv_icmp_ge (tgt := 20) hx hb d_A_fill_7 (by decide) (fun c_7 => ?_) (fun c_7 => ?_)
      · have z_7 := Int32.le_iff_toInt_le.mp c_7
        rw [l_A_fill_5, if_pos c_7] at hres
        subst hres
        subst hQ
        exact vz_vret hx hb hr hlocks d_A_fill_20 hS rfl hP
      · have z_7 := mt Int32.le_iff_toInt_le.mpr c_7
        refine lv_aload_n hx hb d_A_fill_10 rfl (lv_at hl 0 rfl) ?_
        refine lv_iload_n hx hb d_A_fill_11 rfl (lv_at hl 2 rfl) ?_
        refine lv_iload_n hx hb d_A_fill_12 rfl (lv_at hl 1 rfl) ?_
        refine va_zast hx hb hK hP hD hS 0 1 rfl rfl (ti_vp (by omega) (by omega)) d_A_fill_13 (fun H locs hP hD hS => ?_)
        have hP : va_P (dC, dI) classes (wZ cI cZ z0 (upd g x2.toNatClampNeg (vp_nar .boolean x1))) H := vz_reP (hW_A_fill_13 cI cZ cQ z0 g (upd g x2.toNatClampNeg (vp_nar .boolean x1))) hP
        have hD : va_D (vz_A (wZ cI cZ z0 f)) (wZ cI cZ z0 (upd g x2.toNatClampNeg (vp_nar .boolean x1))) := vz_reD (hW_A_fill_13 cI cZ cQ z0 g (upd g x2.toNatClampNeg (vp_nar .boolean x1))) hD
        refine lv_iinc (v := x2 + 1) (lv' := [(2, .int (x2 + 1)), (0, .ref z0), (1, .int x1), (3, .int 40)]) hx hb d_A_fill_14 hl (k := 2) rfl rfl (by decide) rfl (fun ls hl => ?_)
        refine lv_goto (tgt := 5) hx hb d_A_fill_17 (by decide) ?_
        rw [l_A_fill_5, if_neg c_7] at hres
        exact ih (x2 + 1) (upd g x2.toNatClampNeg (vp_nar .boolean x1))  hres (by rw [ti_inc (x := x2) (by omega)]; omega) H locs ls hP hD hS (lv_sub hl [1, 2, 0, 3] rfl)
  have hS0 := hS
  refine lv_iconst (v := 0) hx hb d_A_fill_0 (by decide) ?_
  refine lv_istore_n (lv' := [(2, .int 0), (0, .ref z0), (1, .int x1)]) hx hb d_A_fill_1 rfl hl (by decide) rfl (fun ls hl => ?_)
  refine lv_aload_n hx hb d_A_fill_2 rfl (lv_at hl 1 rfl) ?_
  refine va_alen (v := 40) hx hb hK hP 0 1 rfl rfl rfl d_A_fill_3 ?_
  refine lv_istore_n (lv' := [(3, .int 40), (2, .int 0), (0, .ref z0), (1, .int x1)]) hx hb d_A_fill_4 rfl hl (by decide) rfl (fun ls hl => ?_)
  rw [m_A_fill] at hres
  exact k_5 41 0 f  hres (by omega) _ _ ls hP hD hS (lv_sub hl [2, 3, 1, 0] rfl)
end
section
theorem d_T_mayLie_0 : decode b_T_mayLie 0 = .ok (.aload_n 0, 1) := by decide +kernel
theorem d_T_mayLie_1 : decode b_T_mayLie 1 = .ok (.getfield 9, 3) := by decide +kernel
theorem d_T_mayLie_4 : decode b_T_mayLie 4 = .ok (.iload_n 1, 1) := by decide +kernel
theorem d_T_mayLie_5 : decode b_T_mayLie 5 = .ok (.baload, 1) := by decide +kernel
theorem d_T_mayLie_6 : decode b_T_mayLie 6 = .ok (.ifCond .eq 12, 3) := by decide +kernel
theorem d_T_mayLie_9 : decode b_T_mayLie 9 = .ok (.aload_n 0, 1) := by decide +kernel
theorem d_T_mayLie_10 : decode b_T_mayLie 10 = .ok (.getfield 9, 3) := by decide +kernel
theorem d_T_mayLie_13 : decode b_T_mayLie 13 = .ok (.iload_n 2, 1) := by decide +kernel
theorem d_T_mayLie_14 : decode b_T_mayLie 14 = .ok (.baload, 1) := by decide +kernel
theorem d_T_mayLie_15 : decode b_T_mayLie 15 = .ok (.ifCond .ne 5, 3) := by decide +kernel
theorem d_T_mayLie_18 : decode b_T_mayLie 18 = .ok (.iconst 0, 1) := by decide +kernel
theorem d_T_mayLie_19 : decode b_T_mayLie 19 = .ok (.ireturn, 1) := by decide +kernel
theorem d_T_mayLie_20 : decode b_T_mayLie 20 = .ok (.aload_n 0, 1) := by decide +kernel
theorem d_T_mayLie_21 : decode b_T_mayLie 21 = .ok (.iload_n 2, 1) := by decide +kernel
theorem d_T_mayLie_22 : decode b_T_mayLie 22 = .ok (.iconst 0, 1) := by decide +kernel
theorem d_T_mayLie_23 : decode b_T_mayLie 23 = .ok (.invokevirtual 54, 3) := by decide +kernel
theorem d_T_mayLie_26 : decode b_T_mayLie 26 = .ok (.istore_n 3, 1) := by decide +kernel
theorem d_T_mayLie_27 : decode b_T_mayLie 27 = .ok (.iload_n 3, 1) := by decide +kernel
theorem d_T_mayLie_28 : decode b_T_mayLie 28 = .ok (.iconst (-1), 1) := by decide +kernel
theorem d_T_mayLie_29 : decode b_T_mayLie 29 = .ok (.if_icmp .eq 13, 3) := by decide +kernel
theorem d_T_mayLie_32 : decode b_T_mayLie 32 = .ok (.aload_n 0, 1) := by decide +kernel
theorem d_T_mayLie_33 : decode b_T_mayLie 33 = .ok (.iload_n 2, 1) := by decide +kernel
theorem d_T_mayLie_34 : decode b_T_mayLie 34 = .ok (.iload_n 1, 1) := by decide +kernel
theorem d_T_mayLie_35 : decode b_T_mayLie 35 = .ok (.invokevirtual 54, 3) := by decide +kernel
theorem d_T_mayLie_38 : decode b_T_mayLie 38 = .ok (.iconst (-1), 1) := by decide +kernel
theorem d_T_mayLie_39 : decode b_T_mayLie 39 = .ok (.if_icmp .eq 5, 3) := by decide +kernel
theorem d_T_mayLie_42 : decode b_T_mayLie 42 = .ok (.iconst 0, 1) := by decide +kernel
theorem d_T_mayLie_43 : decode b_T_mayLie 43 = .ok (.ireturn, 1) := by decide +kernel
theorem d_T_mayLie_44 : decode b_T_mayLie 44 = .ok (.iconst 0, 1) := by decide +kernel
theorem d_T_mayLie_45 : decode b_T_mayLie 45 = .ok (.istore 4, 2) := by decide +kernel
theorem d_T_mayLie_47 : decode b_T_mayLie 47 = .ok (.iload 4, 2) := by decide +kernel
theorem d_T_mayLie_49 : decode b_T_mayLie 49 = .ok (.aload_n 0, 1) := by decide +kernel
theorem d_T_mayLie_50 : decode b_T_mayLie 50 = .ok (.getfield 34, 3) := by decide +kernel
theorem d_T_mayLie_53 : decode b_T_mayLie 53 = .ok (.if_icmp .ge 42, 3) := by decide +kernel
theorem d_T_mayLie_56 : decode b_T_mayLie 56 = .ok (.aload_n 0, 1) := by decide +kernel
theorem d_T_mayLie_57 : decode b_T_mayLie 57 = .ok (.aload_n 0, 1) := by decide +kernel
theorem d_T_mayLie_58 : decode b_T_mayLie 58 = .ok (.getfield 22, 3) := by decide +kernel
theorem d_T_mayLie_61 : decode b_T_mayLie 61 = .ok (.iload 4, 2) := by decide +kernel
theorem d_T_mayLie_63 : decode b_T_mayLie 63 = .ok (.iaload, 1) := by decide +kernel
theorem d_T_mayLie_64 : decode b_T_mayLie 64 = .ok (.iload_n 1, 1) := by decide +kernel
theorem d_T_mayLie_65 : decode b_T_mayLie 65 = .ok (.invokevirtual 54, 3) := by decide +kernel
theorem d_T_mayLie_68 : decode b_T_mayLie 68 = .ok (.istore 5, 2) := by decide +kernel
theorem d_T_mayLie_70 : decode b_T_mayLie 70 = .ok (.iload 5, 2) := by decide +kernel
theorem d_T_mayLie_72 : decode b_T_mayLie 72 = .ok (.iconst (-1), 1) := by decide +kernel
theorem d_T_mayLie_73 : decode b_T_mayLie 73 = .ok (.if_icmp .eq 16, 3) := by decide +kernel
theorem d_T_mayLie_76 : decode b_T_mayLie 76 = .ok (.iload_n 3, 1) := by decide +kernel
theorem d_T_mayLie_77 : decode b_T_mayLie 77 = .ok (.iconst 1, 1) := by decide +kernel
theorem d_T_mayLie_78 : decode b_T_mayLie 78 = .ok (.iadd, 1) := by decide +kernel
theorem d_T_mayLie_79 : decode b_T_mayLie 79 = .ok (.iload 5, 2) := by decide +kernel
theorem d_T_mayLie_81 : decode b_T_mayLie 81 = .ok (.iadd, 1) := by decide +kernel
theorem d_T_mayLie_82 : decode b_T_mayLie 82 = .ok (.bipush 8, 2) := by decide +kernel
theorem d_T_mayLie_84 : decode b_T_mayLie 84 = .ok (.if_icmp .le 5, 3) := by decide +kernel
theorem d_T_mayLie_87 : decode b_T_mayLie 87 = .ok (.iconst 0, 1) := by decide +kernel
theorem d_T_mayLie_88 : decode b_T_mayLie 88 = .ok (.ireturn, 1) := by decide +kernel
theorem d_T_mayLie_89 : decode b_T_mayLie 89 = .ok (.iinc 4 1, 3) := by decide +kernel
theorem d_T_mayLie_92 : decode b_T_mayLie 92 = .ok (.goto (-45), 3) := by decide +kernel
theorem d_T_mayLie_95 : decode b_T_mayLie 95 = .ok (.iconst 1, 1) := by decide +kernel
theorem d_T_mayLie_96 : decode b_T_mayLie 96 = .ok (.ireturn, 1) := by decide +kernel
theorem hC_T_mayLie_65 (cI cZ cQ : ClassId) (q0 q1 q2 q3 q4 : Nat) (S0 : cT) : ([0, 1, 2, 3, 4] : List Nat).map (fun i => (wT cI cZ q0 q1 q2 q3 q4 S0 : va_W)[i]?) = (wT cI cZ q0 q1 q2 q3 q4 S0 : va_W).map some := rfl
theorem hF_T_stepsUp (cI cZ cQ : ClassId) {h0 a1 a2 a3 a4 : Nat} (S0 R0 : cT) : (wT cI cZ h0 a1 a2 a3 a4 R0 : va_W).map Prod.fst = (wT cI cZ h0 a1 a2 a3 a4 S0 : va_W).map Prod.fst := rfl
theorem hU_T_mayLie_65 (cI cZ cQ : ClassId) (q0 q1 q2 q3 q4 : Nat) (S0 : cT)  : vz_put (wT cI cZ q0 q1 q2 q3 q4 S0 : va_W) [0, 1, 2, 3, 4] (wT cI cZ q0 q1 q2 q3 q4 S0 : va_W) = wT cI cZ q0 q1 q2 q3 q4 S0 := (show vz_put ([(q0, .inr (0, [.ref q1, .ref q2, .ref q3, .ref q4, .int S0.2.2.2.2])), (q1, .inl (cZ, 40, .inl S0.1)), (q2, .inl (cI, 40, .inl S0.2.1)), (q3, .inl (cI, 40, .inl S0.2.2.1)), (q4, .inl (cI, 40, .inl S0.2.2.2.1))] : va_W) [0, 1, 2, 3, 4] ([(q0, .inr (0, [.ref q1, .ref q2, .ref q3, .ref q4, .int S0.2.2.2.2])), (q1, .inl (cZ, 40, .inl S0.1)), (q2, .inl (cI, 40, .inl S0.2.1)), (q3, .inl (cI, 40, .inl S0.2.2.1)), (q4, .inl (cI, 40, .inl S0.2.2.2.1))] : va_W) = [(q0, .inr (0, [.ref q1, .ref q2, .ref q3, .ref q4, .int S0.2.2.2.2])), (q1, .inl (cZ, 40, .inl S0.1)), (q2, .inl (cI, 40, .inl S0.2.1)), (q3, .inl (cI, 40, .inl S0.2.2.1)), (q4, .inl (cI, 40, .inl S0.2.2.2.1))] from rfl).trans rfl
theorem hC_T_mayLie_23 (cI cZ cQ : ClassId) (q0 q1 q2 q3 q4 : Nat) (S0 : cT) : ([0, 1, 2, 3, 4] : List Nat).map (fun i => (wT cI cZ q0 q1 q2 q3 q4 S0 : va_W)[i]?) = (wT cI cZ q0 q1 q2 q3 q4 S0 : va_W).map some := rfl
theorem hU_T_mayLie_23 (cI cZ cQ : ClassId) (q0 q1 q2 q3 q4 : Nat) (S0 : cT)  : vz_put (wT cI cZ q0 q1 q2 q3 q4 S0 : va_W) [0, 1, 2, 3, 4] (wT cI cZ q0 q1 q2 q3 q4 S0 : va_W) = wT cI cZ q0 q1 q2 q3 q4 S0 := (show vz_put ([(q0, .inr (0, [.ref q1, .ref q2, .ref q3, .ref q4, .int S0.2.2.2.2])), (q1, .inl (cZ, 40, .inl S0.1)), (q2, .inl (cI, 40, .inl S0.2.1)), (q3, .inl (cI, 40, .inl S0.2.2.1)), (q4, .inl (cI, 40, .inl S0.2.2.2.1))] : va_W) [0, 1, 2, 3, 4] ([(q0, .inr (0, [.ref q1, .ref q2, .ref q3, .ref q4, .int S0.2.2.2.2])), (q1, .inl (cZ, 40, .inl S0.1)), (q2, .inl (cI, 40, .inl S0.2.1)), (q3, .inl (cI, 40, .inl S0.2.2.1)), (q4, .inl (cI, 40, .inl S0.2.2.2.1))] : va_W) = [(q0, .inr (0, [.ref q1, .ref q2, .ref q3, .ref q4, .int S0.2.2.2.2])), (q1, .inl (cZ, 40, .inl S0.1)), (q2, .inl (cI, 40, .inl S0.2.1)), (q3, .inl (cI, 40, .inl S0.2.2.1)), (q4, .inl (cI, 40, .inl S0.2.2.2.1))] from rfl).trans rfl
theorem hC_T_mayLie_35 (cI cZ cQ : ClassId) (q0 q1 q2 q3 q4 : Nat) (S0 : cT) : ([0, 1, 2, 3, 4] : List Nat).map (fun i => (wT cI cZ q0 q1 q2 q3 q4 S0 : va_W)[i]?) = (wT cI cZ q0 q1 q2 q3 q4 S0 : va_W).map some := rfl
theorem hU_T_mayLie_35 (cI cZ cQ : ClassId) (q0 q1 q2 q3 q4 : Nat) (S0 : cT)  : vz_put (wT cI cZ q0 q1 q2 q3 q4 S0 : va_W) [0, 1, 2, 3, 4] (wT cI cZ q0 q1 q2 q3 q4 S0 : va_W) = wT cI cZ q0 q1 q2 q3 q4 S0 := (show vz_put ([(q0, .inr (0, [.ref q1, .ref q2, .ref q3, .ref q4, .int S0.2.2.2.2])), (q1, .inl (cZ, 40, .inl S0.1)), (q2, .inl (cI, 40, .inl S0.2.1)), (q3, .inl (cI, 40, .inl S0.2.2.1)), (q4, .inl (cI, 40, .inl S0.2.2.2.1))] : va_W) [0, 1, 2, 3, 4] ([(q0, .inr (0, [.ref q1, .ref q2, .ref q3, .ref q4, .int S0.2.2.2.2])), (q1, .inl (cZ, 40, .inl S0.1)), (q2, .inl (cI, 40, .inl S0.2.1)), (q3, .inl (cI, 40, .inl S0.2.2.1)), (q4, .inl (cI, 40, .inl S0.2.2.2.1))] : va_W) = [(q0, .inr (0, [.ref q1, .ref q2, .ref q3, .ref q4, .int S0.2.2.2.2])), (q1, .inl (cZ, 40, .inl S0.1)), (q2, .inl (cI, 40, .inl S0.2.1)), (q3, .inl (cI, 40, .inl S0.2.2.1)), (q4, .inl (cI, 40, .inl S0.2.2.2.1))] from rfl).trans rfl
def l_T_mayLie_47 (T : cT) (x1 : Int32) : Nat → Int32 → Int32 → Int32
  | 0, _, _ => 0
  | n + 1, x3, x4 => (if T.2.2.2.2 ≤ x4 then 1 else (if (m_T_stepsUp T (T.2.2.2.1 x4.toNatClampNeg) x1) = (-1) then (l_T_mayLie_47 T x1 n x3 (x4 + 1)) else (if ((x3 + 1) + (m_T_stepsUp T (T.2.2.2.1 x4.toNatClampNeg) x1)) ≤ 8 then (l_T_mayLie_47 T x1 n x3 (x4 + 1)) else 0)))
def m_T_mayLie (T : cT) (x1 : Int32) (x2 : Int32) : Int32 := (if (T.1 x1.toNatClampNeg) = 0 then 0 else (if (T.1 x2.toNatClampNeg) = 0 then 0 else (if (m_T_stepsUp T x2 0) = (-1) then 0 else (if (m_T_stepsUp T x2 x1) = (-1) then (l_T_mayLie_47 T x1 41 (m_T_stepsUp T x2 0) 0) else 0))))
set_option maxHeartbeats 1000000 in
set_option maxRecDepth 100000 in
theorem c_T_mayLie (l : Launch) (dC : Nat → ClassId) (dI : Nat → Nat → Nat) (cI cZ cQ : ClassId) (h0 : Nat) (a1 : Nat) (a2 : Nat) (a3 : Nat) (a4 : Nat) (T : cT) (x1 : Int32) (x2 : Int32) (hok : okT T) (h1 : 0 ≤ x1.toInt ∧ x1.toInt < 40) (h2 : 0 ≤ x2.toInt ∧ x2.toInt < 40) : vz_C l (dC, dI) classes [(cI, .int), (cZ, .boolean), (cQ, .object "BinTrees$Person")] y_T_mayLie (Cond.code y_T_mayLie b_T_mayLie 6 (some .boolean) :: vz_tbl) ({ frames := 1, cells := 0, slots := 0, locals := 24 }) [.ref h0, .int x1, .int x2] (wT cI cZ h0 a1 a2 a3 a4 T) (some (.int (m_T_mayLie T x1 x2))) (wT cI cZ h0 a1 a2 a3 a4 T) := by
  generalize hres : (m_T_mayLie T x1 x2) = RES
  refine vz_C.of (by decide) (Nat.le_of_ble_eq_true rfl) ?_
  intro p e s m below meth c ls E hl hK hP hD hS
  obtain ⟨hx, hb, hr, hml, hown, hT, hlocks⟩ := E
  obtain ⟨Q, hQ⟩ : ∃ Q, Q = MQ below (vz_Q (dC, dI) classes (wT cI cZ h0 a1 a2 a3 a4 T) (some (.int RES)) (wT cI cZ h0 a1 a2 a3 a4 T)) ([.ref h0, .int x1, .int x2] : List Value).toArray s 0 0 (vz_A (wT cI cZ h0 a1 a2 a3 a4 T)) := ⟨_, rfl⟩
  rw [← hQ]
  have hl : lv_has ls 6 [(0, .ref h0), (1, .int x1), (2, .int x2)] := hl
  have T0 := ti_0
  have T1 := ti_1
  have Tm := ti_m1
  have T8 := ti_8
  have T39 := ti_39
  have T40 := ti_40
  have T4 := ti_4
  have T300 := ti_300
  have hsz := hok.2.2.1
  have k_47 : ∀ (n : Nat) (x3 : Int32) (x4 : Int32), l_T_mayLie_47 T x1 n x3 x4 = RES → (0 ≤ x4.toInt ∧ x4.toInt ≤ T.2.2.2.2.toInt ∧ T.2.2.2.2.toInt < n + x4.toInt) → ∀ (H : Heap) (locs : List Loc) (ls : Array Slot), va_P (dC, dI) classes (wT cI cZ h0 a1 a2 a3 a4 T) H → va_D (vz_A (wT cI cZ h0 a1 a2 a3 a4 T)) (wT cI cZ h0 a1 a2 a3 a4 T) → va_S (vz_A (wT cI cZ h0 a1 a2 a3 a4 T)) s.heap H locs → lv_has ls 6 [(0, .ref h0), (1, .int x1), (3, .int x3), (4, .int x4)] → W p l e ({ frames := 1, cells := 0, slots := 0, locals := 24 }) s m ([.ref h0, .int x1, .int x2] : List Value).toArray below meth c H locs 0 0 Q (F0 m 47 ls []) := by
    intro n
    induction n with
    | zero =>
      intro x3 x4 hres i3 H locs ls hP hD hS hl
      exfalso
      omega
    | succ n ih =>
      intro x3 x4 hres i3 H locs ls hP hD hS hl
      refine lv_iload hx hb d_T_mayLie_47 (lv_at hl 3 rfl) ?_
      refine lv_aload_n hx hb d_T_mayLie_49 rfl (lv_at hl 0 rfl) ?_
      refine va_get (D := (dC, dI)) (ci := 0) (v := .int T.2.2.2.2) (C := R_T) (T := F_T) (N := 5) hx hb hT i_T hown hK hP 0 rfl rfl 4 (by decide) (hT _ kw_97) (fun _ h9 => h9) rfl d_T_mayLie_50 ?_
      refine lv_icmp_ge (tgt := 95) hx hb d_T_mayLie_53 (by decide) (fun c_53 => ?_) (fun c_53 => ?_)
      · have z_53 := Int32.le_iff_toInt_le.mp c_53
        refine lv_iconst (v := 1) hx hb d_T_mayLie_95 (by decide) ?_
        rw [l_T_mayLie_47, if_pos c_53] at hres
        subst hres
        subst hQ
        exact vz_zret hx hb hr (by decide) hlocks d_T_mayLie_96 hS rfl hP
      · have z_53 := mt Int32.le_iff_toInt_le.mpr c_53
        refine lv_aload_n hx hb d_T_mayLie_56 rfl (lv_at hl 0 rfl) ?_
        refine lv_aload_n hx hb d_T_mayLie_57 rfl (lv_at hl 0 rfl) ?_
        refine va_get (D := (dC, dI)) (ci := 0) (v := .ref a4) (C := R_T) (T := F_T) (N := 5) hx hb hT i_T hown hK hP 0 rfl rfl 3 (by decide) (hT _ kw_96) (fun _ h9 => h9) rfl d_T_mayLie_58 ?_
        refine lv_iload hx hb d_T_mayLie_61 (lv_at hl 3 rfl) ?_
        refine va_iald hx hb hK hP 4 0 rfl rfl (ti_vp (by omega) (by omega)) d_T_mayLie_63 ?_
        refine lv_iload_n hx hb d_T_mayLie_64 rfl (lv_at hl 1 rfl) ?_
        have hc := c_T_stepsUp l dC dI cI cZ cQ h0 a1 a2 a3 a4 T (T.2.2.2.1 x4.toNatClampNeg) x1 (hok.1) (by have hz := hok.2.1 _ (ti_ix (x := x4) (n := 40) (by omega) (by omega)); omega)
        generalize hg_65 : (m_T_stepsUp T (T.2.2.2.1 x4.toNatClampNeg) x1) = g_65 at hc
        refine vz_callV (As := [.int (T.2.2.2.1 x4.toNatClampNeg), .int x1]) (rest := []) ⟨hx, hb, hml, hown, hT⟩ hc (vz_goodV kw_201 kw_202 kw_203 kw_4 kw_204) ⟨rfl, hd_T_stepsUp⟩ ⟨⟨rfl, rfl⟩, Nat.le_of_ble_eq_true rfl, Nat.le_of_ble_eq_true rfl⟩ hK hP hD hS [0, 1, 2, 3, 4] rfl (hC_T_mayLie_65 cI cZ cQ h0 a1 a2 a3 a4 T) (hF_T_stepsUp cI cZ cQ _ _) 0 0 rfl rfl rfl rfl hl.1 rfl (Nat.le_of_ble_eq_true rfl) ⟨Nat.zero_le _, Nat.zero_le _⟩ d_T_mayLie_65 (fun H locs hP hD hS => ?_)
        have hP : va_P (dC, dI) classes (wT cI cZ h0 a1 a2 a3 a4 T) H := vz_reP (hU_T_mayLie_65 cI cZ cQ h0 a1 a2 a3 a4 T ) hP
        have hD : va_D (vz_A (wT cI cZ h0 a1 a2 a3 a4 T)) (wT cI cZ h0 a1 a2 a3 a4 T) := vz_reD (hU_T_mayLie_65 cI cZ cQ h0 a1 a2 a3 a4 T ) hD
        refine W.eq (g2 := F0 m 68 ls [.int g_65]) rfl ?_
        refine lv_istore (lv' := [(5, .int g_65), (0, .ref h0), (1, .int x1), (3, .int x3), (4, .int x4)]) hx hb d_T_mayLie_68 hl (by decide) rfl (fun ls hl => ?_)
        refine lv_iload hx hb d_T_mayLie_70 (lv_at hl 0 rfl) ?_
        refine lv_iconst (v := -1) hx hb d_T_mayLie_72 (by decide) ?_
        refine lv_icmp_eq (tgt := 89) hx hb d_T_mayLie_73 (by decide) (fun c_73 => ?_) (fun c_73 => ?_)
        · have z_73 := congrArg Int32.toInt c_73
          refine lv_iinc (v := x4 + 1) (lv' := [(4, .int (x4 + 1)), (5, .int g_65), (0, .ref h0), (1, .int x1), (3, .int x3)]) hx hb d_T_mayLie_89 hl (k := 4) rfl rfl (by decide) rfl (fun ls hl => ?_)
          refine lv_goto (tgt := 47) hx hb d_T_mayLie_92 (by decide) ?_
          rw [l_T_mayLie_47, if_neg c_53] at hres
          try rw [hg_65] at hres
          rw [if_pos c_73] at hres
          exact ih x3 (x4 + 1)  hres (by rw [ti_inc (x := x4) (by omega)]; omega) H locs ls hP hD hS (lv_sub hl [2, 3, 4, 0] rfl)
        · have z_73 := mt Int32.toInt_inj.mp c_73
          refine lv_iload_n hx hb d_T_mayLie_76 rfl (lv_at hl 3 rfl) ?_
          refine lv_iconst (v := 1) hx hb d_T_mayLie_77 (by decide) ?_
          refine lv_iadd hx hb d_T_mayLie_78 ?_
          refine lv_iload hx hb d_T_mayLie_79 (lv_at hl 0 rfl) ?_
          refine lv_iadd hx hb d_T_mayLie_81 ?_
          refine lv_bipush (v := 8) hx hb d_T_mayLie_82 (by decide) ?_
          refine lv_icmp_le (tgt := 89) hx hb d_T_mayLie_84 (by decide) (fun c_84 => ?_) (fun c_84 => ?_)
          · have z_84 := Int32.le_iff_toInt_le.mp c_84
            refine lv_iinc (v := x4 + 1) (lv' := [(4, .int (x4 + 1)), (5, .int g_65), (0, .ref h0), (1, .int x1), (3, .int x3)]) hx hb d_T_mayLie_89 hl (k := 4) rfl rfl (by decide) rfl (fun ls hl => ?_)
            refine lv_goto (tgt := 47) hx hb d_T_mayLie_92 (by decide) ?_
            rw [l_T_mayLie_47, if_neg c_53] at hres
            try rw [hg_65] at hres
            rw [if_neg c_73, if_pos c_84] at hres
            exact ih x3 (x4 + 1)  hres (by rw [ti_inc (x := x4) (by omega)]; omega) H locs ls hP hD hS (lv_sub hl [2, 3, 4, 0] rfl)
          · have z_84 := mt Int32.le_iff_toInt_le.mpr c_84
            refine lv_iconst (v := 0) hx hb d_T_mayLie_87 (by decide) ?_
            rw [l_T_mayLie_47, if_neg c_53] at hres
            try rw [hg_65] at hres
            rw [if_neg c_73, if_neg c_84] at hres
            subst hres
            subst hQ
            exact vz_zret hx hb hr (by decide) hlocks d_T_mayLie_88 hS rfl hP
  have hS0 := hS
  refine lv_aload_n hx hb d_T_mayLie_0 rfl (lv_at hl 0 rfl) ?_
  refine va_get (D := (dC, dI)) (ci := 0) (v := .ref a1) (C := R_T) (T := F_T) (N := 5) hx hb hT i_T hown hK hP 0 rfl rfl 0 (by decide) (hT _ kw_90) (fun _ h9 => h9) rfl d_T_mayLie_1 ?_
  refine lv_iload_n hx hb d_T_mayLie_4 rfl (lv_at hl 1 rfl) ?_
  refine va_zald hx hb hK hP 1 1 rfl rfl (ti_vp (by omega) (by omega)) d_T_mayLie_5 ?_
  refine lv_if_eq (tgt := 18) hx hb d_T_mayLie_6 (by decide) (fun c_6 => ?_) (fun c_6 => ?_)
  · have z_6 := congrArg Int32.toInt c_6
    refine lv_iconst (v := 0) hx hb d_T_mayLie_18 (by decide) ?_
    rw [m_T_mayLie, if_pos c_6] at hres
    subst hres
    subst hQ
    exact vz_zret hx hb hr (by decide) hlocks d_T_mayLie_19 hS rfl hP
  · have z_6 := mt Int32.toInt_inj.mp c_6
    refine lv_aload_n hx hb d_T_mayLie_9 rfl (lv_at hl 0 rfl) ?_
    refine va_get (D := (dC, dI)) (ci := 0) (v := .ref a1) (C := R_T) (T := F_T) (N := 5) hx hb hT i_T hown hK hP 0 rfl rfl 0 (by decide) (hT _ kw_90) (fun _ h9 => h9) rfl d_T_mayLie_10 ?_
    refine lv_iload_n hx hb d_T_mayLie_13 rfl (lv_at hl 2 rfl) ?_
    refine va_zald hx hb hK hP 1 1 rfl rfl (ti_vp (by omega) (by omega)) d_T_mayLie_14 ?_
    refine lv_if_ne (tgt := 20) hx hb d_T_mayLie_15 (by decide) (fun c_15 => ?_) (fun c_15 => ?_)
    · have z_15 := mt Int32.toInt_inj.mp c_15
      refine lv_aload_n hx hb d_T_mayLie_20 rfl (lv_at hl 0 rfl) ?_
      refine lv_iload_n hx hb d_T_mayLie_21 rfl (lv_at hl 2 rfl) ?_
      refine lv_iconst (v := 0) hx hb d_T_mayLie_22 (by decide) ?_
      have hc := c_T_stepsUp l dC dI cI cZ cQ h0 a1 a2 a3 a4 T x2 0 (hok.1) (by omega)
      generalize hg_23 : (m_T_stepsUp T x2 0) = g_23 at hc
      refine vz_callV (As := [.int x2, .int 0]) (rest := []) ⟨hx, hb, hml, hown, hT⟩ hc (vz_goodV kw_201 kw_202 kw_203 kw_4 kw_204) ⟨rfl, hd_T_stepsUp⟩ ⟨⟨rfl, rfl⟩, Nat.le_of_ble_eq_true rfl, Nat.le_of_ble_eq_true rfl⟩ hK hP hD hS [0, 1, 2, 3, 4] rfl (hC_T_mayLie_23 cI cZ cQ h0 a1 a2 a3 a4 T) (hF_T_stepsUp cI cZ cQ _ _) 0 0 rfl rfl rfl rfl hl.1 rfl (Nat.le_of_ble_eq_true rfl) ⟨Nat.zero_le _, Nat.zero_le _⟩ d_T_mayLie_23 (fun H locs hP hD hS => ?_)
      have hP : va_P (dC, dI) classes (wT cI cZ h0 a1 a2 a3 a4 T) H := vz_reP (hU_T_mayLie_23 cI cZ cQ h0 a1 a2 a3 a4 T ) hP
      have hD : va_D (vz_A (wT cI cZ h0 a1 a2 a3 a4 T)) (wT cI cZ h0 a1 a2 a3 a4 T) := vz_reD (hU_T_mayLie_23 cI cZ cQ h0 a1 a2 a3 a4 T ) hD
      refine W.eq (g2 := F0 m 26 ls [.int g_23]) rfl ?_
      refine lv_istore_n (lv' := [(3, .int g_23), (0, .ref h0), (1, .int x1), (2, .int x2)]) hx hb d_T_mayLie_26 rfl hl (by decide) rfl (fun ls hl => ?_)
      refine lv_iload_n hx hb d_T_mayLie_27 rfl (lv_at hl 0 rfl) ?_
      refine lv_iconst (v := -1) hx hb d_T_mayLie_28 (by decide) ?_
      refine lv_icmp_eq (tgt := 42) hx hb d_T_mayLie_29 (by decide) (fun c_29 => ?_) (fun c_29 => ?_)
      · have z_29 := congrArg Int32.toInt c_29
        refine lv_iconst (v := 0) hx hb d_T_mayLie_42 (by decide) ?_
        rw [m_T_mayLie, if_neg c_6, if_neg c_15] at hres
        try rw [hg_23] at hres
        rw [if_pos c_29] at hres
        subst hres
        subst hQ
        exact vz_zret hx hb hr (by decide) hlocks d_T_mayLie_43 hS rfl hP
      · have z_29 := mt Int32.toInt_inj.mp c_29
        refine lv_aload_n hx hb d_T_mayLie_32 rfl (lv_at hl 1 rfl) ?_
        refine lv_iload_n hx hb d_T_mayLie_33 rfl (lv_at hl 3 rfl) ?_
        refine lv_iload_n hx hb d_T_mayLie_34 rfl (lv_at hl 2 rfl) ?_
        have hc := c_T_stepsUp l dC dI cI cZ cQ h0 a1 a2 a3 a4 T x2 x1 (hok.1) (by omega)
        generalize hg_35 : (m_T_stepsUp T x2 x1) = g_35 at hc
        refine vz_callV (As := [.int x2, .int x1]) (rest := []) ⟨hx, hb, hml, hown, hT⟩ hc (vz_goodV kw_201 kw_202 kw_203 kw_4 kw_204) ⟨rfl, hd_T_stepsUp⟩ ⟨⟨rfl, rfl⟩, Nat.le_of_ble_eq_true rfl, Nat.le_of_ble_eq_true rfl⟩ hK hP hD hS [0, 1, 2, 3, 4] rfl (hC_T_mayLie_35 cI cZ cQ h0 a1 a2 a3 a4 T) (hF_T_stepsUp cI cZ cQ _ _) 0 0 rfl rfl rfl rfl hl.1 rfl (Nat.le_of_ble_eq_true rfl) ⟨Nat.zero_le _, Nat.zero_le _⟩ d_T_mayLie_35 (fun H locs hP hD hS => ?_)
        have hP : va_P (dC, dI) classes (wT cI cZ h0 a1 a2 a3 a4 T) H := vz_reP (hU_T_mayLie_35 cI cZ cQ h0 a1 a2 a3 a4 T ) hP
        have hD : va_D (vz_A (wT cI cZ h0 a1 a2 a3 a4 T)) (wT cI cZ h0 a1 a2 a3 a4 T) := vz_reD (hU_T_mayLie_35 cI cZ cQ h0 a1 a2 a3 a4 T ) hD
        refine W.eq (g2 := F0 m 38 ls [.int g_35]) rfl ?_
        refine lv_iconst (v := -1) hx hb d_T_mayLie_38 (by decide) ?_
        refine lv_icmp_eq (tgt := 44) hx hb d_T_mayLie_39 (by decide) (fun c_39 => ?_) (fun c_39 => ?_)
        · have z_39 := congrArg Int32.toInt c_39
          refine lv_iconst (v := 0) hx hb d_T_mayLie_44 (by decide) ?_
          refine lv_istore (lv' := [(4, .int 0), (3, .int g_23), (0, .ref h0), (1, .int x1), (2, .int x2)]) hx hb d_T_mayLie_45 hl (by decide) rfl (fun ls hl => ?_)
          rw [m_T_mayLie, if_neg c_6, if_neg c_15] at hres
          try rw [hg_23] at hres
          rw [if_neg c_29] at hres
          try rw [hg_35] at hres
          rw [if_pos c_39] at hres
          exact k_47 41 g_23 0  hres (by omega) _ _ ls hP hD hS (lv_sub hl [2, 3, 1, 0] rfl)
        · have z_39 := mt Int32.toInt_inj.mp c_39
          refine lv_iconst (v := 0) hx hb d_T_mayLie_42 (by decide) ?_
          rw [m_T_mayLie, if_neg c_6, if_neg c_15] at hres
          try rw [hg_23] at hres
          rw [if_neg c_29] at hres
          try rw [hg_35] at hres
          rw [if_neg c_39] at hres
          subst hres
          subst hQ
          exact vz_zret hx hb hr (by decide) hlocks d_T_mayLie_43 hS rfl hP
    · have z_15 := congrArg Int32.toInt c_15
      refine lv_iconst (v := 0) hx hb d_T_mayLie_18 (by decide) ?_
      rw [m_T_mayLie, if_neg c_6, if_pos c_15] at hres
      subst hres
      subst hQ
      exact vz_zret hx hb hr (by decide) hlocks d_T_mayLie_19 hS rfl hP
end
section
theorem d_T_startAnew_0 : decode b_T_startAnew 0 = .ok (.aload_n 0, 1) := by decide +kernel
theorem d_T_startAnew_1 : decode b_T_startAnew 1 = .ok (.getfield 9, 3) := by decide +kernel
theorem d_T_startAnew_4 : decode b_T_startAnew 4 = .ok (.iconst 0, 1) := by decide +kernel
theorem d_T_startAnew_5 : decode b_T_startAnew 5 = .ok (.invokestatic 28, 3) := by decide +kernel
theorem d_T_startAnew_8 : decode b_T_startAnew 8 = .ok (.aload_n 0, 1) := by decide +kernel
theorem d_T_startAnew_9 : decode b_T_startAnew 9 = .ok (.getfield 9, 3) := by decide +kernel
theorem d_T_startAnew_12 : decode b_T_startAnew 12 = .ok (.iconst 0, 1) := by decide +kernel
theorem d_T_startAnew_13 : decode b_T_startAnew 13 = .ok (.iconst 1, 1) := by decide +kernel
theorem d_T_startAnew_14 : decode b_T_startAnew 14 = .ok (.bastore, 1) := by decide +kernel
theorem d_T_startAnew_15 : decode b_T_startAnew 15 = .ok (.aload_n 0, 1) := by decide +kernel
theorem d_T_startAnew_16 : decode b_T_startAnew 16 = .ok (.getfield 15, 3) := by decide +kernel
theorem d_T_startAnew_19 : decode b_T_startAnew 19 = .ok (.iconst 0, 1) := by decide +kernel
theorem d_T_startAnew_20 : decode b_T_startAnew 20 = .ok (.iconst (-1), 1) := by decide +kernel
theorem d_T_startAnew_21 : decode b_T_startAnew 21 = .ok (.iastore, 1) := by decide +kernel
theorem d_T_startAnew_22 : decode b_T_startAnew 22 = .ok (.aload_n 0, 1) := by decide +kernel
theorem d_T_startAnew_23 : decode b_T_startAnew 23 = .ok (.getfield 19, 3) := by decide +kernel
theorem d_T_startAnew_26 : decode b_T_startAnew 26 = .ok (.iconst 0, 1) := by decide +kernel
theorem d_T_startAnew_27 : decode b_T_startAnew 27 = .ok (.iconst (-1), 1) := by decide +kernel
theorem d_T_startAnew_28 : decode b_T_startAnew 28 = .ok (.iastore, 1) := by decide +kernel
theorem d_T_startAnew_29 : decode b_T_startAnew 29 = .ok (.aload_n 0, 1) := by decide +kernel
theorem d_T_startAnew_30 : decode b_T_startAnew 30 = .ok (.iconst 0, 1) := by decide +kernel
theorem d_T_startAnew_31 : decode b_T_startAnew 31 = .ok (.putfield 34, 3) := by decide +kernel
theorem d_T_startAnew_34 : decode b_T_startAnew 34 = .ok (.return_, 1) := by decide +kernel
theorem hC_T_startAnew_5 (cI cZ cQ : ClassId) (q0 q1 q2 q3 q4 : Nat) (S0 : cT) : ([1] : List Nat).map (fun i => (wT cI cZ q0 q1 q2 q3 q4 S0 : va_W)[i]?) = (wZ cI cZ q1 S0.1 : va_W).map some := rfl
theorem hF_A_fill (cI cZ cQ : ClassId) {z0 : Nat} (S0 R0 : cA) : (wZ cI cZ z0 R0 : va_W).map Prod.fst = (wZ cI cZ z0 S0 : va_W).map Prod.fst := rfl
theorem hU_T_startAnew_5 (cI cZ cQ : ClassId) (q0 q1 q2 q3 q4 : Nat) (S0 : cT) (R0 : cA) : vz_put (wT cI cZ q0 q1 q2 q3 q4 S0 : va_W) [1] (wZ cI cZ q1 R0 : va_W) = wT cI cZ q0 q1 q2 q3 q4 (R0, S0.2.1, S0.2.2.1, S0.2.2.2.1, S0.2.2.2.2) := (show vz_put ([(q0, .inr (0, [.ref q1, .ref q2, .ref q3, .ref q4, .int S0.2.2.2.2])), (q1, .inl (cZ, 40, .inl S0.1)), (q2, .inl (cI, 40, .inl S0.2.1)), (q3, .inl (cI, 40, .inl S0.2.2.1)), (q4, .inl (cI, 40, .inl S0.2.2.2.1))] : va_W) [1] ([(q1, .inl (cZ, 40, .inl R0))] : va_W) = [(q0, .inr (0, [.ref q1, .ref q2, .ref q3, .ref q4, .int S0.2.2.2.2])), (q1, .inl (cZ, 40, .inl R0)), (q2, .inl (cI, 40, .inl S0.2.1)), (q3, .inl (cI, 40, .inl S0.2.2.1)), (q4, .inl (cI, 40, .inl S0.2.2.2.1))] from rfl).trans rfl
theorem hW_T_startAnew_14 (cI cZ cQ : ClassId) (q0 q1 q2 q3 q4 : Nat) (S0 : cT) (v : cA) : (wT cI cZ q0 q1 q2 q3 q4 S0 : va_W).set 1 (q1, .inl (cZ, 40, .inl v)) = wT cI cZ q0 q1 q2 q3 q4 (v, S0.2.1, S0.2.2.1, S0.2.2.2.1, S0.2.2.2.2) := rfl
theorem hW_T_startAnew_21 (cI cZ cQ : ClassId) (q0 q1 q2 q3 q4 : Nat) (S0 : cT) (v : cA) : (wT cI cZ q0 q1 q2 q3 q4 S0 : va_W).set 2 (q2, .inl (cI, 40, .inl v)) = wT cI cZ q0 q1 q2 q3 q4 (S0.1, v, S0.2.2.1, S0.2.2.2.1, S0.2.2.2.2) := rfl
theorem hW_T_startAnew_28 (cI cZ cQ : ClassId) (q0 q1 q2 q3 q4 : Nat) (S0 : cT) (v : cA) : (wT cI cZ q0 q1 q2 q3 q4 S0 : va_W).set 3 (q3, .inl (cI, 40, .inl v)) = wT cI cZ q0 q1 q2 q3 q4 (S0.1, S0.2.1, v, S0.2.2.2.1, S0.2.2.2.2) := rfl
theorem hW_T_startAnew_31 (cI cZ cQ : ClassId) (q0 q1 q2 q3 q4 : Nat) (S0 : cT) (v : Int32) : (wT cI cZ q0 q1 q2 q3 q4 S0 : va_W).set 0 (q0, .inr (0, [.ref q1, .ref q2, .ref q3, .ref q4, .int S0.2.2.2.2].set 4 (.int v))) = wT cI cZ q0 q1 q2 q3 q4 (S0.1, S0.2.1, S0.2.2.1, S0.2.2.2.1, v) := rfl
def m_T_startAnew (T : cT) : cT := (upd (m_A_fill T.1 0) (0 : Int32).toNatClampNeg 1, upd T.2.1 (0 : Int32).toNatClampNeg (-1), upd T.2.2.1 (0 : Int32).toNatClampNeg (-1), T.2.2.2.1, 0)
set_option maxHeartbeats 1000000 in
set_option maxRecDepth 100000 in
theorem c_T_startAnew (l : Launch) (dC : Nat → ClassId) (dI : Nat → Nat → Nat) (cI cZ cQ : ClassId) (h0 : Nat) (a1 : Nat) (a2 : Nat) (a3 : Nat) (a4 : Nat) (T : cT)  : vz_C l (dC, dI) classes [(cI, .int), (cZ, .boolean), (cQ, .object "BinTrees$Person")] y_T_startAnew (Cond.code y_T_startAnew b_T_startAnew 1 none :: vz_tbl) ({ frames := 1, cells := 0, slots := 0, locals := 23 }) [.ref h0] (wT cI cZ h0 a1 a2 a3 a4 T) (none) (wT cI cZ h0 a1 a2 a3 a4 (m_T_startAnew T)) := by
  generalize hres : (m_T_startAnew T) = RES
  refine vz_C.of (by decide) (Nat.le_of_ble_eq_true rfl) ?_
  intro p e s m below meth c ls E hl hK hP hD hS
  obtain ⟨hx, hb, hr, hml, hown, hT, hlocks⟩ := E
  obtain ⟨Q, hQ⟩ : ∃ Q, Q = MQ below (vz_Q (dC, dI) classes (wT cI cZ h0 a1 a2 a3 a4 T) (none) (wT cI cZ h0 a1 a2 a3 a4 RES)) ([.ref h0] : List Value).toArray s 0 0 (vz_A (wT cI cZ h0 a1 a2 a3 a4 T)) := ⟨_, rfl⟩
  rw [← hQ]
  have hl : lv_has ls 1 [(0, .ref h0)] := hl
  have T0 := ti_0
  have T1 := ti_1
  have Tm := ti_m1
  have T8 := ti_8
  have T39 := ti_39
  have T40 := ti_40
  have T4 := ti_4
  have T300 := ti_300
  have hS0 := hS
  refine lv_aload_n hx hb d_T_startAnew_0 rfl (lv_at hl 0 rfl) ?_
  refine va_get (D := (dC, dI)) (ci := 0) (v := .ref a1) (C := R_T) (T := F_T) (N := 5) hx hb hT i_T hown hK hP 0 rfl rfl 0 (by decide) (hT _ kw_90) (fun _ h9 => h9) rfl d_T_startAnew_1 ?_
  refine lv_iconst (v := 0) hx hb d_T_startAnew_4 (by decide) ?_
  have hc := c_A_fill l dC dI cI cZ cQ a1 T.1 0 
  generalize hg_5 : (m_A_fill T.1 0) = g_5 at hc
  refine vz_callS (As := [.ref a1, .int 0]) (rest := []) ⟨hx, hb, hml, hown, hT⟩ hc (vz_goodS kw_87 kw_88 kw_5 kw_89) hd_A_fill ⟨⟨rfl, rfl⟩, Nat.le_of_ble_eq_true rfl, Nat.le_of_ble_eq_true rfl⟩ hK hP hD hS [1] rfl (hC_T_startAnew_5 cI cZ cQ h0 a1 a2 a3 a4 T) (hF_A_fill cI cZ cQ _ _) rfl hl.1 rfl (Nat.le_of_ble_eq_true rfl) ⟨Nat.zero_le _, Nat.zero_le _⟩ d_T_startAnew_5 (fun H locs hP hD hS => ?_)
  have hP : va_P (dC, dI) classes (wT cI cZ h0 a1 a2 a3 a4 (g_5, T.2.1, T.2.2.1, T.2.2.2.1, T.2.2.2.2)) H := vz_reP (hU_T_startAnew_5 cI cZ cQ h0 a1 a2 a3 a4 T g_5) hP
  have hD : va_D (vz_A (wT cI cZ h0 a1 a2 a3 a4 T)) (wT cI cZ h0 a1 a2 a3 a4 (g_5, T.2.1, T.2.2.1, T.2.2.2.1, T.2.2.2.2)) := vz_reD (hU_T_startAnew_5 cI cZ cQ h0 a1 a2 a3 a4 T g_5) hD
  refine W.eq (g2 := F0 m 8 ls []) rfl ?_
  refine lv_aload_n hx hb d_T_startAnew_8 rfl (lv_at hl 0 rfl) ?_
  refine va_get (D := (dC, dI)) (ci := 0) (v := .ref a1) (C := R_T) (T := F_T) (N := 5) hx hb hT i_T hown hK hP 0 rfl rfl 0 (by decide) (hT _ kw_90) (fun _ h9 => h9) rfl d_T_startAnew_9 ?_
  refine lv_iconst (v := 0) hx hb d_T_startAnew_12 (by decide) ?_
  refine lv_iconst (v := 1) hx hb d_T_startAnew_13 (by decide) ?_
  refine va_zast hx hb hK hP hD hS 1 1 rfl rfl (ti_vp (by omega) (by omega)) d_T_startAnew_14 (fun H locs hP hD hS => ?_)
  have hP : va_P (dC, dI) classes (wT cI cZ h0 a1 a2 a3 a4 (upd g_5 (0 : Int32).toNatClampNeg 1, T.2.1, T.2.2.1, T.2.2.2.1, T.2.2.2.2)) H := vz_reP (hW_T_startAnew_14 cI cZ cQ h0 a1 a2 a3 a4 (g_5, T.2.1, T.2.2.1, T.2.2.2.1, T.2.2.2.2) (upd g_5 (0 : Int32).toNatClampNeg 1)) hP
  have hD : va_D (vz_A (wT cI cZ h0 a1 a2 a3 a4 T)) (wT cI cZ h0 a1 a2 a3 a4 (upd g_5 (0 : Int32).toNatClampNeg 1, T.2.1, T.2.2.1, T.2.2.2.1, T.2.2.2.2)) := vz_reD (hW_T_startAnew_14 cI cZ cQ h0 a1 a2 a3 a4 (g_5, T.2.1, T.2.2.1, T.2.2.2.1, T.2.2.2.2) (upd g_5 (0 : Int32).toNatClampNeg 1)) hD
  refine lv_aload_n hx hb d_T_startAnew_15 rfl (lv_at hl 0 rfl) ?_
  refine va_get (D := (dC, dI)) (ci := 0) (v := .ref a2) (C := R_T) (T := F_T) (N := 5) hx hb hT i_T hown hK hP 0 rfl rfl 1 (by decide) (hT _ kw_92) (fun _ h9 => h9) rfl d_T_startAnew_16 ?_
  refine lv_iconst (v := 0) hx hb d_T_startAnew_19 (by decide) ?_
  refine lv_iconst (v := -1) hx hb d_T_startAnew_20 (by decide) ?_
  refine va_iast hx hb hK hP hD hS 2 0 rfl rfl (ti_vp (by omega) (by omega)) d_T_startAnew_21 (fun H locs hP hD hS => ?_)
  have hP : va_P (dC, dI) classes (wT cI cZ h0 a1 a2 a3 a4 (upd g_5 (0 : Int32).toNatClampNeg 1, upd T.2.1 (0 : Int32).toNatClampNeg (-1), T.2.2.1, T.2.2.2.1, T.2.2.2.2)) H := vz_reP (hW_T_startAnew_21 cI cZ cQ h0 a1 a2 a3 a4 (upd g_5 (0 : Int32).toNatClampNeg 1, T.2.1, T.2.2.1, T.2.2.2.1, T.2.2.2.2) (upd T.2.1 (0 : Int32).toNatClampNeg (-1))) hP
  have hD : va_D (vz_A (wT cI cZ h0 a1 a2 a3 a4 T)) (wT cI cZ h0 a1 a2 a3 a4 (upd g_5 (0 : Int32).toNatClampNeg 1, upd T.2.1 (0 : Int32).toNatClampNeg (-1), T.2.2.1, T.2.2.2.1, T.2.2.2.2)) := vz_reD (hW_T_startAnew_21 cI cZ cQ h0 a1 a2 a3 a4 (upd g_5 (0 : Int32).toNatClampNeg 1, T.2.1, T.2.2.1, T.2.2.2.1, T.2.2.2.2) (upd T.2.1 (0 : Int32).toNatClampNeg (-1))) hD
  refine lv_aload_n hx hb d_T_startAnew_22 rfl (lv_at hl 0 rfl) ?_
  refine va_get (D := (dC, dI)) (ci := 0) (v := .ref a3) (C := R_T) (T := F_T) (N := 5) hx hb hT i_T hown hK hP 0 rfl rfl 2 (by decide) (hT _ kw_94) (fun _ h9 => h9) rfl d_T_startAnew_23 ?_
  refine lv_iconst (v := 0) hx hb d_T_startAnew_26 (by decide) ?_
  refine lv_iconst (v := -1) hx hb d_T_startAnew_27 (by decide) ?_
  refine va_iast hx hb hK hP hD hS 3 0 rfl rfl (ti_vp (by omega) (by omega)) d_T_startAnew_28 (fun H locs hP hD hS => ?_)
  have hP : va_P (dC, dI) classes (wT cI cZ h0 a1 a2 a3 a4 (upd g_5 (0 : Int32).toNatClampNeg 1, upd T.2.1 (0 : Int32).toNatClampNeg (-1), upd T.2.2.1 (0 : Int32).toNatClampNeg (-1), T.2.2.2.1, T.2.2.2.2)) H := vz_reP (hW_T_startAnew_28 cI cZ cQ h0 a1 a2 a3 a4 (upd g_5 (0 : Int32).toNatClampNeg 1, upd T.2.1 (0 : Int32).toNatClampNeg (-1), T.2.2.1, T.2.2.2.1, T.2.2.2.2) (upd T.2.2.1 (0 : Int32).toNatClampNeg (-1))) hP
  have hD : va_D (vz_A (wT cI cZ h0 a1 a2 a3 a4 T)) (wT cI cZ h0 a1 a2 a3 a4 (upd g_5 (0 : Int32).toNatClampNeg 1, upd T.2.1 (0 : Int32).toNatClampNeg (-1), upd T.2.2.1 (0 : Int32).toNatClampNeg (-1), T.2.2.2.1, T.2.2.2.2)) := vz_reD (hW_T_startAnew_28 cI cZ cQ h0 a1 a2 a3 a4 (upd g_5 (0 : Int32).toNatClampNeg 1, upd T.2.1 (0 : Int32).toNatClampNeg (-1), T.2.2.1, T.2.2.2.1, T.2.2.2.2) (upd T.2.2.1 (0 : Int32).toNatClampNeg (-1))) hD
  refine lv_aload_n hx hb d_T_startAnew_29 rfl (lv_at hl 0 rfl) ?_
  refine lv_iconst (v := 0) hx hb d_T_startAnew_30 (by decide) ?_
  refine va_put (D := (dC, dI)) (ci := 0) (v := .int 0) (ty := .int) (C := R_T) (T := F_T) (N := 5) hx hb hT i_T tt_T tt_T_ok n_T hown hK hP hD hS 0 rfl rfl 4 (by decide) (hT _ kw_97) (fun _ h9 => h9) rfl (by decide +kernel) rfl rfl (Nat.le_of_ble_eq_true rfl) d_T_startAnew_31 (fun H locs hP hD hS => ?_)
  have hP : va_P (dC, dI) classes (wT cI cZ h0 a1 a2 a3 a4 (upd g_5 (0 : Int32).toNatClampNeg 1, upd T.2.1 (0 : Int32).toNatClampNeg (-1), upd T.2.2.1 (0 : Int32).toNatClampNeg (-1), T.2.2.2.1, 0)) H := vz_reP (hW_T_startAnew_31 cI cZ cQ h0 a1 a2 a3 a4 (upd g_5 (0 : Int32).toNatClampNeg 1, upd T.2.1 (0 : Int32).toNatClampNeg (-1), upd T.2.2.1 (0 : Int32).toNatClampNeg (-1), T.2.2.2.1, T.2.2.2.2) 0) hP
  have hD : va_D (vz_A (wT cI cZ h0 a1 a2 a3 a4 T)) (wT cI cZ h0 a1 a2 a3 a4 (upd g_5 (0 : Int32).toNatClampNeg 1, upd T.2.1 (0 : Int32).toNatClampNeg (-1), upd T.2.2.1 (0 : Int32).toNatClampNeg (-1), T.2.2.2.1, 0)) := vz_reD (hW_T_startAnew_31 cI cZ cQ h0 a1 a2 a3 a4 (upd g_5 (0 : Int32).toNatClampNeg 1, upd T.2.1 (0 : Int32).toNatClampNeg (-1), upd T.2.2.1 (0 : Int32).toNatClampNeg (-1), T.2.2.2.1, T.2.2.2.2) 0) hD
  rw [m_T_startAnew] at hres
  try rw [hg_5] at hres
  subst hres
  subst hQ
  exact vz_vret hx hb hr hlocks d_T_startAnew_34 hS rfl hP
end
section
theorem d_T_bringIn_0 : decode b_T_bringIn 0 = .ok (.aload_n 0, 1) := by decide +kernel
theorem d_T_bringIn_1 : decode b_T_bringIn 1 = .ok (.getfield 9, 3) := by decide +kernel
theorem d_T_bringIn_4 : decode b_T_bringIn 4 = .ok (.iload_n 1, 1) := by decide +kernel
theorem d_T_bringIn_5 : decode b_T_bringIn 5 = .ok (.iconst 1, 1) := by decide +kernel
theorem d_T_bringIn_6 : decode b_T_bringIn 6 = .ok (.bastore, 1) := by decide +kernel
theorem d_T_bringIn_7 : decode b_T_bringIn 7 = .ok (.aload_n 0, 1) := by decide +kernel
theorem d_T_bringIn_8 : decode b_T_bringIn 8 = .ok (.getfield 19, 3) := by decide +kernel
theorem d_T_bringIn_11 : decode b_T_bringIn 11 = .ok (.iload_n 1, 1) := by decide +kernel
theorem d_T_bringIn_12 : decode b_T_bringIn 12 = .ok (.iconst 0, 1) := by decide +kernel
theorem d_T_bringIn_13 : decode b_T_bringIn 13 = .ok (.iastore, 1) := by decide +kernel
theorem d_T_bringIn_14 : decode b_T_bringIn 14 = .ok (.aload_n 0, 1) := by decide +kernel
theorem d_T_bringIn_15 : decode b_T_bringIn 15 = .ok (.aload_n 0, 1) := by decide +kernel
theorem d_T_bringIn_16 : decode b_T_bringIn 16 = .ok (.getfield 34, 3) := by decide +kernel
theorem d_T_bringIn_19 : decode b_T_bringIn 19 = .ok (.iload_n 1, 1) := by decide +kernel
theorem d_T_bringIn_20 : decode b_T_bringIn 20 = .ok (.iconst (-1), 1) := by decide +kernel
theorem d_T_bringIn_21 : decode b_T_bringIn 21 = .ok (.invokevirtual 38, 3) := by decide +kernel
theorem d_T_bringIn_24 : decode b_T_bringIn 24 = .ok (.return_, 1) := by decide +kernel
theorem hW_T_bringIn_6 (cI cZ cQ : ClassId) (q0 q1 q2 q3 q4 : Nat) (S0 : cT) (v : cA) : (wT cI cZ q0 q1 q2 q3 q4 S0 : va_W).set 1 (q1, .inl (cZ, 40, .inl v)) = wT cI cZ q0 q1 q2 q3 q4 (v, S0.2.1, S0.2.2.1, S0.2.2.2.1, S0.2.2.2.2) := rfl
theorem hW_T_bringIn_13 (cI cZ cQ : ClassId) (q0 q1 q2 q3 q4 : Nat) (S0 : cT) (v : cA) : (wT cI cZ q0 q1 q2 q3 q4 S0 : va_W).set 3 (q3, .inl (cI, 40, .inl v)) = wT cI cZ q0 q1 q2 q3 q4 (S0.1, S0.2.1, v, S0.2.2.2.1, S0.2.2.2.2) := rfl
theorem hC_T_bringIn_21 (cI cZ cQ : ClassId) (q0 q1 q2 q3 q4 : Nat) (S0 : cT) : ([0, 1, 2, 3, 4] : List Nat).map (fun i => (wT cI cZ q0 q1 q2 q3 q4 S0 : va_W)[i]?) = (wT cI cZ q0 q1 q2 q3 q4 S0 : va_W).map some := rfl
theorem hF_T_putAt (cI cZ cQ : ClassId) {h0 a1 a2 a3 a4 : Nat} (S0 R0 : cT) : (wT cI cZ h0 a1 a2 a3 a4 R0 : va_W).map Prod.fst = (wT cI cZ h0 a1 a2 a3 a4 S0 : va_W).map Prod.fst := rfl
theorem hU_T_bringIn_21 (cI cZ cQ : ClassId) (q0 q1 q2 q3 q4 : Nat) (S0 : cT) (R0 : cT) : vz_put (wT cI cZ q0 q1 q2 q3 q4 S0 : va_W) [0, 1, 2, 3, 4] (wT cI cZ q0 q1 q2 q3 q4 R0 : va_W) = wT cI cZ q0 q1 q2 q3 q4 R0 := (show vz_put ([(q0, .inr (0, [.ref q1, .ref q2, .ref q3, .ref q4, .int S0.2.2.2.2])), (q1, .inl (cZ, 40, .inl S0.1)), (q2, .inl (cI, 40, .inl S0.2.1)), (q3, .inl (cI, 40, .inl S0.2.2.1)), (q4, .inl (cI, 40, .inl S0.2.2.2.1))] : va_W) [0, 1, 2, 3, 4] ([(q0, .inr (0, [.ref q1, .ref q2, .ref q3, .ref q4, .int R0.2.2.2.2])), (q1, .inl (cZ, 40, .inl R0.1)), (q2, .inl (cI, 40, .inl R0.2.1)), (q3, .inl (cI, 40, .inl R0.2.2.1)), (q4, .inl (cI, 40, .inl R0.2.2.2.1))] : va_W) = [(q0, .inr (0, [.ref q1, .ref q2, .ref q3, .ref q4, .int R0.2.2.2.2])), (q1, .inl (cZ, 40, .inl R0.1)), (q2, .inl (cI, 40, .inl R0.2.1)), (q3, .inl (cI, 40, .inl R0.2.2.1)), (q4, .inl (cI, 40, .inl R0.2.2.2.1))] from rfl).trans rfl
def m_T_bringIn (T : cT) (x1 : Int32) : cT := (m_T_putAt (upd T.1 x1.toNatClampNeg 1, T.2.1, upd T.2.2.1 x1.toNatClampNeg 0, T.2.2.2.1, T.2.2.2.2) T.2.2.2.2 x1 (-1))
set_option maxHeartbeats 1000000 in
set_option maxRecDepth 100000 in
theorem c_T_bringIn (l : Launch) (dC : Nat → ClassId) (dI : Nat → Nat → Nat) (cI cZ cQ : ClassId) (h0 : Nat) (a1 : Nat) (a2 : Nat) (a3 : Nat) (a4 : Nat) (T : cT) (x1 : Int32) (hok : okT T) (h1 : 0 ≤ x1.toInt ∧ x1.toInt < 40) : vz_C l (dC, dI) classes [(cI, .int), (cZ, .boolean), (cQ, .object "BinTrees$Person")] y_T_bringIn (Cond.code y_T_bringIn b_T_bringIn 2 none :: vz_tbl) ({ frames := 1, cells := 0, slots := 0, locals := 24 }) [.ref h0, .int x1] (wT cI cZ h0 a1 a2 a3 a4 T) (none) (wT cI cZ h0 a1 a2 a3 a4 (m_T_bringIn T x1)) := by
  generalize hres : (m_T_bringIn T x1) = RES
  refine vz_C.of (by decide) (Nat.le_of_ble_eq_true rfl) ?_
  intro p e s m below meth c ls E hl hK hP hD hS
  obtain ⟨hx, hb, hr, hml, hown, hT, hlocks⟩ := E
  obtain ⟨Q, hQ⟩ : ∃ Q, Q = MQ below (vz_Q (dC, dI) classes (wT cI cZ h0 a1 a2 a3 a4 T) (none) (wT cI cZ h0 a1 a2 a3 a4 RES)) ([.ref h0, .int x1] : List Value).toArray s 0 0 (vz_A (wT cI cZ h0 a1 a2 a3 a4 T)) := ⟨_, rfl⟩
  rw [← hQ]
  have hl : lv_has ls 2 [(0, .ref h0), (1, .int x1)] := hl
  have T0 := ti_0
  have T1 := ti_1
  have Tm := ti_m1
  have T8 := ti_8
  have T39 := ti_39
  have T40 := ti_40
  have T4 := ti_4
  have T300 := ti_300
  have hsz := hok.2.2.1
  have hS0 := hS
  refine lv_aload_n hx hb d_T_bringIn_0 rfl (lv_at hl 0 rfl) ?_
  refine va_get (D := (dC, dI)) (ci := 0) (v := .ref a1) (C := R_T) (T := F_T) (N := 5) hx hb hT i_T hown hK hP 0 rfl rfl 0 (by decide) (hT _ kw_90) (fun _ h9 => h9) rfl d_T_bringIn_1 ?_
  refine lv_iload_n hx hb d_T_bringIn_4 rfl (lv_at hl 1 rfl) ?_
  refine lv_iconst (v := 1) hx hb d_T_bringIn_5 (by decide) ?_
  refine va_zast hx hb hK hP hD hS 1 1 rfl rfl (ti_vp (by omega) (by omega)) d_T_bringIn_6 (fun H locs hP hD hS => ?_)
  have hP : va_P (dC, dI) classes (wT cI cZ h0 a1 a2 a3 a4 (upd T.1 x1.toNatClampNeg 1, T.2.1, T.2.2.1, T.2.2.2.1, T.2.2.2.2)) H := vz_reP (hW_T_bringIn_6 cI cZ cQ h0 a1 a2 a3 a4 T (upd T.1 x1.toNatClampNeg 1)) hP
  have hD : va_D (vz_A (wT cI cZ h0 a1 a2 a3 a4 T)) (wT cI cZ h0 a1 a2 a3 a4 (upd T.1 x1.toNatClampNeg 1, T.2.1, T.2.2.1, T.2.2.2.1, T.2.2.2.2)) := vz_reD (hW_T_bringIn_6 cI cZ cQ h0 a1 a2 a3 a4 T (upd T.1 x1.toNatClampNeg 1)) hD
  refine lv_aload_n hx hb d_T_bringIn_7 rfl (lv_at hl 0 rfl) ?_
  refine va_get (D := (dC, dI)) (ci := 0) (v := .ref a3) (C := R_T) (T := F_T) (N := 5) hx hb hT i_T hown hK hP 0 rfl rfl 2 (by decide) (hT _ kw_94) (fun _ h9 => h9) rfl d_T_bringIn_8 ?_
  refine lv_iload_n hx hb d_T_bringIn_11 rfl (lv_at hl 1 rfl) ?_
  refine lv_iconst (v := 0) hx hb d_T_bringIn_12 (by decide) ?_
  refine va_iast hx hb hK hP hD hS 3 0 rfl rfl (ti_vp (by omega) (by omega)) d_T_bringIn_13 (fun H locs hP hD hS => ?_)
  have hP : va_P (dC, dI) classes (wT cI cZ h0 a1 a2 a3 a4 (upd T.1 x1.toNatClampNeg 1, T.2.1, upd T.2.2.1 x1.toNatClampNeg 0, T.2.2.2.1, T.2.2.2.2)) H := vz_reP (hW_T_bringIn_13 cI cZ cQ h0 a1 a2 a3 a4 (upd T.1 x1.toNatClampNeg 1, T.2.1, T.2.2.1, T.2.2.2.1, T.2.2.2.2) (upd T.2.2.1 x1.toNatClampNeg 0)) hP
  have hD : va_D (vz_A (wT cI cZ h0 a1 a2 a3 a4 T)) (wT cI cZ h0 a1 a2 a3 a4 (upd T.1 x1.toNatClampNeg 1, T.2.1, upd T.2.2.1 x1.toNatClampNeg 0, T.2.2.2.1, T.2.2.2.2)) := vz_reD (hW_T_bringIn_13 cI cZ cQ h0 a1 a2 a3 a4 (upd T.1 x1.toNatClampNeg 1, T.2.1, T.2.2.1, T.2.2.2.1, T.2.2.2.2) (upd T.2.2.1 x1.toNatClampNeg 0)) hD
  refine lv_aload_n hx hb d_T_bringIn_14 rfl (lv_at hl 0 rfl) ?_
  refine lv_aload_n hx hb d_T_bringIn_15 rfl (lv_at hl 0 rfl) ?_
  refine va_get (D := (dC, dI)) (ci := 0) (v := .int T.2.2.2.2) (C := R_T) (T := F_T) (N := 5) hx hb hT i_T hown hK hP 0 rfl rfl 4 (by decide) (hT _ kw_97) (fun _ h9 => h9) rfl d_T_bringIn_16 ?_
  refine lv_iload_n hx hb d_T_bringIn_19 rfl (lv_at hl 1 rfl) ?_
  refine lv_iconst (v := -1) hx hb d_T_bringIn_20 (by decide) ?_
  have hc := c_T_putAt l dC dI cI cZ cQ h0 a1 a2 a3 a4 (upd T.1 x1.toNatClampNeg 1, T.2.1, upd T.2.2.1 x1.toNatClampNeg 0, T.2.2.2.1, T.2.2.2.2) T.2.2.2.2 x1 (-1) (by dsimp only; omega) (by dsimp only; omega) (h1)
  generalize hg_21 : (m_T_putAt (upd T.1 x1.toNatClampNeg 1, T.2.1, upd T.2.2.1 x1.toNatClampNeg 0, T.2.2.2.1, T.2.2.2.2) T.2.2.2.2 x1 (-1)) = g_21 at hc
  refine vz_callV (As := [.int T.2.2.2.2, .int x1, .int (-1)]) (rest := []) ⟨hx, hb, hml, hown, hT⟩ hc (vz_goodV kw_189 kw_191 ks_5 kw_4 kw_192) ⟨rfl, hd_T_putAt⟩ ⟨⟨rfl, rfl⟩, Nat.le_of_ble_eq_true rfl, Nat.le_of_ble_eq_true rfl⟩ hK hP hD hS [0, 1, 2, 3, 4] rfl (hC_T_bringIn_21 cI cZ cQ h0 a1 a2 a3 a4 (upd T.1 x1.toNatClampNeg 1, T.2.1, upd T.2.2.1 x1.toNatClampNeg 0, T.2.2.2.1, T.2.2.2.2)) (hF_T_putAt cI cZ cQ _ _) 0 0 rfl rfl rfl rfl hl.1 rfl (Nat.le_of_ble_eq_true rfl) ⟨Nat.zero_le _, Nat.zero_le _⟩ d_T_bringIn_21 (fun H locs hP hD hS => ?_)
  have hP : va_P (dC, dI) classes (wT cI cZ h0 a1 a2 a3 a4 g_21) H := vz_reP (hU_T_bringIn_21 cI cZ cQ h0 a1 a2 a3 a4 (upd T.1 x1.toNatClampNeg 1, T.2.1, upd T.2.2.1 x1.toNatClampNeg 0, T.2.2.2.1, T.2.2.2.2) g_21) hP
  have hD : va_D (vz_A (wT cI cZ h0 a1 a2 a3 a4 T)) (wT cI cZ h0 a1 a2 a3 a4 g_21) := vz_reD (hU_T_bringIn_21 cI cZ cQ h0 a1 a2 a3 a4 (upd T.1 x1.toNatClampNeg 1, T.2.1, upd T.2.2.1 x1.toNatClampNeg 0, T.2.2.2.1, T.2.2.2.2) g_21) hD
  refine W.eq (g2 := F0 m 24 ls []) rfl ?_
  rw [m_T_bringIn] at hres
  try rw [hg_21] at hres
  subst hres
  subst hQ
  exact vz_vret hx hb hr hlocks d_T_bringIn_24 hS rfl hP
end
section
theorem d_T_moveTo_0 : decode b_T_moveTo 0 = .ok (.aload_n 0, 1) := by decide +kernel
theorem d_T_moveTo_1 : decode b_T_moveTo 1 = .ok (.iload_n 1, 1) := by decide +kernel
theorem d_T_moveTo_2 : decode b_T_moveTo 2 = .ok (.iload_n 2, 1) := by decide +kernel
theorem d_T_moveTo_3 : decode b_T_moveTo 3 = .ok (.invokevirtual 42, 3) := by decide +kernel
theorem d_T_moveTo_6 : decode b_T_moveTo 6 = .ok (.ifCond .ne 5, 3) := by decide +kernel
theorem d_T_moveTo_9 : decode b_T_moveTo 9 = .ok (.iconst 0, 1) := by decide +kernel
theorem d_T_moveTo_10 : decode b_T_moveTo 10 = .ok (.ireturn, 1) := by decide +kernel
theorem d_T_moveTo_11 : decode b_T_moveTo 11 = .ok (.aload_n 0, 1) := by decide +kernel
theorem d_T_moveTo_12 : decode b_T_moveTo 12 = .ok (.iload_n 1, 1) := by decide +kernel
theorem d_T_moveTo_13 : decode b_T_moveTo 13 = .ok (.invokevirtual 46, 3) := by decide +kernel
theorem d_T_moveTo_16 : decode b_T_moveTo 16 = .ok (.aload_n 0, 1) := by decide +kernel
theorem d_T_moveTo_17 : decode b_T_moveTo 17 = .ok (.aload_n 0, 1) := by decide +kernel
theorem d_T_moveTo_18 : decode b_T_moveTo 18 = .ok (.iload_n 3, 1) := by decide +kernel
theorem d_T_moveTo_19 : decode b_T_moveTo 19 = .ok (.iload_n 2, 1) := by decide +kernel
theorem d_T_moveTo_20 : decode b_T_moveTo 20 = .ok (.invokevirtual 50, 3) := by decide +kernel
theorem d_T_moveTo_23 : decode b_T_moveTo 23 = .ok (.iload_n 1, 1) := by decide +kernel
theorem d_T_moveTo_24 : decode b_T_moveTo 24 = .ok (.iload_n 2, 1) := by decide +kernel
theorem d_T_moveTo_25 : decode b_T_moveTo 25 = .ok (.invokevirtual 38, 3) := by decide +kernel
theorem d_T_moveTo_28 : decode b_T_moveTo 28 = .ok (.aload_n 0, 1) := by decide +kernel
theorem d_T_moveTo_29 : decode b_T_moveTo 29 = .ok (.getfield 19, 3) := by decide +kernel
theorem d_T_moveTo_32 : decode b_T_moveTo 32 = .ok (.iload_n 1, 1) := by decide +kernel
theorem d_T_moveTo_33 : decode b_T_moveTo 33 = .ok (.iload_n 2, 1) := by decide +kernel
theorem d_T_moveTo_34 : decode b_T_moveTo 34 = .ok (.iastore, 1) := by decide +kernel
theorem d_T_moveTo_35 : decode b_T_moveTo 35 = .ok (.iconst 1, 1) := by decide +kernel
theorem d_T_moveTo_36 : decode b_T_moveTo 36 = .ok (.ireturn, 1) := by decide +kernel
theorem hC_T_moveTo_3 (cI cZ cQ : ClassId) (q0 q1 q2 q3 q4 : Nat) (S0 : cT) : ([0, 1, 2, 3, 4] : List Nat).map (fun i => (wT cI cZ q0 q1 q2 q3 q4 S0 : va_W)[i]?) = (wT cI cZ q0 q1 q2 q3 q4 S0 : va_W).map some := rfl
theorem hF_T_mayLie (cI cZ cQ : ClassId) {h0 a1 a2 a3 a4 : Nat} (S0 R0 : cT) : (wT cI cZ h0 a1 a2 a3 a4 R0 : va_W).map Prod.fst = (wT cI cZ h0 a1 a2 a3 a4 S0 : va_W).map Prod.fst := rfl
theorem hU_T_moveTo_3 (cI cZ cQ : ClassId) (q0 q1 q2 q3 q4 : Nat) (S0 : cT)  : vz_put (wT cI cZ q0 q1 q2 q3 q4 S0 : va_W) [0, 1, 2, 3, 4] (wT cI cZ q0 q1 q2 q3 q4 S0 : va_W) = wT cI cZ q0 q1 q2 q3 q4 S0 := (show vz_put ([(q0, .inr (0, [.ref q1, .ref q2, .ref q3, .ref q4, .int S0.2.2.2.2])), (q1, .inl (cZ, 40, .inl S0.1)), (q2, .inl (cI, 40, .inl S0.2.1)), (q3, .inl (cI, 40, .inl S0.2.2.1)), (q4, .inl (cI, 40, .inl S0.2.2.2.1))] : va_W) [0, 1, 2, 3, 4] ([(q0, .inr (0, [.ref q1, .ref q2, .ref q3, .ref q4, .int S0.2.2.2.2])), (q1, .inl (cZ, 40, .inl S0.1)), (q2, .inl (cI, 40, .inl S0.2.1)), (q3, .inl (cI, 40, .inl S0.2.2.1)), (q4, .inl (cI, 40, .inl S0.2.2.2.1))] : va_W) = [(q0, .inr (0, [.ref q1, .ref q2, .ref q3, .ref q4, .int S0.2.2.2.2])), (q1, .inl (cZ, 40, .inl S0.1)), (q2, .inl (cI, 40, .inl S0.2.1)), (q3, .inl (cI, 40, .inl S0.2.2.1)), (q4, .inl (cI, 40, .inl S0.2.2.2.1))] from rfl).trans rfl
theorem hC_T_moveTo_13 (cI cZ cQ : ClassId) (q0 q1 q2 q3 q4 : Nat) (S0 : cT) : ([0, 1, 2, 3, 4] : List Nat).map (fun i => (wT cI cZ q0 q1 q2 q3 q4 S0 : va_W)[i]?) = (wT cI cZ q0 q1 q2 q3 q4 S0 : va_W).map some := rfl
theorem hF_T_takeOut (cI cZ cQ : ClassId) {h0 a1 a2 a3 a4 : Nat} (S0 R0 : cT) : (wT cI cZ h0 a1 a2 a3 a4 R0 : va_W).map Prod.fst = (wT cI cZ h0 a1 a2 a3 a4 S0 : va_W).map Prod.fst := rfl
theorem hU_T_moveTo_13 (cI cZ cQ : ClassId) (q0 q1 q2 q3 q4 : Nat) (S0 : cT) (R0 : cT) : vz_put (wT cI cZ q0 q1 q2 q3 q4 S0 : va_W) [0, 1, 2, 3, 4] (wT cI cZ q0 q1 q2 q3 q4 R0 : va_W) = wT cI cZ q0 q1 q2 q3 q4 R0 := (show vz_put ([(q0, .inr (0, [.ref q1, .ref q2, .ref q3, .ref q4, .int S0.2.2.2.2])), (q1, .inl (cZ, 40, .inl S0.1)), (q2, .inl (cI, 40, .inl S0.2.1)), (q3, .inl (cI, 40, .inl S0.2.2.1)), (q4, .inl (cI, 40, .inl S0.2.2.2.1))] : va_W) [0, 1, 2, 3, 4] ([(q0, .inr (0, [.ref q1, .ref q2, .ref q3, .ref q4, .int R0.2.2.2.2])), (q1, .inl (cZ, 40, .inl R0.1)), (q2, .inl (cI, 40, .inl R0.2.1)), (q3, .inl (cI, 40, .inl R0.2.2.1)), (q4, .inl (cI, 40, .inl R0.2.2.2.1))] : va_W) = [(q0, .inr (0, [.ref q1, .ref q2, .ref q3, .ref q4, .int R0.2.2.2.2])), (q1, .inl (cZ, 40, .inl R0.1)), (q2, .inl (cI, 40, .inl R0.2.1)), (q3, .inl (cI, 40, .inl R0.2.2.1)), (q4, .inl (cI, 40, .inl R0.2.2.2.1))] from rfl).trans rfl
theorem hC_T_moveTo_20 (cI cZ cQ : ClassId) (q0 q1 q2 q3 q4 : Nat) (S0 : cT) : ([0, 1, 2, 3, 4] : List Nat).map (fun i => (wT cI cZ q0 q1 q2 q3 q4 S0 : va_W)[i]?) = (wT cI cZ q0 q1 q2 q3 q4 S0 : va_W).map some := rfl
theorem hF_T_spotBehind (cI cZ cQ : ClassId) {h0 a1 a2 a3 a4 : Nat} (S0 R0 : cT) : (wT cI cZ h0 a1 a2 a3 a4 R0 : va_W).map Prod.fst = (wT cI cZ h0 a1 a2 a3 a4 S0 : va_W).map Prod.fst := rfl
theorem hU_T_moveTo_20 (cI cZ cQ : ClassId) (q0 q1 q2 q3 q4 : Nat) (S0 : cT)  : vz_put (wT cI cZ q0 q1 q2 q3 q4 S0 : va_W) [0, 1, 2, 3, 4] (wT cI cZ q0 q1 q2 q3 q4 S0 : va_W) = wT cI cZ q0 q1 q2 q3 q4 S0 := (show vz_put ([(q0, .inr (0, [.ref q1, .ref q2, .ref q3, .ref q4, .int S0.2.2.2.2])), (q1, .inl (cZ, 40, .inl S0.1)), (q2, .inl (cI, 40, .inl S0.2.1)), (q3, .inl (cI, 40, .inl S0.2.2.1)), (q4, .inl (cI, 40, .inl S0.2.2.2.1))] : va_W) [0, 1, 2, 3, 4] ([(q0, .inr (0, [.ref q1, .ref q2, .ref q3, .ref q4, .int S0.2.2.2.2])), (q1, .inl (cZ, 40, .inl S0.1)), (q2, .inl (cI, 40, .inl S0.2.1)), (q3, .inl (cI, 40, .inl S0.2.2.1)), (q4, .inl (cI, 40, .inl S0.2.2.2.1))] : va_W) = [(q0, .inr (0, [.ref q1, .ref q2, .ref q3, .ref q4, .int S0.2.2.2.2])), (q1, .inl (cZ, 40, .inl S0.1)), (q2, .inl (cI, 40, .inl S0.2.1)), (q3, .inl (cI, 40, .inl S0.2.2.1)), (q4, .inl (cI, 40, .inl S0.2.2.2.1))] from rfl).trans rfl
theorem hC_T_moveTo_25 (cI cZ cQ : ClassId) (q0 q1 q2 q3 q4 : Nat) (S0 : cT) : ([0, 1, 2, 3, 4] : List Nat).map (fun i => (wT cI cZ q0 q1 q2 q3 q4 S0 : va_W)[i]?) = (wT cI cZ q0 q1 q2 q3 q4 S0 : va_W).map some := rfl
theorem hU_T_moveTo_25 (cI cZ cQ : ClassId) (q0 q1 q2 q3 q4 : Nat) (S0 : cT) (R0 : cT) : vz_put (wT cI cZ q0 q1 q2 q3 q4 S0 : va_W) [0, 1, 2, 3, 4] (wT cI cZ q0 q1 q2 q3 q4 R0 : va_W) = wT cI cZ q0 q1 q2 q3 q4 R0 := (show vz_put ([(q0, .inr (0, [.ref q1, .ref q2, .ref q3, .ref q4, .int S0.2.2.2.2])), (q1, .inl (cZ, 40, .inl S0.1)), (q2, .inl (cI, 40, .inl S0.2.1)), (q3, .inl (cI, 40, .inl S0.2.2.1)), (q4, .inl (cI, 40, .inl S0.2.2.2.1))] : va_W) [0, 1, 2, 3, 4] ([(q0, .inr (0, [.ref q1, .ref q2, .ref q3, .ref q4, .int R0.2.2.2.2])), (q1, .inl (cZ, 40, .inl R0.1)), (q2, .inl (cI, 40, .inl R0.2.1)), (q3, .inl (cI, 40, .inl R0.2.2.1)), (q4, .inl (cI, 40, .inl R0.2.2.2.1))] : va_W) = [(q0, .inr (0, [.ref q1, .ref q2, .ref q3, .ref q4, .int R0.2.2.2.2])), (q1, .inl (cZ, 40, .inl R0.1)), (q2, .inl (cI, 40, .inl R0.2.1)), (q3, .inl (cI, 40, .inl R0.2.2.1)), (q4, .inl (cI, 40, .inl R0.2.2.2.1))] from rfl).trans rfl
theorem hW_T_moveTo_34 (cI cZ cQ : ClassId) (q0 q1 q2 q3 q4 : Nat) (S0 : cT) (v : cA) : (wT cI cZ q0 q1 q2 q3 q4 S0 : va_W).set 3 (q3, .inl (cI, 40, .inl v)) = wT cI cZ q0 q1 q2 q3 q4 (S0.1, S0.2.1, v, S0.2.2.2.1, S0.2.2.2.2) := rfl
def m_T_moveTo (T : cT) (x1 : Int32) (x2 : Int32) (x3 : Int32) : Int32 × cT := (if (m_T_mayLie T x1 x2) = 0 then (0, T) else (1, ((m_T_putAt (m_T_takeOut T x1) (m_T_spotBehind (m_T_takeOut T x1) x3 x2) x1 x2).1, (m_T_putAt (m_T_takeOut T x1) (m_T_spotBehind (m_T_takeOut T x1) x3 x2) x1 x2).2.1, upd (m_T_putAt (m_T_takeOut T x1) (m_T_spotBehind (m_T_takeOut T x1) x3 x2) x1 x2).2.2.1 x1.toNatClampNeg x2, (m_T_putAt (m_T_takeOut T x1) (m_T_spotBehind (m_T_takeOut T x1) x3 x2) x1 x2).2.2.2.1, (m_T_putAt (m_T_takeOut T x1) (m_T_spotBehind (m_T_takeOut T x1) x3 x2) x1 x2).2.2.2.2)))
set_option maxHeartbeats 1000000 in
set_option maxRecDepth 100000 in
theorem c_T_moveTo (l : Launch) (dC : Nat → ClassId) (dI : Nat → Nat → Nat) (cI cZ cQ : ClassId) (h0 : Nat) (a1 : Nat) (a2 : Nat) (a3 : Nat) (a4 : Nat) (T : cT) (x1 : Int32) (x2 : Int32) (x3 : Int32) (hok : okT T) (h1 : 0 ≤ x1.toInt ∧ x1.toInt < 40) (h2 : 0 ≤ x2.toInt ∧ x2.toInt < 40) : vz_C l (dC, dI) classes [(cI, .int), (cZ, .boolean), (cQ, .object "BinTrees$Person")] y_T_moveTo (Cond.code y_T_moveTo b_T_moveTo 4 (some .boolean) :: vz_tbl) ({ frames := 2, cells := 0, slots := 0, locals := 49 }) [.ref h0, .int x1, .int x2, .int x3] (wT cI cZ h0 a1 a2 a3 a4 T) (some (.int ((m_T_moveTo T x1 x2 x3).1))) (wT cI cZ h0 a1 a2 a3 a4 ((m_T_moveTo T x1 x2 x3).2)) := by
  generalize hres : (m_T_moveTo T x1 x2 x3) = RES
  refine vz_C.of (by decide) (Nat.le_of_ble_eq_true rfl) ?_
  intro p e s m below meth c ls E hl hK hP hD hS
  obtain ⟨hx, hb, hr, hml, hown, hT, hlocks⟩ := E
  obtain ⟨Q, hQ⟩ : ∃ Q, Q = MQ below (vz_Q (dC, dI) classes (wT cI cZ h0 a1 a2 a3 a4 T) (some (.int RES.1)) (wT cI cZ h0 a1 a2 a3 a4 RES.2)) ([.ref h0, .int x1, .int x2, .int x3] : List Value).toArray s 0 0 (vz_A (wT cI cZ h0 a1 a2 a3 a4 T)) := ⟨_, rfl⟩
  rw [← hQ]
  have hl : lv_has ls 4 [(0, .ref h0), (1, .int x1), (2, .int x2), (3, .int x3)] := hl
  have T0 := ti_0
  have T1 := ti_1
  have Tm := ti_m1
  have T8 := ti_8
  have T39 := ti_39
  have T40 := ti_40
  have T4 := ti_4
  have T300 := ti_300
  have hS0 := hS
  refine lv_aload_n hx hb d_T_moveTo_0 rfl (lv_at hl 0 rfl) ?_
  refine lv_iload_n hx hb d_T_moveTo_1 rfl (lv_at hl 1 rfl) ?_
  refine lv_iload_n hx hb d_T_moveTo_2 rfl (lv_at hl 2 rfl) ?_
  have hc := c_T_mayLie l dC dI cI cZ cQ h0 a1 a2 a3 a4 T x1 x2 (hok) (h1) (h2)
  generalize hg_3 : (m_T_mayLie T x1 x2) = g_3 at hc
  refine vz_callV (As := [.int x1, .int x2]) (rest := []) ⟨hx, hb, hml, hown, hT⟩ hc (vz_goodV kw_197 kw_199 ks_6 kw_4 kw_200) ⟨rfl, hd_T_mayLie⟩ ⟨⟨rfl, rfl⟩, Nat.le_of_ble_eq_true rfl, Nat.le_of_ble_eq_true rfl⟩ hK hP hD hS [0, 1, 2, 3, 4] rfl (hC_T_moveTo_3 cI cZ cQ h0 a1 a2 a3 a4 T) (hF_T_mayLie cI cZ cQ _ _) 0 0 rfl rfl rfl rfl hl.1 rfl (Nat.le_of_ble_eq_true rfl) ⟨Nat.zero_le _, Nat.zero_le _⟩ d_T_moveTo_3 (fun H locs hP hD hS => ?_)
  have hP : va_P (dC, dI) classes (wT cI cZ h0 a1 a2 a3 a4 T) H := vz_reP (hU_T_moveTo_3 cI cZ cQ h0 a1 a2 a3 a4 T ) hP
  have hD : va_D (vz_A (wT cI cZ h0 a1 a2 a3 a4 T)) (wT cI cZ h0 a1 a2 a3 a4 T) := vz_reD (hU_T_moveTo_3 cI cZ cQ h0 a1 a2 a3 a4 T ) hD
  refine W.eq (g2 := F0 m 6 ls [.int g_3]) rfl ?_
  refine lv_if_ne (tgt := 11) hx hb d_T_moveTo_6 (by decide) (fun c_6 => ?_) (fun c_6 => ?_)
  · have z_6 := mt Int32.toInt_inj.mp c_6
    refine lv_aload_n hx hb d_T_moveTo_11 rfl (lv_at hl 0 rfl) ?_
    refine lv_iload_n hx hb d_T_moveTo_12 rfl (lv_at hl 1 rfl) ?_
    have hc := c_T_takeOut l dC dI cI cZ cQ h0 a1 a2 a3 a4 T x1 (ok_le hok)
    generalize hg_13 : (m_T_takeOut T x1) = g_13 at hc
    refine vz_callV (As := [.int x1]) (rest := []) ⟨hx, hb, hml, hown, hT⟩ hc (vz_goodV kw_205 kw_207 ks_7 kw_4 kw_208) ⟨rfl, hd_T_takeOut⟩ ⟨⟨rfl, rfl⟩, Nat.le_of_ble_eq_true rfl, Nat.le_of_ble_eq_true rfl⟩ hK hP hD hS [0, 1, 2, 3, 4] rfl (hC_T_moveTo_13 cI cZ cQ h0 a1 a2 a3 a4 T) (hF_T_takeOut cI cZ cQ _ _) 0 0 rfl rfl rfl rfl hl.1 rfl (Nat.le_of_ble_eq_true rfl) ⟨Nat.zero_le _, Nat.zero_le _⟩ d_T_moveTo_13 (fun H locs hP hD hS => ?_)
    have hP : va_P (dC, dI) classes (wT cI cZ h0 a1 a2 a3 a4 g_13) H := vz_reP (hU_T_moveTo_13 cI cZ cQ h0 a1 a2 a3 a4 T g_13) hP
    have hD : va_D (vz_A (wT cI cZ h0 a1 a2 a3 a4 T)) (wT cI cZ h0 a1 a2 a3 a4 g_13) := vz_reD (hU_T_moveTo_13 cI cZ cQ h0 a1 a2 a3 a4 T g_13) hD
    have ok1 : okT g_13 := by rw [← hg_13]; exact to_ok' hok
    refine W.eq (g2 := F0 m 16 ls []) rfl ?_
    refine lv_aload_n hx hb d_T_moveTo_16 rfl (lv_at hl 0 rfl) ?_
    refine lv_aload_n hx hb d_T_moveTo_17 rfl (lv_at hl 0 rfl) ?_
    refine lv_iload_n hx hb d_T_moveTo_18 rfl (lv_at hl 3 rfl) ?_
    refine lv_iload_n hx hb d_T_moveTo_19 rfl (lv_at hl 2 rfl) ?_
    have hc := c_T_spotBehind l dC dI cI cZ cQ h0 a1 a2 a3 a4 g_13 x3 x2 (ok_le ok1) (ok1.2.1)
    generalize hg_20 : (m_T_spotBehind g_13 x3 x2) = g_20 at hc
    refine vz_callV (As := [.int x3, .int x2]) (rest := [.ref h0]) ⟨hx, hb, hml, hown, hT⟩ hc (vz_goodV kw_209 kw_211 ks_8 kw_4 kw_212) ⟨rfl, hd_T_spotBehind⟩ ⟨⟨rfl, rfl⟩, Nat.le_of_ble_eq_true rfl, Nat.le_of_ble_eq_true rfl⟩ hK hP hD hS [0, 1, 2, 3, 4] rfl (hC_T_moveTo_20 cI cZ cQ h0 a1 a2 a3 a4 g_13) (hF_T_spotBehind cI cZ cQ _ _) 0 0 rfl rfl rfl rfl hl.1 rfl (Nat.le_of_ble_eq_true rfl) ⟨Nat.zero_le _, Nat.zero_le _⟩ d_T_moveTo_20 (fun H locs hP hD hS => ?_)
    have hP : va_P (dC, dI) classes (wT cI cZ h0 a1 a2 a3 a4 g_13) H := vz_reP (hU_T_moveTo_20 cI cZ cQ h0 a1 a2 a3 a4 g_13 ) hP
    have hD : va_D (vz_A (wT cI cZ h0 a1 a2 a3 a4 T)) (wT cI cZ h0 a1 a2 a3 a4 g_13) := vz_reD (hU_T_moveTo_20 cI cZ cQ h0 a1 a2 a3 a4 g_13 ) hD
    have sp1 : 0 ≤ g_20.toInt ∧ g_20.toInt ≤ g_13.2.2.2.2.toInt := by rw [← hg_20]; exact sb_rg' ok1
    refine W.eq (g2 := F0 m 23 ls [.int g_20, .ref h0]) rfl ?_
    refine lv_iload_n hx hb d_T_moveTo_23 rfl (lv_at hl 1 rfl) ?_
    refine lv_iload_n hx hb d_T_moveTo_24 rfl (lv_at hl 2 rfl) ?_
    have hc := c_T_putAt l dC dI cI cZ cQ h0 a1 a2 a3 a4 g_13 g_20 x1 x2 (ok_lt ok1) (sp1) (h1)
    generalize hg_25 : (m_T_putAt g_13 g_20 x1 x2) = g_25 at hc
    refine vz_callV (As := [.int g_20, .int x1, .int x2]) (rest := []) ⟨hx, hb, hml, hown, hT⟩ hc (vz_goodV kw_189 kw_191 ks_5 kw_4 kw_192) ⟨rfl, hd_T_putAt⟩ ⟨⟨rfl, rfl⟩, Nat.le_of_ble_eq_true rfl, Nat.le_of_ble_eq_true rfl⟩ hK hP hD hS [0, 1, 2, 3, 4] rfl (hC_T_moveTo_25 cI cZ cQ h0 a1 a2 a3 a4 g_13) (hF_T_putAt cI cZ cQ _ _) 0 0 rfl rfl rfl rfl hl.1 rfl (Nat.le_of_ble_eq_true rfl) ⟨Nat.zero_le _, Nat.zero_le _⟩ d_T_moveTo_25 (fun H locs hP hD hS => ?_)
    have hP : va_P (dC, dI) classes (wT cI cZ h0 a1 a2 a3 a4 g_25) H := vz_reP (hU_T_moveTo_25 cI cZ cQ h0 a1 a2 a3 a4 g_13 g_25) hP
    have hD : va_D (vz_A (wT cI cZ h0 a1 a2 a3 a4 T)) (wT cI cZ h0 a1 a2 a3 a4 g_25) := vz_reD (hU_T_moveTo_25 cI cZ cQ h0 a1 a2 a3 a4 g_13 g_25) hD
    refine W.eq (g2 := F0 m 28 ls []) rfl ?_
    refine lv_aload_n hx hb d_T_moveTo_28 rfl (lv_at hl 0 rfl) ?_
    refine va_get (D := (dC, dI)) (ci := 0) (v := .ref a3) (C := R_T) (T := F_T) (N := 5) hx hb hT i_T hown hK hP 0 rfl rfl 2 (by decide) (hT _ kw_94) (fun _ h9 => h9) rfl d_T_moveTo_29 ?_
    refine lv_iload_n hx hb d_T_moveTo_32 rfl (lv_at hl 1 rfl) ?_
    refine lv_iload_n hx hb d_T_moveTo_33 rfl (lv_at hl 2 rfl) ?_
    refine va_iast hx hb hK hP hD hS 3 0 rfl rfl (ti_vp (by omega) (by omega)) d_T_moveTo_34 (fun H locs hP hD hS => ?_)
    have hP : va_P (dC, dI) classes (wT cI cZ h0 a1 a2 a3 a4 (g_25.1, g_25.2.1, upd g_25.2.2.1 x1.toNatClampNeg x2, g_25.2.2.2.1, g_25.2.2.2.2)) H := vz_reP (hW_T_moveTo_34 cI cZ cQ h0 a1 a2 a3 a4 g_25 (upd g_25.2.2.1 x1.toNatClampNeg x2)) hP
    have hD : va_D (vz_A (wT cI cZ h0 a1 a2 a3 a4 T)) (wT cI cZ h0 a1 a2 a3 a4 (g_25.1, g_25.2.1, upd g_25.2.2.1 x1.toNatClampNeg x2, g_25.2.2.2.1, g_25.2.2.2.2)) := vz_reD (hW_T_moveTo_34 cI cZ cQ h0 a1 a2 a3 a4 g_25 (upd g_25.2.2.1 x1.toNatClampNeg x2)) hD
    refine lv_iconst (v := 1) hx hb d_T_moveTo_35 (by decide) ?_
    rw [m_T_moveTo] at hres
    try rw [hg_3] at hres
    rw [if_neg c_6] at hres
    try rw [hg_13] at hres
    try rw [hg_20] at hres
    try rw [hg_25] at hres
    subst hres
    subst hQ
    exact vz_zret hx hb hr (by decide) hlocks d_T_moveTo_36 hS rfl hP
  · have z_6 := congrArg Int32.toInt c_6
    refine lv_iconst (v := 0) hx hb d_T_moveTo_9 (by decide) ?_
    rw [m_T_moveTo] at hres
    try rw [hg_3] at hres
    rw [if_pos c_6] at hres
    subst hres
    subst hQ
    exact vz_zret hx hb hr (by decide) hlocks d_T_moveTo_10 hS rfl hP
end
section
theorem d_T_throwAway_0 : decode b_T_throwAway 0 = .ok (.aload_n 0, 1) := by decide +kernel
theorem d_T_throwAway_1 : decode b_T_throwAway 1 = .ok (.getfield 9, 3) := by decide +kernel
theorem d_T_throwAway_4 : decode b_T_throwAway 4 = .ok (.iload_n 1, 1) := by decide +kernel
theorem d_T_throwAway_5 : decode b_T_throwAway 5 = .ok (.baload, 1) := by decide +kernel
theorem d_T_throwAway_6 : decode b_T_throwAway 6 = .ok (.ifCond .eq 13, 3) := by decide +kernel
theorem d_T_throwAway_9 : decode b_T_throwAway 9 = .ok (.aload_n 0, 1) := by decide +kernel
theorem d_T_throwAway_10 : decode b_T_throwAway 10 = .ok (.getfield 15, 3) := by decide +kernel
theorem d_T_throwAway_13 : decode b_T_throwAway 13 = .ok (.iload_n 1, 1) := by decide +kernel
theorem d_T_throwAway_14 : decode b_T_throwAway 14 = .ok (.iaload, 1) := by decide +kernel
theorem d_T_throwAway_15 : decode b_T_throwAway 15 = .ok (.iconst (-1), 1) := by decide +kernel
theorem d_T_throwAway_16 : decode b_T_throwAway 16 = .ok (.if_icmp .ne 5, 3) := by decide +kernel
theorem d_T_throwAway_19 : decode b_T_throwAway 19 = .ok (.iconst 0, 1) := by decide +kernel
theorem d_T_throwAway_20 : decode b_T_throwAway 20 = .ok (.ireturn, 1) := by decide +kernel
theorem d_T_throwAway_21 : decode b_T_throwAway 21 = .ok (.aload_n 0, 1) := by decide +kernel
theorem d_T_throwAway_22 : decode b_T_throwAway 22 = .ok (.iload_n 1, 1) := by decide +kernel
theorem d_T_throwAway_23 : decode b_T_throwAway 23 = .ok (.invokevirtual 46, 3) := by decide +kernel
theorem d_T_throwAway_26 : decode b_T_throwAway 26 = .ok (.aload_n 0, 1) := by decide +kernel
theorem d_T_throwAway_27 : decode b_T_throwAway 27 = .ok (.aload_n 0, 1) := by decide +kernel
theorem d_T_throwAway_28 : decode b_T_throwAway 28 = .ok (.getfield 34, 3) := by decide +kernel
theorem d_T_throwAway_31 : decode b_T_throwAway 31 = .ok (.iload_n 1, 1) := by decide +kernel
theorem d_T_throwAway_32 : decode b_T_throwAway 32 = .ok (.iconst (-1), 1) := by decide +kernel
theorem d_T_throwAway_33 : decode b_T_throwAway 33 = .ok (.invokevirtual 38, 3) := by decide +kernel
theorem d_T_throwAway_36 : decode b_T_throwAway 36 = .ok (.iconst 1, 1) := by decide +kernel
theorem d_T_throwAway_37 : decode b_T_throwAway 37 = .ok (.ireturn, 1) := by decide +kernel
theorem hC_T_throwAway_23 (cI cZ cQ : ClassId) (q0 q1 q2 q3 q4 : Nat) (S0 : cT) : ([0, 1, 2, 3, 4] : List Nat).map (fun i => (wT cI cZ q0 q1 q2 q3 q4 S0 : va_W)[i]?) = (wT cI cZ q0 q1 q2 q3 q4 S0 : va_W).map some := rfl
theorem hU_T_throwAway_23 (cI cZ cQ : ClassId) (q0 q1 q2 q3 q4 : Nat) (S0 : cT) (R0 : cT) : vz_put (wT cI cZ q0 q1 q2 q3 q4 S0 : va_W) [0, 1, 2, 3, 4] (wT cI cZ q0 q1 q2 q3 q4 R0 : va_W) = wT cI cZ q0 q1 q2 q3 q4 R0 := (show vz_put ([(q0, .inr (0, [.ref q1, .ref q2, .ref q3, .ref q4, .int S0.2.2.2.2])), (q1, .inl (cZ, 40, .inl S0.1)), (q2, .inl (cI, 40, .inl S0.2.1)), (q3, .inl (cI, 40, .inl S0.2.2.1)), (q4, .inl (cI, 40, .inl S0.2.2.2.1))] : va_W) [0, 1, 2, 3, 4] ([(q0, .inr (0, [.ref q1, .ref q2, .ref q3, .ref q4, .int R0.2.2.2.2])), (q1, .inl (cZ, 40, .inl R0.1)), (q2, .inl (cI, 40, .inl R0.2.1)), (q3, .inl (cI, 40, .inl R0.2.2.1)), (q4, .inl (cI, 40, .inl R0.2.2.2.1))] : va_W) = [(q0, .inr (0, [.ref q1, .ref q2, .ref q3, .ref q4, .int R0.2.2.2.2])), (q1, .inl (cZ, 40, .inl R0.1)), (q2, .inl (cI, 40, .inl R0.2.1)), (q3, .inl (cI, 40, .inl R0.2.2.1)), (q4, .inl (cI, 40, .inl R0.2.2.2.1))] from rfl).trans rfl
theorem hC_T_throwAway_33 (cI cZ cQ : ClassId) (q0 q1 q2 q3 q4 : Nat) (S0 : cT) : ([0, 1, 2, 3, 4] : List Nat).map (fun i => (wT cI cZ q0 q1 q2 q3 q4 S0 : va_W)[i]?) = (wT cI cZ q0 q1 q2 q3 q4 S0 : va_W).map some := rfl
theorem hU_T_throwAway_33 (cI cZ cQ : ClassId) (q0 q1 q2 q3 q4 : Nat) (S0 : cT) (R0 : cT) : vz_put (wT cI cZ q0 q1 q2 q3 q4 S0 : va_W) [0, 1, 2, 3, 4] (wT cI cZ q0 q1 q2 q3 q4 R0 : va_W) = wT cI cZ q0 q1 q2 q3 q4 R0 := (show vz_put ([(q0, .inr (0, [.ref q1, .ref q2, .ref q3, .ref q4, .int S0.2.2.2.2])), (q1, .inl (cZ, 40, .inl S0.1)), (q2, .inl (cI, 40, .inl S0.2.1)), (q3, .inl (cI, 40, .inl S0.2.2.1)), (q4, .inl (cI, 40, .inl S0.2.2.2.1))] : va_W) [0, 1, 2, 3, 4] ([(q0, .inr (0, [.ref q1, .ref q2, .ref q3, .ref q4, .int R0.2.2.2.2])), (q1, .inl (cZ, 40, .inl R0.1)), (q2, .inl (cI, 40, .inl R0.2.1)), (q3, .inl (cI, 40, .inl R0.2.2.1)), (q4, .inl (cI, 40, .inl R0.2.2.2.1))] : va_W) = [(q0, .inr (0, [.ref q1, .ref q2, .ref q3, .ref q4, .int R0.2.2.2.2])), (q1, .inl (cZ, 40, .inl R0.1)), (q2, .inl (cI, 40, .inl R0.2.1)), (q3, .inl (cI, 40, .inl R0.2.2.1)), (q4, .inl (cI, 40, .inl R0.2.2.2.1))] from rfl).trans rfl
def m_T_throwAway (T : cT) (x1 : Int32) : Int32 × cT := (if (T.1 x1.toNatClampNeg) = 0 then (0, T) else (if (T.2.1 x1.toNatClampNeg) = (-1) then (0, T) else (1, (m_T_putAt (m_T_takeOut T x1) (m_T_takeOut T x1).2.2.2.2 x1 (-1)))))
set_option maxHeartbeats 1000000 in
set_option maxRecDepth 100000 in
theorem c_T_throwAway (l : Launch) (dC : Nat → ClassId) (dI : Nat → Nat → Nat) (cI cZ cQ : ClassId) (h0 : Nat) (a1 : Nat) (a2 : Nat) (a3 : Nat) (a4 : Nat) (T : cT) (x1 : Int32) (hok : okT T) (h1 : 0 ≤ x1.toInt ∧ x1.toInt < 40) : vz_C l (dC, dI) classes [(cI, .int), (cZ, .boolean), (cQ, .object "BinTrees$Person")] y_T_throwAway (Cond.code y_T_throwAway b_T_throwAway 2 (some .boolean) :: vz_tbl) ({ frames := 1, cells := 0, slots := 0, locals := 24 }) [.ref h0, .int x1] (wT cI cZ h0 a1 a2 a3 a4 T) (some (.int ((m_T_throwAway T x1).1))) (wT cI cZ h0 a1 a2 a3 a4 ((m_T_throwAway T x1).2)) := by
  generalize hres : (m_T_throwAway T x1) = RES
  refine vz_C.of (by decide) (Nat.le_of_ble_eq_true rfl) ?_
  intro p e s m below meth c ls E hl hK hP hD hS
  obtain ⟨hx, hb, hr, hml, hown, hT, hlocks⟩ := E
  obtain ⟨Q, hQ⟩ : ∃ Q, Q = MQ below (vz_Q (dC, dI) classes (wT cI cZ h0 a1 a2 a3 a4 T) (some (.int RES.1)) (wT cI cZ h0 a1 a2 a3 a4 RES.2)) ([.ref h0, .int x1] : List Value).toArray s 0 0 (vz_A (wT cI cZ h0 a1 a2 a3 a4 T)) := ⟨_, rfl⟩
  rw [← hQ]
  have hl : lv_has ls 2 [(0, .ref h0), (1, .int x1)] := hl
  have T0 := ti_0
  have T1 := ti_1
  have Tm := ti_m1
  have T8 := ti_8
  have T39 := ti_39
  have T40 := ti_40
  have T4 := ti_4
  have T300 := ti_300
  have hS0 := hS
  refine lv_aload_n hx hb d_T_throwAway_0 rfl (lv_at hl 0 rfl) ?_
  refine va_get (D := (dC, dI)) (ci := 0) (v := .ref a1) (C := R_T) (T := F_T) (N := 5) hx hb hT i_T hown hK hP 0 rfl rfl 0 (by decide) (hT _ kw_90) (fun _ h9 => h9) rfl d_T_throwAway_1 ?_
  refine lv_iload_n hx hb d_T_throwAway_4 rfl (lv_at hl 1 rfl) ?_
  refine va_zald hx hb hK hP 1 1 rfl rfl (ti_vp (by omega) (by omega)) d_T_throwAway_5 ?_
  refine lv_if_eq (tgt := 19) hx hb d_T_throwAway_6 (by decide) (fun c_6 => ?_) (fun c_6 => ?_)
  · have z_6 := congrArg Int32.toInt c_6
    refine lv_iconst (v := 0) hx hb d_T_throwAway_19 (by decide) ?_
    rw [m_T_throwAway, if_pos c_6] at hres
    subst hres
    subst hQ
    exact vz_zret hx hb hr (by decide) hlocks d_T_throwAway_20 hS rfl hP
  · have z_6 := mt Int32.toInt_inj.mp c_6
    refine lv_aload_n hx hb d_T_throwAway_9 rfl (lv_at hl 0 rfl) ?_
    refine va_get (D := (dC, dI)) (ci := 0) (v := .ref a2) (C := R_T) (T := F_T) (N := 5) hx hb hT i_T hown hK hP 0 rfl rfl 1 (by decide) (hT _ kw_92) (fun _ h9 => h9) rfl d_T_throwAway_10 ?_
    refine lv_iload_n hx hb d_T_throwAway_13 rfl (lv_at hl 1 rfl) ?_
    refine va_iald hx hb hK hP 2 0 rfl rfl (ti_vp (by omega) (by omega)) d_T_throwAway_14 ?_
    refine lv_iconst (v := -1) hx hb d_T_throwAway_15 (by decide) ?_
    refine lv_icmp_ne (tgt := 21) hx hb d_T_throwAway_16 (by decide) (fun c_16 => ?_) (fun c_16 => ?_)
    · have z_16 := mt Int32.toInt_inj.mp c_16
      refine lv_aload_n hx hb d_T_throwAway_21 rfl (lv_at hl 0 rfl) ?_
      refine lv_iload_n hx hb d_T_throwAway_22 rfl (lv_at hl 1 rfl) ?_
      have hc := c_T_takeOut l dC dI cI cZ cQ h0 a1 a2 a3 a4 T x1 (ok_le hok)
      generalize hg_23 : (m_T_takeOut T x1) = g_23 at hc
      refine vz_callV (As := [.int x1]) (rest := []) ⟨hx, hb, hml, hown, hT⟩ hc (vz_goodV kw_205 kw_207 ks_7 kw_4 kw_208) ⟨rfl, hd_T_takeOut⟩ ⟨⟨rfl, rfl⟩, Nat.le_of_ble_eq_true rfl, Nat.le_of_ble_eq_true rfl⟩ hK hP hD hS [0, 1, 2, 3, 4] rfl (hC_T_throwAway_23 cI cZ cQ h0 a1 a2 a3 a4 T) (hF_T_takeOut cI cZ cQ _ _) 0 0 rfl rfl rfl rfl hl.1 rfl (Nat.le_of_ble_eq_true rfl) ⟨Nat.zero_le _, Nat.zero_le _⟩ d_T_throwAway_23 (fun H locs hP hD hS => ?_)
      have hP : va_P (dC, dI) classes (wT cI cZ h0 a1 a2 a3 a4 g_23) H := vz_reP (hU_T_throwAway_23 cI cZ cQ h0 a1 a2 a3 a4 T g_23) hP
      have hD : va_D (vz_A (wT cI cZ h0 a1 a2 a3 a4 T)) (wT cI cZ h0 a1 a2 a3 a4 g_23) := vz_reD (hU_T_throwAway_23 cI cZ cQ h0 a1 a2 a3 a4 T g_23) hD
      have ok1 : okT g_23 := by rw [← hg_23]; exact to_ok' hok
      refine W.eq (g2 := F0 m 26 ls []) rfl ?_
      refine lv_aload_n hx hb d_T_throwAway_26 rfl (lv_at hl 0 rfl) ?_
      refine lv_aload_n hx hb d_T_throwAway_27 rfl (lv_at hl 0 rfl) ?_
      refine va_get (D := (dC, dI)) (ci := 0) (v := .int g_23.2.2.2.2) (C := R_T) (T := F_T) (N := 5) hx hb hT i_T hown hK hP 0 rfl rfl 4 (by decide) (hT _ kw_97) (fun _ h9 => h9) rfl d_T_throwAway_28 ?_
      refine lv_iload_n hx hb d_T_throwAway_31 rfl (lv_at hl 1 rfl) ?_
      refine lv_iconst (v := -1) hx hb d_T_throwAway_32 (by decide) ?_
      have hc := c_T_putAt l dC dI cI cZ cQ h0 a1 a2 a3 a4 g_23 g_23.2.2.2.2 x1 (-1) (ok_lt ok1) (by have := ok1.2.2.1; omega) (h1)
      generalize hg_33 : (m_T_putAt g_23 g_23.2.2.2.2 x1 (-1)) = g_33 at hc
      refine vz_callV (As := [.int g_23.2.2.2.2, .int x1, .int (-1)]) (rest := []) ⟨hx, hb, hml, hown, hT⟩ hc (vz_goodV kw_189 kw_191 ks_5 kw_4 kw_192) ⟨rfl, hd_T_putAt⟩ ⟨⟨rfl, rfl⟩, Nat.le_of_ble_eq_true rfl, Nat.le_of_ble_eq_true rfl⟩ hK hP hD hS [0, 1, 2, 3, 4] rfl (hC_T_throwAway_33 cI cZ cQ h0 a1 a2 a3 a4 g_23) (hF_T_putAt cI cZ cQ _ _) 0 0 rfl rfl rfl rfl hl.1 rfl (Nat.le_of_ble_eq_true rfl) ⟨Nat.zero_le _, Nat.zero_le _⟩ d_T_throwAway_33 (fun H locs hP hD hS => ?_)
      have hP : va_P (dC, dI) classes (wT cI cZ h0 a1 a2 a3 a4 g_33) H := vz_reP (hU_T_throwAway_33 cI cZ cQ h0 a1 a2 a3 a4 g_23 g_33) hP
      have hD : va_D (vz_A (wT cI cZ h0 a1 a2 a3 a4 T)) (wT cI cZ h0 a1 a2 a3 a4 g_33) := vz_reD (hU_T_throwAway_33 cI cZ cQ h0 a1 a2 a3 a4 g_23 g_33) hD
      refine W.eq (g2 := F0 m 36 ls []) rfl ?_
      refine lv_iconst (v := 1) hx hb d_T_throwAway_36 (by decide) ?_
      rw [m_T_throwAway, if_neg c_6, if_neg c_16] at hres
      try rw [hg_23] at hres
      try rw [hg_33] at hres
      subst hres
      subst hQ
      exact vz_zret hx hb hr (by decide) hlocks d_T_throwAway_37 hS rfl hP
    · have z_16 := congrArg Int32.toInt c_16
      refine lv_iconst (v := 0) hx hb d_T_throwAway_19 (by decide) ?_
      rw [m_T_throwAway, if_neg c_6, if_pos c_16] at hres
      subst hres
      subst hQ
      exact vz_zret hx hb hr (by decide) hlocks d_T_throwAway_20 hS rfl hP
end
section
theorem d_T_bringBack_0 : decode b_T_bringBack 0 = .ok (.aload_n 0, 1) := by decide +kernel
theorem d_T_bringBack_1 : decode b_T_bringBack 1 = .ok (.getfield 9, 3) := by decide +kernel
theorem d_T_bringBack_4 : decode b_T_bringBack 4 = .ok (.iload_n 1, 1) := by decide +kernel
theorem d_T_bringBack_5 : decode b_T_bringBack 5 = .ok (.baload, 1) := by decide +kernel
theorem d_T_bringBack_6 : decode b_T_bringBack 6 = .ok (.ifCond .eq 13, 3) := by decide +kernel
theorem d_T_bringBack_9 : decode b_T_bringBack 9 = .ok (.aload_n 0, 1) := by decide +kernel
theorem d_T_bringBack_10 : decode b_T_bringBack 10 = .ok (.getfield 15, 3) := by decide +kernel
theorem d_T_bringBack_13 : decode b_T_bringBack 13 = .ok (.iload_n 1, 1) := by decide +kernel
theorem d_T_bringBack_14 : decode b_T_bringBack 14 = .ok (.iaload, 1) := by decide +kernel
theorem d_T_bringBack_15 : decode b_T_bringBack 15 = .ok (.iconst (-1), 1) := by decide +kernel
theorem d_T_bringBack_16 : decode b_T_bringBack 16 = .ok (.if_icmp .eq 5, 3) := by decide +kernel
theorem d_T_bringBack_19 : decode b_T_bringBack 19 = .ok (.iconst 0, 1) := by decide +kernel
theorem d_T_bringBack_20 : decode b_T_bringBack 20 = .ok (.ireturn, 1) := by decide +kernel
theorem d_T_bringBack_21 : decode b_T_bringBack 21 = .ok (.aload_n 0, 1) := by decide +kernel
theorem d_T_bringBack_22 : decode b_T_bringBack 22 = .ok (.iload_n 1, 1) := by decide +kernel
theorem d_T_bringBack_23 : decode b_T_bringBack 23 = .ok (.aload_n 0, 1) := by decide +kernel
theorem d_T_bringBack_24 : decode b_T_bringBack 24 = .ok (.getfield 19, 3) := by decide +kernel
theorem d_T_bringBack_27 : decode b_T_bringBack 27 = .ok (.iload_n 1, 1) := by decide +kernel
theorem d_T_bringBack_28 : decode b_T_bringBack 28 = .ok (.iaload, 1) := by decide +kernel
theorem d_T_bringBack_29 : decode b_T_bringBack 29 = .ok (.invokevirtual 42, 3) := by decide +kernel
theorem d_T_bringBack_32 : decode b_T_bringBack 32 = .ok (.ifCond .eq 12, 3) := by decide +kernel
theorem d_T_bringBack_35 : decode b_T_bringBack 35 = .ok (.aload_n 0, 1) := by decide +kernel
theorem d_T_bringBack_36 : decode b_T_bringBack 36 = .ok (.getfield 19, 3) := by decide +kernel
theorem d_T_bringBack_39 : decode b_T_bringBack 39 = .ok (.iload_n 1, 1) := by decide +kernel
theorem d_T_bringBack_40 : decode b_T_bringBack 40 = .ok (.iaload, 1) := by decide +kernel
theorem d_T_bringBack_41 : decode b_T_bringBack 41 = .ok (.goto 4, 3) := by decide +kernel
theorem d_T_bringBack_44 : decode b_T_bringBack 44 = .ok (.iconst 0, 1) := by decide +kernel
theorem d_T_bringBack_45 : decode b_T_bringBack 45 = .ok (.istore_n 2, 1) := by decide +kernel
theorem d_T_bringBack_46 : decode b_T_bringBack 46 = .ok (.aload_n 0, 1) := by decide +kernel
theorem d_T_bringBack_47 : decode b_T_bringBack 47 = .ok (.iload_n 1, 1) := by decide +kernel
theorem d_T_bringBack_48 : decode b_T_bringBack 48 = .ok (.iload_n 2, 1) := by decide +kernel
theorem d_T_bringBack_49 : decode b_T_bringBack 49 = .ok (.invokevirtual 42, 3) := by decide +kernel
theorem d_T_bringBack_52 : decode b_T_bringBack 52 = .ok (.ifCond .ne 5, 3) := by decide +kernel
theorem d_T_bringBack_55 : decode b_T_bringBack 55 = .ok (.iconst 0, 1) := by decide +kernel
theorem d_T_bringBack_56 : decode b_T_bringBack 56 = .ok (.ireturn, 1) := by decide +kernel
theorem d_T_bringBack_57 : decode b_T_bringBack 57 = .ok (.aload_n 0, 1) := by decide +kernel
theorem d_T_bringBack_58 : decode b_T_bringBack 58 = .ok (.iload_n 1, 1) := by decide +kernel
theorem d_T_bringBack_59 : decode b_T_bringBack 59 = .ok (.invokevirtual 46, 3) := by decide +kernel
theorem d_T_bringBack_62 : decode b_T_bringBack 62 = .ok (.aload_n 0, 1) := by decide +kernel
theorem d_T_bringBack_63 : decode b_T_bringBack 63 = .ok (.aload_n 0, 1) := by decide +kernel
theorem d_T_bringBack_64 : decode b_T_bringBack 64 = .ok (.getfield 34, 3) := by decide +kernel
theorem d_T_bringBack_67 : decode b_T_bringBack 67 = .ok (.iload_n 1, 1) := by decide +kernel
theorem d_T_bringBack_68 : decode b_T_bringBack 68 = .ok (.iload_n 2, 1) := by decide +kernel
theorem d_T_bringBack_69 : decode b_T_bringBack 69 = .ok (.invokevirtual 38, 3) := by decide +kernel
theorem d_T_bringBack_72 : decode b_T_bringBack 72 = .ok (.aload_n 0, 1) := by decide +kernel
theorem d_T_bringBack_73 : decode b_T_bringBack 73 = .ok (.getfield 19, 3) := by decide +kernel
theorem d_T_bringBack_76 : decode b_T_bringBack 76 = .ok (.iload_n 1, 1) := by decide +kernel
theorem d_T_bringBack_77 : decode b_T_bringBack 77 = .ok (.iload_n 2, 1) := by decide +kernel
theorem d_T_bringBack_78 : decode b_T_bringBack 78 = .ok (.iastore, 1) := by decide +kernel
theorem d_T_bringBack_79 : decode b_T_bringBack 79 = .ok (.iconst 1, 1) := by decide +kernel
theorem d_T_bringBack_80 : decode b_T_bringBack 80 = .ok (.ireturn, 1) := by decide +kernel
theorem hC_T_bringBack_49 (cI cZ cQ : ClassId) (q0 q1 q2 q3 q4 : Nat) (S0 : cT) : ([0, 1, 2, 3, 4] : List Nat).map (fun i => (wT cI cZ q0 q1 q2 q3 q4 S0 : va_W)[i]?) = (wT cI cZ q0 q1 q2 q3 q4 S0 : va_W).map some := rfl
theorem hU_T_bringBack_49 (cI cZ cQ : ClassId) (q0 q1 q2 q3 q4 : Nat) (S0 : cT)  : vz_put (wT cI cZ q0 q1 q2 q3 q4 S0 : va_W) [0, 1, 2, 3, 4] (wT cI cZ q0 q1 q2 q3 q4 S0 : va_W) = wT cI cZ q0 q1 q2 q3 q4 S0 := (show vz_put ([(q0, .inr (0, [.ref q1, .ref q2, .ref q3, .ref q4, .int S0.2.2.2.2])), (q1, .inl (cZ, 40, .inl S0.1)), (q2, .inl (cI, 40, .inl S0.2.1)), (q3, .inl (cI, 40, .inl S0.2.2.1)), (q4, .inl (cI, 40, .inl S0.2.2.2.1))] : va_W) [0, 1, 2, 3, 4] ([(q0, .inr (0, [.ref q1, .ref q2, .ref q3, .ref q4, .int S0.2.2.2.2])), (q1, .inl (cZ, 40, .inl S0.1)), (q2, .inl (cI, 40, .inl S0.2.1)), (q3, .inl (cI, 40, .inl S0.2.2.1)), (q4, .inl (cI, 40, .inl S0.2.2.2.1))] : va_W) = [(q0, .inr (0, [.ref q1, .ref q2, .ref q3, .ref q4, .int S0.2.2.2.2])), (q1, .inl (cZ, 40, .inl S0.1)), (q2, .inl (cI, 40, .inl S0.2.1)), (q3, .inl (cI, 40, .inl S0.2.2.1)), (q4, .inl (cI, 40, .inl S0.2.2.2.1))] from rfl).trans rfl
theorem hC_T_bringBack_59 (cI cZ cQ : ClassId) (q0 q1 q2 q3 q4 : Nat) (S0 : cT) : ([0, 1, 2, 3, 4] : List Nat).map (fun i => (wT cI cZ q0 q1 q2 q3 q4 S0 : va_W)[i]?) = (wT cI cZ q0 q1 q2 q3 q4 S0 : va_W).map some := rfl
theorem hU_T_bringBack_59 (cI cZ cQ : ClassId) (q0 q1 q2 q3 q4 : Nat) (S0 : cT) (R0 : cT) : vz_put (wT cI cZ q0 q1 q2 q3 q4 S0 : va_W) [0, 1, 2, 3, 4] (wT cI cZ q0 q1 q2 q3 q4 R0 : va_W) = wT cI cZ q0 q1 q2 q3 q4 R0 := (show vz_put ([(q0, .inr (0, [.ref q1, .ref q2, .ref q3, .ref q4, .int S0.2.2.2.2])), (q1, .inl (cZ, 40, .inl S0.1)), (q2, .inl (cI, 40, .inl S0.2.1)), (q3, .inl (cI, 40, .inl S0.2.2.1)), (q4, .inl (cI, 40, .inl S0.2.2.2.1))] : va_W) [0, 1, 2, 3, 4] ([(q0, .inr (0, [.ref q1, .ref q2, .ref q3, .ref q4, .int R0.2.2.2.2])), (q1, .inl (cZ, 40, .inl R0.1)), (q2, .inl (cI, 40, .inl R0.2.1)), (q3, .inl (cI, 40, .inl R0.2.2.1)), (q4, .inl (cI, 40, .inl R0.2.2.2.1))] : va_W) = [(q0, .inr (0, [.ref q1, .ref q2, .ref q3, .ref q4, .int R0.2.2.2.2])), (q1, .inl (cZ, 40, .inl R0.1)), (q2, .inl (cI, 40, .inl R0.2.1)), (q3, .inl (cI, 40, .inl R0.2.2.1)), (q4, .inl (cI, 40, .inl R0.2.2.2.1))] from rfl).trans rfl
theorem hC_T_bringBack_69 (cI cZ cQ : ClassId) (q0 q1 q2 q3 q4 : Nat) (S0 : cT) : ([0, 1, 2, 3, 4] : List Nat).map (fun i => (wT cI cZ q0 q1 q2 q3 q4 S0 : va_W)[i]?) = (wT cI cZ q0 q1 q2 q3 q4 S0 : va_W).map some := rfl
theorem hU_T_bringBack_69 (cI cZ cQ : ClassId) (q0 q1 q2 q3 q4 : Nat) (S0 : cT) (R0 : cT) : vz_put (wT cI cZ q0 q1 q2 q3 q4 S0 : va_W) [0, 1, 2, 3, 4] (wT cI cZ q0 q1 q2 q3 q4 R0 : va_W) = wT cI cZ q0 q1 q2 q3 q4 R0 := (show vz_put ([(q0, .inr (0, [.ref q1, .ref q2, .ref q3, .ref q4, .int S0.2.2.2.2])), (q1, .inl (cZ, 40, .inl S0.1)), (q2, .inl (cI, 40, .inl S0.2.1)), (q3, .inl (cI, 40, .inl S0.2.2.1)), (q4, .inl (cI, 40, .inl S0.2.2.2.1))] : va_W) [0, 1, 2, 3, 4] ([(q0, .inr (0, [.ref q1, .ref q2, .ref q3, .ref q4, .int R0.2.2.2.2])), (q1, .inl (cZ, 40, .inl R0.1)), (q2, .inl (cI, 40, .inl R0.2.1)), (q3, .inl (cI, 40, .inl R0.2.2.1)), (q4, .inl (cI, 40, .inl R0.2.2.2.1))] : va_W) = [(q0, .inr (0, [.ref q1, .ref q2, .ref q3, .ref q4, .int R0.2.2.2.2])), (q1, .inl (cZ, 40, .inl R0.1)), (q2, .inl (cI, 40, .inl R0.2.1)), (q3, .inl (cI, 40, .inl R0.2.2.1)), (q4, .inl (cI, 40, .inl R0.2.2.2.1))] from rfl).trans rfl
theorem hW_T_bringBack_78 (cI cZ cQ : ClassId) (q0 q1 q2 q3 q4 : Nat) (S0 : cT) (v : cA) : (wT cI cZ q0 q1 q2 q3 q4 S0 : va_W).set 3 (q3, .inl (cI, 40, .inl v)) = wT cI cZ q0 q1 q2 q3 q4 (S0.1, S0.2.1, v, S0.2.2.2.1, S0.2.2.2.2) := rfl
theorem hC_T_bringBack_29 (cI cZ cQ : ClassId) (q0 q1 q2 q3 q4 : Nat) (S0 : cT) : ([0, 1, 2, 3, 4] : List Nat).map (fun i => (wT cI cZ q0 q1 q2 q3 q4 S0 : va_W)[i]?) = (wT cI cZ q0 q1 q2 q3 q4 S0 : va_W).map some := rfl
theorem hU_T_bringBack_29 (cI cZ cQ : ClassId) (q0 q1 q2 q3 q4 : Nat) (S0 : cT)  : vz_put (wT cI cZ q0 q1 q2 q3 q4 S0 : va_W) [0, 1, 2, 3, 4] (wT cI cZ q0 q1 q2 q3 q4 S0 : va_W) = wT cI cZ q0 q1 q2 q3 q4 S0 := (show vz_put ([(q0, .inr (0, [.ref q1, .ref q2, .ref q3, .ref q4, .int S0.2.2.2.2])), (q1, .inl (cZ, 40, .inl S0.1)), (q2, .inl (cI, 40, .inl S0.2.1)), (q3, .inl (cI, 40, .inl S0.2.2.1)), (q4, .inl (cI, 40, .inl S0.2.2.2.1))] : va_W) [0, 1, 2, 3, 4] ([(q0, .inr (0, [.ref q1, .ref q2, .ref q3, .ref q4, .int S0.2.2.2.2])), (q1, .inl (cZ, 40, .inl S0.1)), (q2, .inl (cI, 40, .inl S0.2.1)), (q3, .inl (cI, 40, .inl S0.2.2.1)), (q4, .inl (cI, 40, .inl S0.2.2.2.1))] : va_W) = [(q0, .inr (0, [.ref q1, .ref q2, .ref q3, .ref q4, .int S0.2.2.2.2])), (q1, .inl (cZ, 40, .inl S0.1)), (q2, .inl (cI, 40, .inl S0.2.1)), (q3, .inl (cI, 40, .inl S0.2.2.1)), (q4, .inl (cI, 40, .inl S0.2.2.2.1))] from rfl).trans rfl
def l_T_bringBack_45 (T : cT) (x1 : Int32) (y : Int32) : Int32 × cT := (if (m_T_mayLie T x1 y) = 0 then (0, T) else (1, ((m_T_putAt (m_T_takeOut T x1) (m_T_takeOut T x1).2.2.2.2 x1 y).1, (m_T_putAt (m_T_takeOut T x1) (m_T_takeOut T x1).2.2.2.2 x1 y).2.1, upd (m_T_putAt (m_T_takeOut T x1) (m_T_takeOut T x1).2.2.2.2 x1 y).2.2.1 x1.toNatClampNeg y, (m_T_putAt (m_T_takeOut T x1) (m_T_takeOut T x1).2.2.2.2 x1 y).2.2.2.1, (m_T_putAt (m_T_takeOut T x1) (m_T_takeOut T x1).2.2.2.2 x1 y).2.2.2.2)))
def m_T_bringBack (T : cT) (x1 : Int32) : Int32 × cT := (if (T.1 x1.toNatClampNeg) = 0 then (0, T) else (if (T.2.1 x1.toNatClampNeg) = (-1) then (if (m_T_mayLie T x1 (T.2.2.1 x1.toNatClampNeg)) = 0 then (l_T_bringBack_45 T x1 0) else (l_T_bringBack_45 T x1 (T.2.2.1 x1.toNatClampNeg))) else (0, T)))
set_option maxHeartbeats 1000000 in
set_option maxRecDepth 100000 in
theorem c_T_bringBack (l : Launch) (dC : Nat → ClassId) (dI : Nat → Nat → Nat) (cI cZ cQ : ClassId) (h0 : Nat) (a1 : Nat) (a2 : Nat) (a3 : Nat) (a4 : Nat) (T : cT) (x1 : Int32) (hok : okT T) (h1 : 1 ≤ x1.toInt ∧ x1.toInt < 40) : vz_C l (dC, dI) classes [(cI, .int), (cZ, .boolean), (cQ, .object "BinTrees$Person")] y_T_bringBack (Cond.code y_T_bringBack b_T_bringBack 3 (some .boolean) :: vz_tbl) ({ frames := 2, cells := 0, slots := 0, locals := 49 }) [.ref h0, .int x1] (wT cI cZ h0 a1 a2 a3 a4 T) (some (.int ((m_T_bringBack T x1).1))) (wT cI cZ h0 a1 a2 a3 a4 ((m_T_bringBack T x1).2)) := by
  generalize hres : (m_T_bringBack T x1) = RES
  refine vz_C.of (by decide) (Nat.le_of_ble_eq_true rfl) ?_
  intro p e s m below meth c ls E hl hK hP hD hS
  obtain ⟨hx, hb, hr, hml, hown, hT, hlocks⟩ := E
  obtain ⟨Q, hQ⟩ : ∃ Q, Q = MQ below (vz_Q (dC, dI) classes (wT cI cZ h0 a1 a2 a3 a4 T) (some (.int RES.1)) (wT cI cZ h0 a1 a2 a3 a4 RES.2)) ([.ref h0, .int x1] : List Value).toArray s 0 0 (vz_A (wT cI cZ h0 a1 a2 a3 a4 T)) := ⟨_, rfl⟩
  rw [← hQ]
  have hl : lv_has ls 3 [(0, .ref h0), (1, .int x1)] := hl
  have T0 := ti_0
  have T1 := ti_1
  have Tm := ti_m1
  have T8 := ti_8
  have T39 := ti_39
  have T40 := ti_40
  have T4 := ti_4
  have T300 := ti_300
  have hw := hok.2.2.2.2 x1.toNatClampNeg (by have : x1.toNatClampNeg = x1.toInt.toNat := rfl; omega) (ti_ix (by omega) (by omega))
  have k_45 : ∀  (y : Int32), l_T_bringBack_45 T x1  y = RES → (0 ≤ y.toInt ∧ y.toInt < 40) → ∀ (H : Heap) (locs : List Loc) (ls : Array Slot), va_P (dC, dI) classes (wT cI cZ h0 a1 a2 a3 a4 T) H → va_D (vz_A (wT cI cZ h0 a1 a2 a3 a4 T)) (wT cI cZ h0 a1 a2 a3 a4 T) → va_S (vz_A (wT cI cZ h0 a1 a2 a3 a4 T)) s.heap H locs → lv_has ls 3 [(0, .ref h0), (1, .int x1)] → W p l e ({ frames := 2, cells := 0, slots := 0, locals := 49 }) s m ([.ref h0, .int x1] : List Value).toArray below meth c H locs 0 0 Q (F0 m 45 ls [.int y]) := by
    intro y hres hy H locs ls hP hD hS hl
    refine lv_istore_n (lv' := [(2, .int y), (0, .ref h0), (1, .int x1)]) hx hb d_T_bringBack_45 rfl hl (by decide) rfl (fun ls hl => ?_)
    refine lv_aload_n hx hb d_T_bringBack_46 rfl (lv_at hl 1 rfl) ?_
    refine lv_iload_n hx hb d_T_bringBack_47 rfl (lv_at hl 2 rfl) ?_
    refine lv_iload_n hx hb d_T_bringBack_48 rfl (lv_at hl 0 rfl) ?_
    have hc := c_T_mayLie l dC dI cI cZ cQ h0 a1 a2 a3 a4 T x1 y (hok) (by omega) (hy)
    generalize hg_49 : (m_T_mayLie T x1 y) = g_49 at hc
    refine vz_callV (As := [.int x1, .int y]) (rest := []) ⟨hx, hb, hml, hown, hT⟩ hc (vz_goodV kw_197 kw_199 ks_6 kw_4 kw_200) ⟨rfl, hd_T_mayLie⟩ ⟨⟨rfl, rfl⟩, Nat.le_of_ble_eq_true rfl, Nat.le_of_ble_eq_true rfl⟩ hK hP hD hS [0, 1, 2, 3, 4] rfl (hC_T_bringBack_49 cI cZ cQ h0 a1 a2 a3 a4 T) (hF_T_mayLie cI cZ cQ _ _) 0 0 rfl rfl rfl rfl hl.1 rfl (Nat.le_of_ble_eq_true rfl) ⟨Nat.zero_le _, Nat.zero_le _⟩ d_T_bringBack_49 (fun H locs hP hD hS => ?_)
    have hP : va_P (dC, dI) classes (wT cI cZ h0 a1 a2 a3 a4 T) H := vz_reP (hU_T_bringBack_49 cI cZ cQ h0 a1 a2 a3 a4 T ) hP
    have hD : va_D (vz_A (wT cI cZ h0 a1 a2 a3 a4 T)) (wT cI cZ h0 a1 a2 a3 a4 T) := vz_reD (hU_T_bringBack_49 cI cZ cQ h0 a1 a2 a3 a4 T ) hD
    refine W.eq (g2 := F0 m 52 ls [.int g_49]) rfl ?_
    refine lv_if_ne (tgt := 57) hx hb d_T_bringBack_52 (by decide) (fun c_52 => ?_) (fun c_52 => ?_)
    · have z_52 := mt Int32.toInt_inj.mp c_52
      refine lv_aload_n hx hb d_T_bringBack_57 rfl (lv_at hl 1 rfl) ?_
      refine lv_iload_n hx hb d_T_bringBack_58 rfl (lv_at hl 2 rfl) ?_
      have hc := c_T_takeOut l dC dI cI cZ cQ h0 a1 a2 a3 a4 T x1 (ok_le hok)
      generalize hg_59 : (m_T_takeOut T x1) = g_59 at hc
      refine vz_callV (As := [.int x1]) (rest := []) ⟨hx, hb, hml, hown, hT⟩ hc (vz_goodV kw_205 kw_207 ks_7 kw_4 kw_208) ⟨rfl, hd_T_takeOut⟩ ⟨⟨rfl, rfl⟩, Nat.le_of_ble_eq_true rfl, Nat.le_of_ble_eq_true rfl⟩ hK hP hD hS [0, 1, 2, 3, 4] rfl (hC_T_bringBack_59 cI cZ cQ h0 a1 a2 a3 a4 T) (hF_T_takeOut cI cZ cQ _ _) 0 0 rfl rfl rfl rfl hl.1 rfl (Nat.le_of_ble_eq_true rfl) ⟨Nat.zero_le _, Nat.zero_le _⟩ d_T_bringBack_59 (fun H locs hP hD hS => ?_)
      have hP : va_P (dC, dI) classes (wT cI cZ h0 a1 a2 a3 a4 g_59) H := vz_reP (hU_T_bringBack_59 cI cZ cQ h0 a1 a2 a3 a4 T g_59) hP
      have hD : va_D (vz_A (wT cI cZ h0 a1 a2 a3 a4 T)) (wT cI cZ h0 a1 a2 a3 a4 g_59) := vz_reD (hU_T_bringBack_59 cI cZ cQ h0 a1 a2 a3 a4 T g_59) hD
      have ok1 : okT g_59 := by rw [← hg_59]; exact to_ok' hok
      refine W.eq (g2 := F0 m 62 ls []) rfl ?_
      refine lv_aload_n hx hb d_T_bringBack_62 rfl (lv_at hl 1 rfl) ?_
      refine lv_aload_n hx hb d_T_bringBack_63 rfl (lv_at hl 1 rfl) ?_
      refine va_get (D := (dC, dI)) (ci := 0) (v := .int g_59.2.2.2.2) (C := R_T) (T := F_T) (N := 5) hx hb hT i_T hown hK hP 0 rfl rfl 4 (by decide) (hT _ kw_97) (fun _ h9 => h9) rfl d_T_bringBack_64 ?_
      refine lv_iload_n hx hb d_T_bringBack_67 rfl (lv_at hl 2 rfl) ?_
      refine lv_iload_n hx hb d_T_bringBack_68 rfl (lv_at hl 0 rfl) ?_
      have hc := c_T_putAt l dC dI cI cZ cQ h0 a1 a2 a3 a4 g_59 g_59.2.2.2.2 x1 y (ok_lt ok1) (by have := ok1.2.2.1; omega) (by omega)
      generalize hg_69 : (m_T_putAt g_59 g_59.2.2.2.2 x1 y) = g_69 at hc
      refine vz_callV (As := [.int g_59.2.2.2.2, .int x1, .int y]) (rest := []) ⟨hx, hb, hml, hown, hT⟩ hc (vz_goodV kw_189 kw_191 ks_5 kw_4 kw_192) ⟨rfl, hd_T_putAt⟩ ⟨⟨rfl, rfl⟩, Nat.le_of_ble_eq_true rfl, Nat.le_of_ble_eq_true rfl⟩ hK hP hD hS [0, 1, 2, 3, 4] rfl (hC_T_bringBack_69 cI cZ cQ h0 a1 a2 a3 a4 g_59) (hF_T_putAt cI cZ cQ _ _) 0 0 rfl rfl rfl rfl hl.1 rfl (Nat.le_of_ble_eq_true rfl) ⟨Nat.zero_le _, Nat.zero_le _⟩ d_T_bringBack_69 (fun H locs hP hD hS => ?_)
      have hP : va_P (dC, dI) classes (wT cI cZ h0 a1 a2 a3 a4 g_69) H := vz_reP (hU_T_bringBack_69 cI cZ cQ h0 a1 a2 a3 a4 g_59 g_69) hP
      have hD : va_D (vz_A (wT cI cZ h0 a1 a2 a3 a4 T)) (wT cI cZ h0 a1 a2 a3 a4 g_69) := vz_reD (hU_T_bringBack_69 cI cZ cQ h0 a1 a2 a3 a4 g_59 g_69) hD
      refine W.eq (g2 := F0 m 72 ls []) rfl ?_
      refine lv_aload_n hx hb d_T_bringBack_72 rfl (lv_at hl 1 rfl) ?_
      refine va_get (D := (dC, dI)) (ci := 0) (v := .ref a3) (C := R_T) (T := F_T) (N := 5) hx hb hT i_T hown hK hP 0 rfl rfl 2 (by decide) (hT _ kw_94) (fun _ h9 => h9) rfl d_T_bringBack_73 ?_
      refine lv_iload_n hx hb d_T_bringBack_76 rfl (lv_at hl 2 rfl) ?_
      refine lv_iload_n hx hb d_T_bringBack_77 rfl (lv_at hl 0 rfl) ?_
      refine va_iast hx hb hK hP hD hS 3 0 rfl rfl (ti_vp (by omega) (by omega)) d_T_bringBack_78 (fun H locs hP hD hS => ?_)
      have hP : va_P (dC, dI) classes (wT cI cZ h0 a1 a2 a3 a4 (g_69.1, g_69.2.1, upd g_69.2.2.1 x1.toNatClampNeg y, g_69.2.2.2.1, g_69.2.2.2.2)) H := vz_reP (hW_T_bringBack_78 cI cZ cQ h0 a1 a2 a3 a4 g_69 (upd g_69.2.2.1 x1.toNatClampNeg y)) hP
      have hD : va_D (vz_A (wT cI cZ h0 a1 a2 a3 a4 T)) (wT cI cZ h0 a1 a2 a3 a4 (g_69.1, g_69.2.1, upd g_69.2.2.1 x1.toNatClampNeg y, g_69.2.2.2.1, g_69.2.2.2.2)) := vz_reD (hW_T_bringBack_78 cI cZ cQ h0 a1 a2 a3 a4 g_69 (upd g_69.2.2.1 x1.toNatClampNeg y)) hD
      refine lv_iconst (v := 1) hx hb d_T_bringBack_79 (by decide) ?_
      rw [l_T_bringBack_45] at hres
      try rw [hg_49] at hres
      rw [if_neg c_52] at hres
      try rw [hg_59] at hres
      try rw [hg_69] at hres
      subst hres
      subst hQ
      exact vz_zret hx hb hr (by decide) hlocks d_T_bringBack_80 hS rfl hP
    · have z_52 := congrArg Int32.toInt c_52
      refine lv_iconst (v := 0) hx hb d_T_bringBack_55 (by decide) ?_
      rw [l_T_bringBack_45] at hres
      try rw [hg_49] at hres
      rw [if_pos c_52] at hres
      subst hres
      subst hQ
      exact vz_zret hx hb hr (by decide) hlocks d_T_bringBack_56 hS rfl hP
  have hS0 := hS
  refine lv_aload_n hx hb d_T_bringBack_0 rfl (lv_at hl 0 rfl) ?_
  refine va_get (D := (dC, dI)) (ci := 0) (v := .ref a1) (C := R_T) (T := F_T) (N := 5) hx hb hT i_T hown hK hP 0 rfl rfl 0 (by decide) (hT _ kw_90) (fun _ h9 => h9) rfl d_T_bringBack_1 ?_
  refine lv_iload_n hx hb d_T_bringBack_4 rfl (lv_at hl 1 rfl) ?_
  refine va_zald hx hb hK hP 1 1 rfl rfl (ti_vp (by omega) (by omega)) d_T_bringBack_5 ?_
  refine lv_if_eq (tgt := 19) hx hb d_T_bringBack_6 (by decide) (fun c_6 => ?_) (fun c_6 => ?_)
  · have z_6 := congrArg Int32.toInt c_6
    refine lv_iconst (v := 0) hx hb d_T_bringBack_19 (by decide) ?_
    rw [m_T_bringBack, if_pos c_6] at hres
    subst hres
    subst hQ
    exact vz_zret hx hb hr (by decide) hlocks d_T_bringBack_20 hS rfl hP
  · have z_6 := mt Int32.toInt_inj.mp c_6
    refine lv_aload_n hx hb d_T_bringBack_9 rfl (lv_at hl 0 rfl) ?_
    refine va_get (D := (dC, dI)) (ci := 0) (v := .ref a2) (C := R_T) (T := F_T) (N := 5) hx hb hT i_T hown hK hP 0 rfl rfl 1 (by decide) (hT _ kw_92) (fun _ h9 => h9) rfl d_T_bringBack_10 ?_
    refine lv_iload_n hx hb d_T_bringBack_13 rfl (lv_at hl 1 rfl) ?_
    refine va_iald hx hb hK hP 2 0 rfl rfl (ti_vp (by omega) (by omega)) d_T_bringBack_14 ?_
    refine lv_iconst (v := -1) hx hb d_T_bringBack_15 (by decide) ?_
    refine lv_icmp_eq (tgt := 21) hx hb d_T_bringBack_16 (by decide) (fun c_16 => ?_) (fun c_16 => ?_)
    · have z_16 := congrArg Int32.toInt c_16
      refine lv_aload_n hx hb d_T_bringBack_21 rfl (lv_at hl 0 rfl) ?_
      refine lv_iload_n hx hb d_T_bringBack_22 rfl (lv_at hl 1 rfl) ?_
      refine lv_aload_n hx hb d_T_bringBack_23 rfl (lv_at hl 0 rfl) ?_
      refine va_get (D := (dC, dI)) (ci := 0) (v := .ref a3) (C := R_T) (T := F_T) (N := 5) hx hb hT i_T hown hK hP 0 rfl rfl 2 (by decide) (hT _ kw_94) (fun _ h9 => h9) rfl d_T_bringBack_24 ?_
      refine lv_iload_n hx hb d_T_bringBack_27 rfl (lv_at hl 1 rfl) ?_
      refine va_iald hx hb hK hP 3 0 rfl rfl (ti_vp (by omega) (by omega)) d_T_bringBack_28 ?_
      have hc := c_T_mayLie l dC dI cI cZ cQ h0 a1 a2 a3 a4 T x1 (T.2.2.1 x1.toNatClampNeg) (hok) (by omega) (hw)
      generalize hg_29 : (m_T_mayLie T x1 (T.2.2.1 x1.toNatClampNeg)) = g_29 at hc
      refine vz_callV (As := [.int x1, .int (T.2.2.1 x1.toNatClampNeg)]) (rest := []) ⟨hx, hb, hml, hown, hT⟩ hc (vz_goodV kw_197 kw_199 ks_6 kw_4 kw_200) ⟨rfl, hd_T_mayLie⟩ ⟨⟨rfl, rfl⟩, Nat.le_of_ble_eq_true rfl, Nat.le_of_ble_eq_true rfl⟩ hK hP hD hS [0, 1, 2, 3, 4] rfl (hC_T_bringBack_29 cI cZ cQ h0 a1 a2 a3 a4 T) (hF_T_mayLie cI cZ cQ _ _) 0 0 rfl rfl rfl rfl hl.1 rfl (Nat.le_of_ble_eq_true rfl) ⟨Nat.zero_le _, Nat.zero_le _⟩ d_T_bringBack_29 (fun H locs hP hD hS => ?_)
      have hP : va_P (dC, dI) classes (wT cI cZ h0 a1 a2 a3 a4 T) H := vz_reP (hU_T_bringBack_29 cI cZ cQ h0 a1 a2 a3 a4 T ) hP
      have hD : va_D (vz_A (wT cI cZ h0 a1 a2 a3 a4 T)) (wT cI cZ h0 a1 a2 a3 a4 T) := vz_reD (hU_T_bringBack_29 cI cZ cQ h0 a1 a2 a3 a4 T ) hD
      refine W.eq (g2 := F0 m 32 ls [.int g_29]) rfl ?_
      refine lv_if_eq (tgt := 44) hx hb d_T_bringBack_32 (by decide) (fun c_32 => ?_) (fun c_32 => ?_)
      · have z_32 := congrArg Int32.toInt c_32
        refine lv_iconst (v := 0) hx hb d_T_bringBack_44 (by decide) ?_
        rw [m_T_bringBack, if_neg c_6, if_pos c_16] at hres
        try rw [hg_29] at hres
        rw [if_pos c_32] at hres
        exact k_45 0  hres (by first | exact hw | omega) _ _ ls hP hD hS (lv_sub hl [0, 1] rfl)
      · have z_32 := mt Int32.toInt_inj.mp c_32
        refine lv_aload_n hx hb d_T_bringBack_35 rfl (lv_at hl 0 rfl) ?_
        refine va_get (D := (dC, dI)) (ci := 0) (v := .ref a3) (C := R_T) (T := F_T) (N := 5) hx hb hT i_T hown hK hP 0 rfl rfl 2 (by decide) (hT _ kw_94) (fun _ h9 => h9) rfl d_T_bringBack_36 ?_
        refine lv_iload_n hx hb d_T_bringBack_39 rfl (lv_at hl 1 rfl) ?_
        refine va_iald hx hb hK hP 3 0 rfl rfl (ti_vp (by omega) (by omega)) d_T_bringBack_40 ?_
        refine lv_goto (tgt := 45) hx hb d_T_bringBack_41 (by decide) ?_
        rw [m_T_bringBack, if_neg c_6, if_pos c_16] at hres
        try rw [hg_29] at hres
        rw [if_neg c_32] at hres
        exact k_45 (T.2.2.1 x1.toNatClampNeg)  hres (by first | exact hw | omega) _ _ ls hP hD hS (lv_sub hl [0, 1] rfl)
    · have z_16 := mt Int32.toInt_inj.mp c_16
      refine lv_iconst (v := 0) hx hb d_T_bringBack_19 (by decide) ?_
      rw [m_T_bringBack, if_neg c_6, if_neg c_16] at hres
      subst hres
      subst hQ
      exact vz_zret hx hb hr (by decide) hlocks d_T_bringBack_20 hS rfl hP
end
section
theorem d_T_sameAs_0 : decode b_T_sameAs 0 = .ok (.iconst 0, 1) := by decide +kernel
theorem d_T_sameAs_1 : decode b_T_sameAs 1 = .ok (.istore_n 2, 1) := by decide +kernel
theorem d_T_sameAs_2 : decode b_T_sameAs 2 = .ok (.iload_n 2, 1) := by decide +kernel
theorem d_T_sameAs_3 : decode b_T_sameAs 3 = .ok (.bipush 40, 2) := by decide +kernel
theorem d_T_sameAs_5 : decode b_T_sameAs 5 = .ok (.if_icmp .ge 65, 3) := by decide +kernel
theorem d_T_sameAs_8 : decode b_T_sameAs 8 = .ok (.aload_n 0, 1) := by decide +kernel
theorem d_T_sameAs_9 : decode b_T_sameAs 9 = .ok (.getfield 9, 3) := by decide +kernel
theorem d_T_sameAs_12 : decode b_T_sameAs 12 = .ok (.iload_n 2, 1) := by decide +kernel
theorem d_T_sameAs_13 : decode b_T_sameAs 13 = .ok (.baload, 1) := by decide +kernel
theorem d_T_sameAs_14 : decode b_T_sameAs 14 = .ok (.aload_n 1, 1) := by decide +kernel
theorem d_T_sameAs_15 : decode b_T_sameAs 15 = .ok (.getfield 9, 3) := by decide +kernel
theorem d_T_sameAs_18 : decode b_T_sameAs 18 = .ok (.iload_n 2, 1) := by decide +kernel
theorem d_T_sameAs_19 : decode b_T_sameAs 19 = .ok (.baload, 1) := by decide +kernel
theorem d_T_sameAs_20 : decode b_T_sameAs 20 = .ok (.if_icmp .eq 5, 3) := by decide +kernel
theorem d_T_sameAs_23 : decode b_T_sameAs 23 = .ok (.iconst 0, 1) := by decide +kernel
theorem d_T_sameAs_24 : decode b_T_sameAs 24 = .ok (.ireturn, 1) := by decide +kernel
theorem d_T_sameAs_25 : decode b_T_sameAs 25 = .ok (.aload_n 0, 1) := by decide +kernel
theorem d_T_sameAs_26 : decode b_T_sameAs 26 = .ok (.getfield 9, 3) := by decide +kernel
theorem d_T_sameAs_29 : decode b_T_sameAs 29 = .ok (.iload_n 2, 1) := by decide +kernel
theorem d_T_sameAs_30 : decode b_T_sameAs 30 = .ok (.baload, 1) := by decide +kernel
theorem d_T_sameAs_31 : decode b_T_sameAs 31 = .ok (.ifCond .eq 33, 3) := by decide +kernel
theorem d_T_sameAs_34 : decode b_T_sameAs 34 = .ok (.aload_n 0, 1) := by decide +kernel
theorem d_T_sameAs_35 : decode b_T_sameAs 35 = .ok (.getfield 15, 3) := by decide +kernel
theorem d_T_sameAs_38 : decode b_T_sameAs 38 = .ok (.iload_n 2, 1) := by decide +kernel
theorem d_T_sameAs_39 : decode b_T_sameAs 39 = .ok (.iaload, 1) := by decide +kernel
theorem d_T_sameAs_40 : decode b_T_sameAs 40 = .ok (.aload_n 1, 1) := by decide +kernel
theorem d_T_sameAs_41 : decode b_T_sameAs 41 = .ok (.getfield 15, 3) := by decide +kernel
theorem d_T_sameAs_44 : decode b_T_sameAs 44 = .ok (.iload_n 2, 1) := by decide +kernel
theorem d_T_sameAs_45 : decode b_T_sameAs 45 = .ok (.iaload, 1) := by decide +kernel
theorem d_T_sameAs_46 : decode b_T_sameAs 46 = .ok (.if_icmp .ne 16, 3) := by decide +kernel
theorem d_T_sameAs_49 : decode b_T_sameAs 49 = .ok (.aload_n 0, 1) := by decide +kernel
theorem d_T_sameAs_50 : decode b_T_sameAs 50 = .ok (.iload_n 2, 1) := by decide +kernel
theorem d_T_sameAs_51 : decode b_T_sameAs 51 = .ok (.invokevirtual 57, 3) := by decide +kernel
theorem d_T_sameAs_54 : decode b_T_sameAs 54 = .ok (.aload_n 1, 1) := by decide +kernel
theorem d_T_sameAs_55 : decode b_T_sameAs 55 = .ok (.iload_n 2, 1) := by decide +kernel
theorem d_T_sameAs_56 : decode b_T_sameAs 56 = .ok (.invokevirtual 57, 3) := by decide +kernel
theorem d_T_sameAs_59 : decode b_T_sameAs 59 = .ok (.if_icmp .eq 5, 3) := by decide +kernel
theorem d_T_sameAs_62 : decode b_T_sameAs 62 = .ok (.iconst 0, 1) := by decide +kernel
theorem d_T_sameAs_63 : decode b_T_sameAs 63 = .ok (.ireturn, 1) := by decide +kernel
theorem d_T_sameAs_64 : decode b_T_sameAs 64 = .ok (.iinc 2 1, 3) := by decide +kernel
theorem d_T_sameAs_67 : decode b_T_sameAs 67 = .ok (.goto (-65), 3) := by decide +kernel
theorem d_T_sameAs_70 : decode b_T_sameAs 70 = .ok (.iconst 1, 1) := by decide +kernel
theorem d_T_sameAs_71 : decode b_T_sameAs 71 = .ok (.ireturn, 1) := by decide +kernel
theorem hC_T_sameAs_51 (cI cZ cQ : ClassId) (q0 q1 q2 q3 q4 q5 q6 q7 q8 q9 : Nat) (S0 : cT) (S1 : cT) : ([0, 1, 2, 3, 4] : List Nat).map (fun i => (wT cI cZ q0 q1 q2 q3 q4 S0 ++ wT cI cZ q5 q6 q7 q8 q9 S1 : va_W)[i]?) = (wT cI cZ q0 q1 q2 q3 q4 S0 : va_W).map some := rfl
theorem hF_T_placeOf (cI cZ cQ : ClassId) {h0 a1 a2 a3 a4 : Nat} (S0 R0 : cT) : (wT cI cZ h0 a1 a2 a3 a4 R0 : va_W).map Prod.fst = (wT cI cZ h0 a1 a2 a3 a4 S0 : va_W).map Prod.fst := rfl
theorem hU_T_sameAs_51 (cI cZ cQ : ClassId) (q0 q1 q2 q3 q4 q5 q6 q7 q8 q9 : Nat) (S0 : cT) (S1 : cT)  : vz_put (wT cI cZ q0 q1 q2 q3 q4 S0 ++ wT cI cZ q5 q6 q7 q8 q9 S1 : va_W) [0, 1, 2, 3, 4] (wT cI cZ q0 q1 q2 q3 q4 S0 : va_W) = wT cI cZ q0 q1 q2 q3 q4 S0 ++ wT cI cZ q5 q6 q7 q8 q9 S1 := (show vz_put ([(q0, .inr (0, [.ref q1, .ref q2, .ref q3, .ref q4, .int S0.2.2.2.2])), (q1, .inl (cZ, 40, .inl S0.1)), (q2, .inl (cI, 40, .inl S0.2.1)), (q3, .inl (cI, 40, .inl S0.2.2.1)), (q4, .inl (cI, 40, .inl S0.2.2.2.1)), (q5, .inr (0, [.ref q6, .ref q7, .ref q8, .ref q9, .int S1.2.2.2.2])), (q6, .inl (cZ, 40, .inl S1.1)), (q7, .inl (cI, 40, .inl S1.2.1)), (q8, .inl (cI, 40, .inl S1.2.2.1)), (q9, .inl (cI, 40, .inl S1.2.2.2.1))] : va_W) [0, 1, 2, 3, 4] ([(q0, .inr (0, [.ref q1, .ref q2, .ref q3, .ref q4, .int S0.2.2.2.2])), (q1, .inl (cZ, 40, .inl S0.1)), (q2, .inl (cI, 40, .inl S0.2.1)), (q3, .inl (cI, 40, .inl S0.2.2.1)), (q4, .inl (cI, 40, .inl S0.2.2.2.1))] : va_W) = [(q0, .inr (0, [.ref q1, .ref q2, .ref q3, .ref q4, .int S0.2.2.2.2])), (q1, .inl (cZ, 40, .inl S0.1)), (q2, .inl (cI, 40, .inl S0.2.1)), (q3, .inl (cI, 40, .inl S0.2.2.1)), (q4, .inl (cI, 40, .inl S0.2.2.2.1)), (q5, .inr (0, [.ref q6, .ref q7, .ref q8, .ref q9, .int S1.2.2.2.2])), (q6, .inl (cZ, 40, .inl S1.1)), (q7, .inl (cI, 40, .inl S1.2.1)), (q8, .inl (cI, 40, .inl S1.2.2.1)), (q9, .inl (cI, 40, .inl S1.2.2.2.1))] from rfl).trans rfl
theorem hC_T_sameAs_56 (cI cZ cQ : ClassId) (q0 q1 q2 q3 q4 q5 q6 q7 q8 q9 : Nat) (S0 : cT) (S1 : cT) : ([5, 6, 7, 8, 9] : List Nat).map (fun i => (wT cI cZ q0 q1 q2 q3 q4 S0 ++ wT cI cZ q5 q6 q7 q8 q9 S1 : va_W)[i]?) = (wT cI cZ q5 q6 q7 q8 q9 S1 : va_W).map some := rfl
theorem hU_T_sameAs_56 (cI cZ cQ : ClassId) (q0 q1 q2 q3 q4 q5 q6 q7 q8 q9 : Nat) (S0 : cT) (S1 : cT)  : vz_put (wT cI cZ q0 q1 q2 q3 q4 S0 ++ wT cI cZ q5 q6 q7 q8 q9 S1 : va_W) [5, 6, 7, 8, 9] (wT cI cZ q5 q6 q7 q8 q9 S1 : va_W) = wT cI cZ q0 q1 q2 q3 q4 S0 ++ wT cI cZ q5 q6 q7 q8 q9 S1 := (show vz_put ([(q0, .inr (0, [.ref q1, .ref q2, .ref q3, .ref q4, .int S0.2.2.2.2])), (q1, .inl (cZ, 40, .inl S0.1)), (q2, .inl (cI, 40, .inl S0.2.1)), (q3, .inl (cI, 40, .inl S0.2.2.1)), (q4, .inl (cI, 40, .inl S0.2.2.2.1)), (q5, .inr (0, [.ref q6, .ref q7, .ref q8, .ref q9, .int S1.2.2.2.2])), (q6, .inl (cZ, 40, .inl S1.1)), (q7, .inl (cI, 40, .inl S1.2.1)), (q8, .inl (cI, 40, .inl S1.2.2.1)), (q9, .inl (cI, 40, .inl S1.2.2.2.1))] : va_W) [5, 6, 7, 8, 9] ([(q5, .inr (0, [.ref q6, .ref q7, .ref q8, .ref q9, .int S1.2.2.2.2])), (q6, .inl (cZ, 40, .inl S1.1)), (q7, .inl (cI, 40, .inl S1.2.1)), (q8, .inl (cI, 40, .inl S1.2.2.1)), (q9, .inl (cI, 40, .inl S1.2.2.2.1))] : va_W) = [(q0, .inr (0, [.ref q1, .ref q2, .ref q3, .ref q4, .int S0.2.2.2.2])), (q1, .inl (cZ, 40, .inl S0.1)), (q2, .inl (cI, 40, .inl S0.2.1)), (q3, .inl (cI, 40, .inl S0.2.2.1)), (q4, .inl (cI, 40, .inl S0.2.2.2.1)), (q5, .inr (0, [.ref q6, .ref q7, .ref q8, .ref q9, .int S1.2.2.2.2])), (q6, .inl (cZ, 40, .inl S1.1)), (q7, .inl (cI, 40, .inl S1.2.1)), (q8, .inl (cI, 40, .inl S1.2.2.1)), (q9, .inl (cI, 40, .inl S1.2.2.2.1))] from rfl).trans rfl
def l_T_sameAs_2 (T : cT) (U : cT) : Nat → Int32 → Int32
  | 0, _ => 0
  | n + 1, x2 => (if 40 ≤ x2 then 1 else (if (T.1 x2.toNatClampNeg) = (U.1 x2.toNatClampNeg) then (if (T.1 x2.toNatClampNeg) = 0 then (l_T_sameAs_2 T U n (x2 + 1)) else (if (T.2.1 x2.toNatClampNeg) = (U.2.1 x2.toNatClampNeg) then (if (m_T_placeOf T x2) = (m_T_placeOf U x2) then (l_T_sameAs_2 T U n (x2 + 1)) else 0) else 0)) else 0))
def m_T_sameAs (T : cT) (U : cT) : Int32 := (l_T_sameAs_2 T U 41 0)
set_option maxHeartbeats 1000000 in
set_option maxRecDepth 100000 in
theorem c_T_sameAs (l : Launch) (dC : Nat → ClassId) (dI : Nat → Nat → Nat) (cI cZ cQ : ClassId) (h0 : Nat) (a1 : Nat) (a2 : Nat) (a3 : Nat) (a4 : Nat) (T : cT) (k0 : Nat) (b1 : Nat) (b2 : Nat) (b3 : Nat) (b4 : Nat) (U : cT) (hok : okT T) (hokU : okT U) : vz_C l (dC, dI) classes [(cI, .int), (cZ, .boolean), (cQ, .object "BinTrees$Person")] y_T_sameAs (Cond.code y_T_sameAs b_T_sameAs 3 (some .boolean) :: vz_tbl) ({ frames := 1, cells := 0, slots := 0, locals := 23 }) [.ref h0, .ref k0] (wT cI cZ h0 a1 a2 a3 a4 T ++ wT cI cZ k0 b1 b2 b3 b4 U) (some (.int (m_T_sameAs T U))) (wT cI cZ h0 a1 a2 a3 a4 T ++ wT cI cZ k0 b1 b2 b3 b4 U) := by
  generalize hres : (m_T_sameAs T U) = RES
  refine vz_C.of (by decide) (Nat.le_of_ble_eq_true rfl) ?_
  intro p e s m below meth c ls E hl hK hP hD hS
  obtain ⟨hx, hb, hr, hml, hown, hT, hlocks⟩ := E
  obtain ⟨Q, hQ⟩ : ∃ Q, Q = MQ below (vz_Q (dC, dI) classes (wT cI cZ h0 a1 a2 a3 a4 T ++ wT cI cZ k0 b1 b2 b3 b4 U) (some (.int RES)) (wT cI cZ h0 a1 a2 a3 a4 T ++ wT cI cZ k0 b1 b2 b3 b4 U)) ([.ref h0, .ref k0] : List Value).toArray s 0 0 (vz_A (wT cI cZ h0 a1 a2 a3 a4 T ++ wT cI cZ k0 b1 b2 b3 b4 U)) := ⟨_, rfl⟩
  rw [← hQ]
  have hl : lv_has ls 3 [(0, .ref h0), (1, .ref k0)] := hl
  have T0 := ti_0
  have T1 := ti_1
  have Tm := ti_m1
  have T8 := ti_8
  have T39 := ti_39
  have T40 := ti_40
  have T4 := ti_4
  have T300 := ti_300
  have k_2 : ∀ (n : Nat) (x2 : Int32), l_T_sameAs_2 T U n x2 = RES → (0 ≤ x2.toInt ∧ x2.toInt ≤ 40 ∧ 40 < n + x2.toInt) → ∀ (H : Heap) (locs : List Loc) (ls : Array Slot), va_P (dC, dI) classes (wT cI cZ h0 a1 a2 a3 a4 T ++ wT cI cZ k0 b1 b2 b3 b4 U) H → va_D (vz_A (wT cI cZ h0 a1 a2 a3 a4 T ++ wT cI cZ k0 b1 b2 b3 b4 U)) (wT cI cZ h0 a1 a2 a3 a4 T ++ wT cI cZ k0 b1 b2 b3 b4 U) → va_S (vz_A (wT cI cZ h0 a1 a2 a3 a4 T ++ wT cI cZ k0 b1 b2 b3 b4 U)) s.heap H locs → lv_has ls 3 [(0, .ref h0), (1, .ref k0), (2, .int x2)] → W p l e ({ frames := 1, cells := 0, slots := 0, locals := 23 }) s m ([.ref h0, .ref k0] : List Value).toArray below meth c H locs 0 0 Q (F0 m 2 ls []) := by
    intro n
    induction n with
    | zero =>
      intro x2 hres i2 H locs ls hP hD hS hl
      exfalso
      omega
    | succ n ih =>
      intro x2 hres i2 H locs ls hP hD hS hl
      refine lv_iload_n hx hb d_T_sameAs_2 rfl (lv_at hl 2 rfl) ?_
      refine lv_bipush (v := 40) hx hb d_T_sameAs_3 (by decide) ?_
      refine lv_icmp_ge (tgt := 70) hx hb d_T_sameAs_5 (by decide) (fun c_5 => ?_) (fun c_5 => ?_)
      · have z_5 := Int32.le_iff_toInt_le.mp c_5
        refine lv_iconst (v := 1) hx hb d_T_sameAs_70 (by decide) ?_
        rw [l_T_sameAs_2, if_pos c_5] at hres
        subst hres
        subst hQ
        exact vz_zret hx hb hr (by decide) hlocks d_T_sameAs_71 hS rfl hP
      · have z_5 := mt Int32.le_iff_toInt_le.mpr c_5
        refine lv_aload_n hx hb d_T_sameAs_8 rfl (lv_at hl 0 rfl) ?_
        refine va_get (D := (dC, dI)) (ci := 0) (v := .ref a1) (C := R_T) (T := F_T) (N := 5) hx hb hT i_T hown hK hP 0 rfl rfl 0 (by decide) (hT _ kw_90) (fun _ h9 => h9) rfl d_T_sameAs_9 ?_
        refine lv_iload_n hx hb d_T_sameAs_12 rfl (lv_at hl 2 rfl) ?_
        refine va_zald hx hb hK hP 1 1 rfl rfl (ti_vp (by omega) (by omega)) d_T_sameAs_13 ?_
        refine lv_aload_n hx hb d_T_sameAs_14 rfl (lv_at hl 1 rfl) ?_
        refine va_get (D := (dC, dI)) (ci := 0) (v := .ref b1) (C := R_T) (T := F_T) (N := 5) hx hb hT i_T hown hK hP 5 rfl rfl 0 (by decide) (hT _ kw_90) (fun _ h9 => h9) rfl d_T_sameAs_15 ?_
        refine lv_iload_n hx hb d_T_sameAs_18 rfl (lv_at hl 2 rfl) ?_
        refine va_zald hx hb hK hP 6 1 rfl rfl (ti_vp (by omega) (by omega)) d_T_sameAs_19 ?_
        refine lv_icmp_eq (tgt := 25) hx hb d_T_sameAs_20 (by decide) (fun c_20 => ?_) (fun c_20 => ?_)
        · have z_20 := congrArg Int32.toInt c_20
          refine lv_aload_n hx hb d_T_sameAs_25 rfl (lv_at hl 0 rfl) ?_
          refine va_get (D := (dC, dI)) (ci := 0) (v := .ref a1) (C := R_T) (T := F_T) (N := 5) hx hb hT i_T hown hK hP 0 rfl rfl 0 (by decide) (hT _ kw_90) (fun _ h9 => h9) rfl d_T_sameAs_26 ?_
          refine lv_iload_n hx hb d_T_sameAs_29 rfl (lv_at hl 2 rfl) ?_
          refine va_zald hx hb hK hP 1 1 rfl rfl (ti_vp (by omega) (by omega)) d_T_sameAs_30 ?_
          refine lv_if_eq (tgt := 64) hx hb d_T_sameAs_31 (by decide) (fun c_31 => ?_) (fun c_31 => ?_)
          · have z_31 := congrArg Int32.toInt c_31
            refine lv_iinc (v := x2 + 1) (lv' := [(2, .int (x2 + 1)), (0, .ref h0), (1, .ref k0)]) hx hb d_T_sameAs_64 hl (k := 2) rfl rfl (by decide) rfl (fun ls hl => ?_)
            refine lv_goto (tgt := 2) hx hb d_T_sameAs_67 (by decide) ?_
            rw [l_T_sameAs_2, if_neg c_5, if_pos c_20, if_pos c_31] at hres
            exact ih (x2 + 1)  hres (by rw [ti_inc (x := x2) (by omega)]; omega) H locs ls hP hD hS (lv_sub hl [1, 2, 0] rfl)
          · have z_31 := mt Int32.toInt_inj.mp c_31
            refine lv_aload_n hx hb d_T_sameAs_34 rfl (lv_at hl 0 rfl) ?_
            refine va_get (D := (dC, dI)) (ci := 0) (v := .ref a2) (C := R_T) (T := F_T) (N := 5) hx hb hT i_T hown hK hP 0 rfl rfl 1 (by decide) (hT _ kw_92) (fun _ h9 => h9) rfl d_T_sameAs_35 ?_
            refine lv_iload_n hx hb d_T_sameAs_38 rfl (lv_at hl 2 rfl) ?_
            refine va_iald hx hb hK hP 2 0 rfl rfl (ti_vp (by omega) (by omega)) d_T_sameAs_39 ?_
            refine lv_aload_n hx hb d_T_sameAs_40 rfl (lv_at hl 1 rfl) ?_
            refine va_get (D := (dC, dI)) (ci := 0) (v := .ref b2) (C := R_T) (T := F_T) (N := 5) hx hb hT i_T hown hK hP 5 rfl rfl 1 (by decide) (hT _ kw_92) (fun _ h9 => h9) rfl d_T_sameAs_41 ?_
            refine lv_iload_n hx hb d_T_sameAs_44 rfl (lv_at hl 2 rfl) ?_
            refine va_iald hx hb hK hP 7 0 rfl rfl (ti_vp (by omega) (by omega)) d_T_sameAs_45 ?_
            refine lv_icmp_ne (tgt := 62) hx hb d_T_sameAs_46 (by decide) (fun c_46 => ?_) (fun c_46 => ?_)
            · have z_46 := mt Int32.toInt_inj.mp c_46
              refine lv_iconst (v := 0) hx hb d_T_sameAs_62 (by decide) ?_
              rw [l_T_sameAs_2, if_neg c_5, if_pos c_20, if_neg c_31, if_neg c_46] at hres
              subst hres
              subst hQ
              exact vz_zret hx hb hr (by decide) hlocks d_T_sameAs_63 hS rfl hP
            · have z_46 := congrArg Int32.toInt c_46
              refine lv_aload_n hx hb d_T_sameAs_49 rfl (lv_at hl 0 rfl) ?_
              refine lv_iload_n hx hb d_T_sameAs_50 rfl (lv_at hl 2 rfl) ?_
              have hc := c_T_placeOf l dC dI cI cZ cQ h0 a1 a2 a3 a4 T x2 (ok_le hok) (hok.2.1) (by omega)
              generalize hg_51 : (m_T_placeOf T x2) = g_51 at hc
              refine vz_callV (As := [.int x2]) (rest := []) ⟨hx, hb, hml, hown, hT⟩ hc (vz_goodV kw_309 kw_282 kw_283 kw_4 kw_284) ⟨rfl, hd_T_placeOf⟩ ⟨⟨rfl, rfl⟩, Nat.le_of_ble_eq_true rfl, Nat.le_of_ble_eq_true rfl⟩ hK hP hD hS [0, 1, 2, 3, 4] rfl (hC_T_sameAs_51 cI cZ cQ h0 a1 a2 a3 a4 k0 b1 b2 b3 b4 T U) (hF_T_placeOf cI cZ cQ _ _) 0 0 rfl rfl rfl rfl hl.1 rfl (Nat.le_of_ble_eq_true rfl) ⟨Nat.zero_le _, Nat.zero_le _⟩ d_T_sameAs_51 (fun H locs hP hD hS => ?_)
              have hP : va_P (dC, dI) classes (wT cI cZ h0 a1 a2 a3 a4 T ++ wT cI cZ k0 b1 b2 b3 b4 U) H := vz_reP (hU_T_sameAs_51 cI cZ cQ h0 a1 a2 a3 a4 k0 b1 b2 b3 b4 T U ) hP
              have hD : va_D (vz_A (wT cI cZ h0 a1 a2 a3 a4 T ++ wT cI cZ k0 b1 b2 b3 b4 U)) (wT cI cZ h0 a1 a2 a3 a4 T ++ wT cI cZ k0 b1 b2 b3 b4 U) := vz_reD (hU_T_sameAs_51 cI cZ cQ h0 a1 a2 a3 a4 k0 b1 b2 b3 b4 T U ) hD
              refine W.eq (g2 := F0 m 54 ls [.int g_51]) rfl ?_
              refine lv_aload_n hx hb d_T_sameAs_54 rfl (lv_at hl 1 rfl) ?_
              refine lv_iload_n hx hb d_T_sameAs_55 rfl (lv_at hl 2 rfl) ?_
              have hc := c_T_placeOf l dC dI cI cZ cQ k0 b1 b2 b3 b4 U x2 (ok_le hokU) (hokU.2.1) (by omega)
              generalize hg_56 : (m_T_placeOf U x2) = g_56 at hc
              refine vz_callV (As := [.int x2]) (rest := [.int g_51]) ⟨hx, hb, hml, hown, hT⟩ hc (vz_goodV kw_309 kw_282 kw_283 kw_4 kw_284) ⟨rfl, hd_T_placeOf⟩ ⟨⟨rfl, rfl⟩, Nat.le_of_ble_eq_true rfl, Nat.le_of_ble_eq_true rfl⟩ hK hP hD hS [5, 6, 7, 8, 9] rfl (hC_T_sameAs_56 cI cZ cQ h0 a1 a2 a3 a4 k0 b1 b2 b3 b4 T U) (hF_T_placeOf cI cZ cQ _ _) 0 0 rfl rfl rfl rfl hl.1 rfl (Nat.le_of_ble_eq_true rfl) ⟨Nat.zero_le _, Nat.zero_le _⟩ d_T_sameAs_56 (fun H locs hP hD hS => ?_)
              have hP : va_P (dC, dI) classes (wT cI cZ h0 a1 a2 a3 a4 T ++ wT cI cZ k0 b1 b2 b3 b4 U) H := vz_reP (hU_T_sameAs_56 cI cZ cQ h0 a1 a2 a3 a4 k0 b1 b2 b3 b4 T U ) hP
              have hD : va_D (vz_A (wT cI cZ h0 a1 a2 a3 a4 T ++ wT cI cZ k0 b1 b2 b3 b4 U)) (wT cI cZ h0 a1 a2 a3 a4 T ++ wT cI cZ k0 b1 b2 b3 b4 U) := vz_reD (hU_T_sameAs_56 cI cZ cQ h0 a1 a2 a3 a4 k0 b1 b2 b3 b4 T U ) hD
              refine W.eq (g2 := F0 m 59 ls [.int g_56, .int g_51]) rfl ?_
              refine lv_icmp_eq (tgt := 64) hx hb d_T_sameAs_59 (by decide) (fun c_59 => ?_) (fun c_59 => ?_)
              · have z_59 := congrArg Int32.toInt c_59
                refine lv_iinc (v := x2 + 1) (lv' := [(2, .int (x2 + 1)), (0, .ref h0), (1, .ref k0)]) hx hb d_T_sameAs_64 hl (k := 2) rfl rfl (by decide) rfl (fun ls hl => ?_)
                refine lv_goto (tgt := 2) hx hb d_T_sameAs_67 (by decide) ?_
                rw [l_T_sameAs_2, if_neg c_5, if_pos c_20, if_neg c_31, if_pos c_46] at hres
                try rw [hg_51] at hres
                try rw [hg_56] at hres
                rw [if_pos c_59] at hres
                exact ih (x2 + 1)  hres (by rw [ti_inc (x := x2) (by omega)]; omega) H locs ls hP hD hS (lv_sub hl [1, 2, 0] rfl)
              · have z_59 := mt Int32.toInt_inj.mp c_59
                refine lv_iconst (v := 0) hx hb d_T_sameAs_62 (by decide) ?_
                rw [l_T_sameAs_2, if_neg c_5, if_pos c_20, if_neg c_31, if_pos c_46] at hres
                try rw [hg_51] at hres
                try rw [hg_56] at hres
                rw [if_neg c_59] at hres
                subst hres
                subst hQ
                exact vz_zret hx hb hr (by decide) hlocks d_T_sameAs_63 hS rfl hP
        · have z_20 := mt Int32.toInt_inj.mp c_20
          refine lv_iconst (v := 0) hx hb d_T_sameAs_23 (by decide) ?_
          rw [l_T_sameAs_2, if_neg c_5, if_neg c_20] at hres
          subst hres
          subst hQ
          exact vz_zret hx hb hr (by decide) hlocks d_T_sameAs_24 hS rfl hP
  have hS0 := hS
  refine lv_iconst (v := 0) hx hb d_T_sameAs_0 (by decide) ?_
  refine lv_istore_n (lv' := [(2, .int 0), (0, .ref h0), (1, .ref k0)]) hx hb d_T_sameAs_1 rfl hl (by decide) rfl (fun ls hl => ?_)
  rw [m_T_sameAs] at hres
  exact k_2 41 0  hres (by omega) _ _ ls hP hD hS (lv_sub hl [1, 2, 0] rfl)
end
section
/-- what a row of the log must be, to be judged -/
def okR (L : cL) (x : Int32) : Prop := (0 ≤ x.toInt ∧ x.toInt < 301) ∧ (0 ≤ (L.2.2.2.2.2.2.1 x.toNatClampNeg).toInt ∧ (L.2.2.2.2.2.2.1 x.toNatClampNeg).toInt < 301) ∧ (¬ L.1 x.toNatClampNeg = 4 → 1 ≤ (L.2.2.2.1 x.toNatClampNeg).toInt ∧ (L.2.2.2.1 x.toNatClampNeg).toInt < 40) ∧ (L.1 x.toNatClampNeg = 1 → 0 ≤ (L.2.2.2.2.1 x.toNatClampNeg).toInt ∧ (L.2.2.2.2.1 x.toNatClampNeg).toInt < 40) ∧ (L.1 x.toNatClampNeg = 4 → 0 ≤ (L.2.2.2.1 x.toNatClampNeg).toInt ∧ (L.2.2.2.1 x.toNatClampNeg).toInt < 301)
end
section
theorem d_L_isAhead_0 : decode b_L_isAhead 0 = .ok (.aload_n 0, 1) := by decide +kernel
theorem d_L_isAhead_1 : decode b_L_isAhead 1 = .ok (.getfield 18, 3) := by decide +kernel
theorem d_L_isAhead_4 : decode b_L_isAhead 4 = .ok (.iload_n 1, 1) := by decide +kernel
theorem d_L_isAhead_5 : decode b_L_isAhead 5 = .ok (.iaload, 1) := by decide +kernel
theorem d_L_isAhead_6 : decode b_L_isAhead 6 = .ok (.aload_n 0, 1) := by decide +kernel
theorem d_L_isAhead_7 : decode b_L_isAhead 7 = .ok (.getfield 18, 3) := by decide +kernel
theorem d_L_isAhead_10 : decode b_L_isAhead 10 = .ok (.iload_n 2, 1) := by decide +kernel
theorem d_L_isAhead_11 : decode b_L_isAhead 11 = .ok (.iaload, 1) := by decide +kernel
theorem d_L_isAhead_12 : decode b_L_isAhead 12 = .ok (.if_icmp .lt 33, 3) := by decide +kernel
theorem d_L_isAhead_15 : decode b_L_isAhead 15 = .ok (.aload_n 0, 1) := by decide +kernel
theorem d_L_isAhead_16 : decode b_L_isAhead 16 = .ok (.getfield 18, 3) := by decide +kernel
theorem d_L_isAhead_19 : decode b_L_isAhead 19 = .ok (.iload_n 1, 1) := by decide +kernel
theorem d_L_isAhead_20 : decode b_L_isAhead 20 = .ok (.iaload, 1) := by decide +kernel
theorem d_L_isAhead_21 : decode b_L_isAhead 21 = .ok (.aload_n 0, 1) := by decide +kernel
theorem d_L_isAhead_22 : decode b_L_isAhead 22 = .ok (.getfield 18, 3) := by decide +kernel
theorem d_L_isAhead_25 : decode b_L_isAhead 25 = .ok (.iload_n 2, 1) := by decide +kernel
theorem d_L_isAhead_26 : decode b_L_isAhead 26 = .ok (.iaload, 1) := by decide +kernel
theorem d_L_isAhead_27 : decode b_L_isAhead 27 = .ok (.if_icmp .ne 22, 3) := by decide +kernel
theorem d_L_isAhead_30 : decode b_L_isAhead 30 = .ok (.aload_n 0, 1) := by decide +kernel
theorem d_L_isAhead_31 : decode b_L_isAhead 31 = .ok (.getfield 15, 3) := by decide +kernel
theorem d_L_isAhead_34 : decode b_L_isAhead 34 = .ok (.iload_n 1, 1) := by decide +kernel
theorem d_L_isAhead_35 : decode b_L_isAhead 35 = .ok (.iaload, 1) := by decide +kernel
theorem d_L_isAhead_36 : decode b_L_isAhead 36 = .ok (.aload_n 0, 1) := by decide +kernel
theorem d_L_isAhead_37 : decode b_L_isAhead 37 = .ok (.getfield 15, 3) := by decide +kernel
theorem d_L_isAhead_40 : decode b_L_isAhead 40 = .ok (.iload_n 2, 1) := by decide +kernel
theorem d_L_isAhead_41 : decode b_L_isAhead 41 = .ok (.iaload, 1) := by decide +kernel
theorem d_L_isAhead_42 : decode b_L_isAhead 42 = .ok (.if_icmp .ge 7, 3) := by decide +kernel
theorem d_L_isAhead_45 : decode b_L_isAhead 45 = .ok (.iconst 1, 1) := by decide +kernel
theorem d_L_isAhead_46 : decode b_L_isAhead 46 = .ok (.goto 4, 3) := by decide +kernel
theorem d_L_isAhead_49 : decode b_L_isAhead 49 = .ok (.iconst 0, 1) := by decide +kernel
theorem d_L_isAhead_50 : decode b_L_isAhead 50 = .ok (.ireturn, 1) := by decide +kernel
def m_L_isAhead (L : cL) (x1 : Int32) (x2 : Int32) : Int32 := (if (L.2.2.1 x1.toNatClampNeg) < (L.2.2.1 x2.toNatClampNeg) then 1 else (if (L.2.2.1 x1.toNatClampNeg) = (L.2.2.1 x2.toNatClampNeg) then (if (L.2.1 x2.toNatClampNeg) ≤ (L.2.1 x1.toNatClampNeg) then 0 else 1) else 0))
set_option maxHeartbeats 1000000 in
set_option maxRecDepth 100000 in
theorem c_L_isAhead (l : Launch) (dC : Nat → ClassId) (dI : Nat → Nat → Nat) (cI cZ cQ : ClassId) (u0 : Nat) (u1 : Nat) (u2 : Nat) (u3 : Nat) (u4 : Nat) (u5 : Nat) (u6 : Nat) (u7 : Nat) (u8 : Nat) (L : cL) (x1 : Int32) (x2 : Int32) (h1 : 0 ≤ x1.toInt ∧ x1.toInt < 301) (h2 : 0 ≤ x2.toInt ∧ x2.toInt < 301) : vz_C l (dC, dI) classes [(cI, .int), (cZ, .boolean), (cQ, .object "BinTrees$Person")] y_L_isAhead (Cond.code y_L_isAhead b_L_isAhead 3 (some .boolean) :: vz_tbl) ({ frames := 0, cells := 0, slots := 0, locals := 0 }) [.ref u0, .int x1, .int x2] (wL cI cZ u0 u1 u2 u3 u4 u5 u6 u7 u8 L) (some (.int (m_L_isAhead L x1 x2))) (wL cI cZ u0 u1 u2 u3 u4 u5 u6 u7 u8 L) := by
  generalize hres : (m_L_isAhead L x1 x2) = RES
  refine vz_C.of (by decide) (Nat.le_of_ble_eq_true rfl) ?_
  intro p e s m below meth c ls E hl hK hP hD hS
  obtain ⟨hx, hb, hr, hml, hown, hT, hlocks⟩ := E
  obtain ⟨Q, hQ⟩ : ∃ Q, Q = MQ below (vz_Q (dC, dI) classes (wL cI cZ u0 u1 u2 u3 u4 u5 u6 u7 u8 L) (some (.int RES)) (wL cI cZ u0 u1 u2 u3 u4 u5 u6 u7 u8 L)) ([.ref u0, .int x1, .int x2] : List Value).toArray s 0 0 (vz_A (wL cI cZ u0 u1 u2 u3 u4 u5 u6 u7 u8 L)) := ⟨_, rfl⟩
  rw [← hQ]
  have hl : lv_has ls 3 [(0, .ref u0), (1, .int x1), (2, .int x2)] := hl
  have T0 := ti_0
  have T1 := ti_1
  have Tm := ti_m1
  have T8 := ti_8
  have T39 := ti_39
  have T40 := ti_40
  have T4 := ti_4
  have T300 := ti_300
  have hS0 := hS
  refine lv_aload_n hx hb d_L_isAhead_0 rfl (lv_at hl 0 rfl) ?_
  refine va_get (D := (dC, dI)) (ci := 1) (v := .ref u3) (C := R_L) (T := F_L) (N := 10) hx hb hT i_L hown hK hP 0 rfl rfl 2 (by decide) (hT _ kw_27) (fun _ h9 => h9) rfl d_L_isAhead_1 ?_
  refine lv_iload_n hx hb d_L_isAhead_4 rfl (lv_at hl 1 rfl) ?_
  refine va_iald hx hb hK hP 3 0 rfl rfl (ti_vp (by omega) (by omega)) d_L_isAhead_5 ?_
  refine lv_aload_n hx hb d_L_isAhead_6 rfl (lv_at hl 0 rfl) ?_
  refine va_get (D := (dC, dI)) (ci := 1) (v := .ref u3) (C := R_L) (T := F_L) (N := 10) hx hb hT i_L hown hK hP 0 rfl rfl 2 (by decide) (hT _ kw_27) (fun _ h9 => h9) rfl d_L_isAhead_7 ?_
  refine lv_iload_n hx hb d_L_isAhead_10 rfl (lv_at hl 2 rfl) ?_
  refine va_iald hx hb hK hP 3 0 rfl rfl (ti_vp (by omega) (by omega)) d_L_isAhead_11 ?_
  refine lv_icmp_lt (tgt := 45) hx hb d_L_isAhead_12 (by decide) (fun c_12 => ?_) (fun c_12 => ?_)
  · have z_12 := Int32.lt_iff_toInt_lt.mp c_12
    refine lv_iconst (v := 1) hx hb d_L_isAhead_45 (by decide) ?_
    refine lv_goto (tgt := 50) hx hb d_L_isAhead_46 (by decide) ?_
    rw [m_L_isAhead, if_pos c_12] at hres
    subst hres
    subst hQ
    exact vz_zret hx hb hr (by decide) hlocks d_L_isAhead_50 hS rfl hP
  · have z_12 := mt Int32.lt_iff_toInt_lt.mpr c_12
    refine lv_aload_n hx hb d_L_isAhead_15 rfl (lv_at hl 0 rfl) ?_
    refine va_get (D := (dC, dI)) (ci := 1) (v := .ref u3) (C := R_L) (T := F_L) (N := 10) hx hb hT i_L hown hK hP 0 rfl rfl 2 (by decide) (hT _ kw_27) (fun _ h9 => h9) rfl d_L_isAhead_16 ?_
    refine lv_iload_n hx hb d_L_isAhead_19 rfl (lv_at hl 1 rfl) ?_
    refine va_iald hx hb hK hP 3 0 rfl rfl (ti_vp (by omega) (by omega)) d_L_isAhead_20 ?_
    refine lv_aload_n hx hb d_L_isAhead_21 rfl (lv_at hl 0 rfl) ?_
    refine va_get (D := (dC, dI)) (ci := 1) (v := .ref u3) (C := R_L) (T := F_L) (N := 10) hx hb hT i_L hown hK hP 0 rfl rfl 2 (by decide) (hT _ kw_27) (fun _ h9 => h9) rfl d_L_isAhead_22 ?_
    refine lv_iload_n hx hb d_L_isAhead_25 rfl (lv_at hl 2 rfl) ?_
    refine va_iald hx hb hK hP 3 0 rfl rfl (ti_vp (by omega) (by omega)) d_L_isAhead_26 ?_
    refine lv_icmp_ne (tgt := 49) hx hb d_L_isAhead_27 (by decide) (fun c_27 => ?_) (fun c_27 => ?_)
    · have z_27 := mt Int32.toInt_inj.mp c_27
      refine lv_iconst (v := 0) hx hb d_L_isAhead_49 (by decide) ?_
      rw [m_L_isAhead, if_neg c_12, if_neg c_27] at hres
      subst hres
      subst hQ
      exact vz_zret hx hb hr (by decide) hlocks d_L_isAhead_50 hS rfl hP
    · have z_27 := congrArg Int32.toInt c_27
      refine lv_aload_n hx hb d_L_isAhead_30 rfl (lv_at hl 0 rfl) ?_
      refine va_get (D := (dC, dI)) (ci := 1) (v := .ref u2) (C := R_L) (T := F_L) (N := 10) hx hb hT i_L hown hK hP 0 rfl rfl 1 (by decide) (hT _ kw_25) (fun _ h9 => h9) rfl d_L_isAhead_31 ?_
      refine lv_iload_n hx hb d_L_isAhead_34 rfl (lv_at hl 1 rfl) ?_
      refine va_iald hx hb hK hP 2 0 rfl rfl (ti_vp (by omega) (by omega)) d_L_isAhead_35 ?_
      refine lv_aload_n hx hb d_L_isAhead_36 rfl (lv_at hl 0 rfl) ?_
      refine va_get (D := (dC, dI)) (ci := 1) (v := .ref u2) (C := R_L) (T := F_L) (N := 10) hx hb hT i_L hown hK hP 0 rfl rfl 1 (by decide) (hT _ kw_25) (fun _ h9 => h9) rfl d_L_isAhead_37 ?_
      refine lv_iload_n hx hb d_L_isAhead_40 rfl (lv_at hl 2 rfl) ?_
      refine va_iald hx hb hK hP 2 0 rfl rfl (ti_vp (by omega) (by omega)) d_L_isAhead_41 ?_
      refine lv_icmp_ge (tgt := 49) hx hb d_L_isAhead_42 (by decide) (fun c_42 => ?_) (fun c_42 => ?_)
      · have z_42 := Int32.le_iff_toInt_le.mp c_42
        refine lv_iconst (v := 0) hx hb d_L_isAhead_49 (by decide) ?_
        rw [m_L_isAhead, if_neg c_12, if_pos c_27, if_pos c_42] at hres
        subst hres
        subst hQ
        exact vz_zret hx hb hr (by decide) hlocks d_L_isAhead_50 hS rfl hP
      · have z_42 := mt Int32.le_iff_toInt_le.mpr c_42
        refine lv_iconst (v := 1) hx hb d_L_isAhead_45 (by decide) ?_
        refine lv_goto (tgt := 50) hx hb d_L_isAhead_46 (by decide) ?_
        rw [m_L_isAhead, if_neg c_12, if_pos c_27, if_neg c_42] at hres
        subst hres
        subst hQ
        exact vz_zret hx hb hr (by decide) hlocks d_L_isAhead_50 hS rfl hP
end
section
theorem d_L_mayBeUndoneBy_0 : decode b_L_mayBeUndoneBy 0 = .ok (.aload_n 0, 1) := by decide +kernel
theorem d_L_mayBeUndoneBy_1 : decode b_L_mayBeUndoneBy 1 = .ok (.getfield 15, 3) := by decide +kernel
theorem d_L_mayBeUndoneBy_4 : decode b_L_mayBeUndoneBy 4 = .ok (.iload_n 2, 1) := by decide +kernel
theorem d_L_mayBeUndoneBy_5 : decode b_L_mayBeUndoneBy 5 = .ok (.iaload, 1) := by decide +kernel
theorem d_L_mayBeUndoneBy_6 : decode b_L_mayBeUndoneBy 6 = .ok (.iload_n 1, 1) := by decide +kernel
theorem d_L_mayBeUndoneBy_7 : decode b_L_mayBeUndoneBy 7 = .ok (.if_icmp .ne 36, 3) := by decide +kernel
theorem d_L_mayBeUndoneBy_10 : decode b_L_mayBeUndoneBy 10 = .ok (.aload_n 0, 1) := by decide +kernel
theorem d_L_mayBeUndoneBy_11 : decode b_L_mayBeUndoneBy 11 = .ok (.getfield 9, 3) := by decide +kernel
theorem d_L_mayBeUndoneBy_14 : decode b_L_mayBeUndoneBy 14 = .ok (.iload_n 2, 1) := by decide +kernel
theorem d_L_mayBeUndoneBy_15 : decode b_L_mayBeUndoneBy 15 = .ok (.iaload, 1) := by decide +kernel
theorem d_L_mayBeUndoneBy_16 : decode b_L_mayBeUndoneBy 16 = .ok (.iconst 1, 1) := by decide +kernel
theorem d_L_mayBeUndoneBy_17 : decode b_L_mayBeUndoneBy 17 = .ok (.if_icmp .lt 26, 3) := by decide +kernel
theorem d_L_mayBeUndoneBy_20 : decode b_L_mayBeUndoneBy 20 = .ok (.aload_n 0, 1) := by decide +kernel
theorem d_L_mayBeUndoneBy_21 : decode b_L_mayBeUndoneBy 21 = .ok (.getfield 9, 3) := by decide +kernel
theorem d_L_mayBeUndoneBy_24 : decode b_L_mayBeUndoneBy 24 = .ok (.iload_n 2, 1) := by decide +kernel
theorem d_L_mayBeUndoneBy_25 : decode b_L_mayBeUndoneBy 25 = .ok (.iaload, 1) := by decide +kernel
theorem d_L_mayBeUndoneBy_26 : decode b_L_mayBeUndoneBy 26 = .ok (.iconst 3, 1) := by decide +kernel
theorem d_L_mayBeUndoneBy_27 : decode b_L_mayBeUndoneBy 27 = .ok (.if_icmp .gt 16, 3) := by decide +kernel
theorem d_L_mayBeUndoneBy_30 : decode b_L_mayBeUndoneBy 30 = .ok (.aload_n 0, 1) := by decide +kernel
theorem d_L_mayBeUndoneBy_31 : decode b_L_mayBeUndoneBy 31 = .ok (.getfield 30, 3) := by decide +kernel
theorem d_L_mayBeUndoneBy_34 : decode b_L_mayBeUndoneBy 34 = .ok (.iload_n 2, 1) := by decide +kernel
theorem d_L_mayBeUndoneBy_35 : decode b_L_mayBeUndoneBy 35 = .ok (.iaload, 1) := by decide +kernel
theorem d_L_mayBeUndoneBy_36 : decode b_L_mayBeUndoneBy 36 = .ok (.ifCond .ne 7, 3) := by decide +kernel
theorem d_L_mayBeUndoneBy_39 : decode b_L_mayBeUndoneBy 39 = .ok (.iconst 1, 1) := by decide +kernel
theorem d_L_mayBeUndoneBy_40 : decode b_L_mayBeUndoneBy 40 = .ok (.goto 4, 3) := by decide +kernel
theorem d_L_mayBeUndoneBy_43 : decode b_L_mayBeUndoneBy 43 = .ok (.iconst 0, 1) := by decide +kernel
theorem d_L_mayBeUndoneBy_44 : decode b_L_mayBeUndoneBy 44 = .ok (.ireturn, 1) := by decide +kernel
def m_L_mayBeUndoneBy (L : cL) (x1 : Int32) (x2 : Int32) : Int32 := (if (L.2.1 x2.toNatClampNeg) = x1 then (if (L.1 x2.toNatClampNeg) < 1 then 0 else (if 3 < (L.1 x2.toNatClampNeg) then 0 else (if (L.2.2.2.2.2.2.1 x2.toNatClampNeg) = 0 then 1 else 0))) else 0)
set_option maxHeartbeats 1000000 in
set_option maxRecDepth 100000 in
theorem c_L_mayBeUndoneBy (l : Launch) (dC : Nat → ClassId) (dI : Nat → Nat → Nat) (cI cZ cQ : ClassId) (u0 : Nat) (u1 : Nat) (u2 : Nat) (u3 : Nat) (u4 : Nat) (u5 : Nat) (u6 : Nat) (u7 : Nat) (u8 : Nat) (L : cL) (x1 : Int32) (x2 : Int32) (h2 : 0 ≤ x2.toInt ∧ x2.toInt < 301) : vz_C l (dC, dI) classes [(cI, .int), (cZ, .boolean), (cQ, .object "BinTrees$Person")] y_L_mayBeUndoneBy (Cond.code y_L_mayBeUndoneBy b_L_mayBeUndoneBy 3 (some .boolean) :: vz_tbl) ({ frames := 0, cells := 0, slots := 0, locals := 0 }) [.ref u0, .int x1, .int x2] (wL cI cZ u0 u1 u2 u3 u4 u5 u6 u7 u8 L) (some (.int (m_L_mayBeUndoneBy L x1 x2))) (wL cI cZ u0 u1 u2 u3 u4 u5 u6 u7 u8 L) := by
  generalize hres : (m_L_mayBeUndoneBy L x1 x2) = RES
  refine vz_C.of (by decide) (Nat.le_of_ble_eq_true rfl) ?_
  intro p e s m below meth c ls E hl hK hP hD hS
  obtain ⟨hx, hb, hr, hml, hown, hT, hlocks⟩ := E
  obtain ⟨Q, hQ⟩ : ∃ Q, Q = MQ below (vz_Q (dC, dI) classes (wL cI cZ u0 u1 u2 u3 u4 u5 u6 u7 u8 L) (some (.int RES)) (wL cI cZ u0 u1 u2 u3 u4 u5 u6 u7 u8 L)) ([.ref u0, .int x1, .int x2] : List Value).toArray s 0 0 (vz_A (wL cI cZ u0 u1 u2 u3 u4 u5 u6 u7 u8 L)) := ⟨_, rfl⟩
  rw [← hQ]
  have hl : lv_has ls 3 [(0, .ref u0), (1, .int x1), (2, .int x2)] := hl
  have T0 := ti_0
  have T1 := ti_1
  have Tm := ti_m1
  have T8 := ti_8
  have T39 := ti_39
  have T40 := ti_40
  have T4 := ti_4
  have T300 := ti_300
  have hS0 := hS
  refine lv_aload_n hx hb d_L_mayBeUndoneBy_0 rfl (lv_at hl 0 rfl) ?_
  refine va_get (D := (dC, dI)) (ci := 1) (v := .ref u2) (C := R_L) (T := F_L) (N := 10) hx hb hT i_L hown hK hP 0 rfl rfl 1 (by decide) (hT _ kw_25) (fun _ h9 => h9) rfl d_L_mayBeUndoneBy_1 ?_
  refine lv_iload_n hx hb d_L_mayBeUndoneBy_4 rfl (lv_at hl 2 rfl) ?_
  refine va_iald hx hb hK hP 2 0 rfl rfl (ti_vp (by omega) (by omega)) d_L_mayBeUndoneBy_5 ?_
  refine lv_iload_n hx hb d_L_mayBeUndoneBy_6 rfl (lv_at hl 1 rfl) ?_
  refine lv_icmp_ne (tgt := 43) hx hb d_L_mayBeUndoneBy_7 (by decide) (fun c_7 => ?_) (fun c_7 => ?_)
  · have z_7 := mt Int32.toInt_inj.mp c_7
    refine lv_iconst (v := 0) hx hb d_L_mayBeUndoneBy_43 (by decide) ?_
    rw [m_L_mayBeUndoneBy, if_neg c_7] at hres
    subst hres
    subst hQ
    exact vz_zret hx hb hr (by decide) hlocks d_L_mayBeUndoneBy_44 hS rfl hP
  · have z_7 := congrArg Int32.toInt c_7
    refine lv_aload_n hx hb d_L_mayBeUndoneBy_10 rfl (lv_at hl 0 rfl) ?_
    refine va_get (D := (dC, dI)) (ci := 1) (v := .ref u1) (C := R_L) (T := F_L) (N := 10) hx hb hT i_L hown hK hP 0 rfl rfl 0 (by decide) (hT _ kw_22) (fun _ h9 => h9) rfl d_L_mayBeUndoneBy_11 ?_
    refine lv_iload_n hx hb d_L_mayBeUndoneBy_14 rfl (lv_at hl 2 rfl) ?_
    refine va_iald hx hb hK hP 1 0 rfl rfl (ti_vp (by omega) (by omega)) d_L_mayBeUndoneBy_15 ?_
    refine lv_iconst (v := 1) hx hb d_L_mayBeUndoneBy_16 (by decide) ?_
    refine lv_icmp_lt (tgt := 43) hx hb d_L_mayBeUndoneBy_17 (by decide) (fun c_17 => ?_) (fun c_17 => ?_)
    · have z_17 := Int32.lt_iff_toInt_lt.mp c_17
      refine lv_iconst (v := 0) hx hb d_L_mayBeUndoneBy_43 (by decide) ?_
      rw [m_L_mayBeUndoneBy, if_pos c_7, if_pos c_17] at hres
      subst hres
      subst hQ
      exact vz_zret hx hb hr (by decide) hlocks d_L_mayBeUndoneBy_44 hS rfl hP
    · have z_17 := mt Int32.lt_iff_toInt_lt.mpr c_17
      refine lv_aload_n hx hb d_L_mayBeUndoneBy_20 rfl (lv_at hl 0 rfl) ?_
      refine va_get (D := (dC, dI)) (ci := 1) (v := .ref u1) (C := R_L) (T := F_L) (N := 10) hx hb hT i_L hown hK hP 0 rfl rfl 0 (by decide) (hT _ kw_22) (fun _ h9 => h9) rfl d_L_mayBeUndoneBy_21 ?_
      refine lv_iload_n hx hb d_L_mayBeUndoneBy_24 rfl (lv_at hl 2 rfl) ?_
      refine va_iald hx hb hK hP 1 0 rfl rfl (ti_vp (by omega) (by omega)) d_L_mayBeUndoneBy_25 ?_
      refine lv_iconst (v := 3) hx hb d_L_mayBeUndoneBy_26 (by decide) ?_
      refine lv_icmp_gt (tgt := 43) hx hb d_L_mayBeUndoneBy_27 (by decide) (fun c_27 => ?_) (fun c_27 => ?_)
      · have z_27 := Int32.lt_iff_toInt_lt.mp c_27
        refine lv_iconst (v := 0) hx hb d_L_mayBeUndoneBy_43 (by decide) ?_
        rw [m_L_mayBeUndoneBy, if_pos c_7, if_neg c_17, if_pos c_27] at hres
        subst hres
        subst hQ
        exact vz_zret hx hb hr (by decide) hlocks d_L_mayBeUndoneBy_44 hS rfl hP
      · have z_27 := mt Int32.lt_iff_toInt_lt.mpr c_27
        refine lv_aload_n hx hb d_L_mayBeUndoneBy_30 rfl (lv_at hl 0 rfl) ?_
        refine va_get (D := (dC, dI)) (ci := 1) (v := .ref u7) (C := R_L) (T := F_L) (N := 10) hx hb hT i_L hown hK hP 0 rfl rfl 6 (by decide) (hT _ kw_39) (fun _ h9 => h9) rfl d_L_mayBeUndoneBy_31 ?_
        refine lv_iload_n hx hb d_L_mayBeUndoneBy_34 rfl (lv_at hl 2 rfl) ?_
        refine va_iald hx hb hK hP 7 0 rfl rfl (ti_vp (by omega) (by omega)) d_L_mayBeUndoneBy_35 ?_
        refine lv_if_ne (tgt := 43) hx hb d_L_mayBeUndoneBy_36 (by decide) (fun c_36 => ?_) (fun c_36 => ?_)
        · have z_36 := mt Int32.toInt_inj.mp c_36
          refine lv_iconst (v := 0) hx hb d_L_mayBeUndoneBy_43 (by decide) ?_
          rw [m_L_mayBeUndoneBy, if_pos c_7, if_neg c_17, if_neg c_27, if_neg c_36] at hres
          subst hres
          subst hQ
          exact vz_zret hx hb hr (by decide) hlocks d_L_mayBeUndoneBy_44 hS rfl hP
        · have z_36 := congrArg Int32.toInt c_36
          refine lv_iconst (v := 1) hx hb d_L_mayBeUndoneBy_39 (by decide) ?_
          refine lv_goto (tgt := 44) hx hb d_L_mayBeUndoneBy_40 (by decide) ?_
          rw [m_L_mayBeUndoneBy, if_pos c_7, if_neg c_17, if_neg c_27, if_pos c_36] at hres
          subst hres
          subst hQ
          exact vz_zret hx hb hr (by decide) hlocks d_L_mayBeUndoneBy_44 hS rfl hP
end
section
theorem d_L_putInOrder_0 : decode b_L_putInOrder 0 = .ok (.aload_n 0, 1) := by decide +kernel
theorem d_L_putInOrder_1 : decode b_L_putInOrder 1 = .ok (.getfield 36, 3) := by decide +kernel
theorem d_L_putInOrder_4 : decode b_L_putInOrder 4 = .ok (.istore_n 2, 1) := by decide +kernel
theorem d_L_putInOrder_5 : decode b_L_putInOrder 5 = .ok (.iload_n 2, 1) := by decide +kernel
theorem d_L_putInOrder_6 : decode b_L_putInOrder 6 = .ok (.ifCond .le 39, 3) := by decide +kernel
theorem d_L_putInOrder_9 : decode b_L_putInOrder 9 = .ok (.aload_n 0, 1) := by decide +kernel
theorem d_L_putInOrder_10 : decode b_L_putInOrder 10 = .ok (.iload_n 1, 1) := by decide +kernel
theorem d_L_putInOrder_11 : decode b_L_putInOrder 11 = .ok (.aload_n 0, 1) := by decide +kernel
theorem d_L_putInOrder_12 : decode b_L_putInOrder 12 = .ok (.getfield 33, 3) := by decide +kernel
theorem d_L_putInOrder_15 : decode b_L_putInOrder 15 = .ok (.iload_n 2, 1) := by decide +kernel
theorem d_L_putInOrder_16 : decode b_L_putInOrder 16 = .ok (.iconst 1, 1) := by decide +kernel
theorem d_L_putInOrder_17 : decode b_L_putInOrder 17 = .ok (.isub, 1) := by decide +kernel
theorem d_L_putInOrder_18 : decode b_L_putInOrder 18 = .ok (.iaload, 1) := by decide +kernel
theorem d_L_putInOrder_19 : decode b_L_putInOrder 19 = .ok (.invokevirtual 44, 3) := by decide +kernel
theorem d_L_putInOrder_22 : decode b_L_putInOrder 22 = .ok (.ifCond .eq 23, 3) := by decide +kernel
theorem d_L_putInOrder_25 : decode b_L_putInOrder 25 = .ok (.aload_n 0, 1) := by decide +kernel
theorem d_L_putInOrder_26 : decode b_L_putInOrder 26 = .ok (.getfield 33, 3) := by decide +kernel
theorem d_L_putInOrder_29 : decode b_L_putInOrder 29 = .ok (.iload_n 2, 1) := by decide +kernel
theorem d_L_putInOrder_30 : decode b_L_putInOrder 30 = .ok (.aload_n 0, 1) := by decide +kernel
theorem d_L_putInOrder_31 : decode b_L_putInOrder 31 = .ok (.getfield 33, 3) := by decide +kernel
theorem d_L_putInOrder_34 : decode b_L_putInOrder 34 = .ok (.iload_n 2, 1) := by decide +kernel
theorem d_L_putInOrder_35 : decode b_L_putInOrder 35 = .ok (.iconst 1, 1) := by decide +kernel
theorem d_L_putInOrder_36 : decode b_L_putInOrder 36 = .ok (.isub, 1) := by decide +kernel
theorem d_L_putInOrder_37 : decode b_L_putInOrder 37 = .ok (.iaload, 1) := by decide +kernel
theorem d_L_putInOrder_38 : decode b_L_putInOrder 38 = .ok (.iastore, 1) := by decide +kernel
theorem d_L_putInOrder_39 : decode b_L_putInOrder 39 = .ok (.iinc 2 (-1), 3) := by decide +kernel
theorem d_L_putInOrder_42 : decode b_L_putInOrder 42 = .ok (.goto (-37), 3) := by decide +kernel
theorem d_L_putInOrder_45 : decode b_L_putInOrder 45 = .ok (.aload_n 0, 1) := by decide +kernel
theorem d_L_putInOrder_46 : decode b_L_putInOrder 46 = .ok (.getfield 33, 3) := by decide +kernel
theorem d_L_putInOrder_49 : decode b_L_putInOrder 49 = .ok (.iload_n 2, 1) := by decide +kernel
theorem d_L_putInOrder_50 : decode b_L_putInOrder 50 = .ok (.iload_n 1, 1) := by decide +kernel
theorem d_L_putInOrder_51 : decode b_L_putInOrder 51 = .ok (.iastore, 1) := by decide +kernel
theorem d_L_putInOrder_52 : decode b_L_putInOrder 52 = .ok (.return_, 1) := by decide +kernel
theorem hW_L_putInOrder_51 (cI cZ cQ : ClassId) (q0 q1 q2 q3 q4 q5 q6 q7 q8 : Nat) (S0 : cL) (v : cA) : (wL cI cZ q0 q1 q2 q3 q4 q5 q6 q7 q8 S0 : va_W).set 8 (q8, .inl (cI, 300, .inl v)) = wL cI cZ q0 q1 q2 q3 q4 q5 q6 q7 q8 (S0.1, S0.2.1, S0.2.2.1, S0.2.2.2.1, S0.2.2.2.2.1, S0.2.2.2.2.2.1, S0.2.2.2.2.2.2.1, v, S0.2.2.2.2.2.2.2.2.1, S0.2.2.2.2.2.2.2.2.2) := rfl
theorem hC_L_putInOrder_19 (cI cZ cQ : ClassId) (q0 q1 q2 q3 q4 q5 q6 q7 q8 : Nat) (S0 : cL) : ([0, 1, 2, 3, 4, 5, 6, 7, 8] : List Nat).map (fun i => (wL cI cZ q0 q1 q2 q3 q4 q5 q6 q7 q8 S0 : va_W)[i]?) = (wL cI cZ q0 q1 q2 q3 q4 q5 q6 q7 q8 S0 : va_W).map some := rfl
theorem hF_L_isAhead (cI cZ cQ : ClassId) {u0 u1 u2 u3 u4 u5 u6 u7 u8 : Nat} (S0 R0 : cL) : (wL cI cZ u0 u1 u2 u3 u4 u5 u6 u7 u8 R0 : va_W).map Prod.fst = (wL cI cZ u0 u1 u2 u3 u4 u5 u6 u7 u8 S0 : va_W).map Prod.fst := rfl
theorem hU_L_putInOrder_19 (cI cZ cQ : ClassId) (q0 q1 q2 q3 q4 q5 q6 q7 q8 : Nat) (S0 : cL)  : vz_put (wL cI cZ q0 q1 q2 q3 q4 q5 q6 q7 q8 S0 : va_W) [0, 1, 2, 3, 4, 5, 6, 7, 8] (wL cI cZ q0 q1 q2 q3 q4 q5 q6 q7 q8 S0 : va_W) = wL cI cZ q0 q1 q2 q3 q4 q5 q6 q7 q8 S0 := (show vz_put ([(q0, .inr (1, [.ref q1, .ref q2, .ref q3, .ref q4, .ref q5, .ref q6, .ref q7, .ref q8, .int S0.2.2.2.2.2.2.2.2.1, .int S0.2.2.2.2.2.2.2.2.2])), (q1, .inl (cI, 301, .inl S0.1)), (q2, .inl (cI, 301, .inl S0.2.1)), (q3, .inl (cI, 301, .inl S0.2.2.1)), (q4, .inl (cI, 301, .inl S0.2.2.2.1)), (q5, .inl (cI, 301, .inl S0.2.2.2.2.1)), (q6, .inl (cI, 301, .inl S0.2.2.2.2.2.1)), (q7, .inl (cI, 301, .inl S0.2.2.2.2.2.2.1)), (q8, .inl (cI, 300, .inl S0.2.2.2.2.2.2.2.1))] : va_W) [0, 1, 2, 3, 4, 5, 6, 7, 8] ([(q0, .inr (1, [.ref q1, .ref q2, .ref q3, .ref q4, .ref q5, .ref q6, .ref q7, .ref q8, .int S0.2.2.2.2.2.2.2.2.1, .int S0.2.2.2.2.2.2.2.2.2])), (q1, .inl (cI, 301, .inl S0.1)), (q2, .inl (cI, 301, .inl S0.2.1)), (q3, .inl (cI, 301, .inl S0.2.2.1)), (q4, .inl (cI, 301, .inl S0.2.2.2.1)), (q5, .inl (cI, 301, .inl S0.2.2.2.2.1)), (q6, .inl (cI, 301, .inl S0.2.2.2.2.2.1)), (q7, .inl (cI, 301, .inl S0.2.2.2.2.2.2.1)), (q8, .inl (cI, 300, .inl S0.2.2.2.2.2.2.2.1))] : va_W) = [(q0, .inr (1, [.ref q1, .ref q2, .ref q3, .ref q4, .ref q5, .ref q6, .ref q7, .ref q8, .int S0.2.2.2.2.2.2.2.2.1, .int S0.2.2.2.2.2.2.2.2.2])), (q1, .inl (cI, 301, .inl S0.1)), (q2, .inl (cI, 301, .inl S0.2.1)), (q3, .inl (cI, 301, .inl S0.2.2.1)), (q4, .inl (cI, 301, .inl S0.2.2.2.1)), (q5, .inl (cI, 301, .inl S0.2.2.2.2.1)), (q6, .inl (cI, 301, .inl S0.2.2.2.2.2.1)), (q7, .inl (cI, 301, .inl S0.2.2.2.2.2.2.1)), (q8, .inl (cI, 300, .inl S0.2.2.2.2.2.2.2.1))] from rfl).trans rfl
theorem hW_L_putInOrder_38 (cI cZ cQ : ClassId) (q0 q1 q2 q3 q4 q5 q6 q7 q8 : Nat) (S0 : cL) (v : cA) : (wL cI cZ q0 q1 q2 q3 q4 q5 q6 q7 q8 S0 : va_W).set 8 (q8, .inl (cI, 300, .inl v)) = wL cI cZ q0 q1 q2 q3 q4 q5 q6 q7 q8 (S0.1, S0.2.1, S0.2.2.1, S0.2.2.2.1, S0.2.2.2.2.1, S0.2.2.2.2.2.1, S0.2.2.2.2.2.2.1, v, S0.2.2.2.2.2.2.2.2.1, S0.2.2.2.2.2.2.2.2.2) := rfl
def l_L_putInOrder_5 (L : cL) (x1 : Int32) : Nat → Int32 → cA → cL
  | 0, _, _ => L
  | n + 1, x2, f => (if x2 ≤ 0 then (L.1, L.2.1, L.2.2.1, L.2.2.2.1, L.2.2.2.2.1, L.2.2.2.2.2.1, L.2.2.2.2.2.2.1, upd f x2.toNatClampNeg x1, L.2.2.2.2.2.2.2.2.1, L.2.2.2.2.2.2.2.2.2) else (if (m_L_isAhead (L.1, L.2.1, L.2.2.1, L.2.2.2.1, L.2.2.2.2.1, L.2.2.2.2.2.1, L.2.2.2.2.2.2.1, f, L.2.2.2.2.2.2.2.2.1, L.2.2.2.2.2.2.2.2.2) x1 (f (x2 - 1).toNatClampNeg)) = 0 then (L.1, L.2.1, L.2.2.1, L.2.2.2.1, L.2.2.2.2.1, L.2.2.2.2.2.1, L.2.2.2.2.2.2.1, upd f x2.toNatClampNeg x1, L.2.2.2.2.2.2.2.2.1, L.2.2.2.2.2.2.2.2.2) else (l_L_putInOrder_5 L x1 n (x2 + (-1)) (upd f x2.toNatClampNeg (f (x2 - 1).toNatClampNeg)))))
def m_L_putInOrder (L : cL) (x1 : Int32) : cL := (l_L_putInOrder_5 L x1 301 L.2.2.2.2.2.2.2.2.1 L.2.2.2.2.2.2.2.1)
set_option maxHeartbeats 1000000 in
set_option maxRecDepth 100000 in
theorem c_L_putInOrder (l : Launch) (dC : Nat → ClassId) (dI : Nat → Nat → Nat) (cI cZ cQ : ClassId) (u0 : Nat) (u1 : Nat) (u2 : Nat) (u3 : Nat) (u4 : Nat) (u5 : Nat) (u6 : Nat) (u7 : Nat) (u8 : Nat) (L : cL) (x1 : Int32) (hcnt : 0 ≤ L.2.2.2.2.2.2.2.2.1.toInt ∧ L.2.2.2.2.2.2.2.2.1.toInt < 300) (hord : ∀ j, j < 300 → 0 ≤ (L.2.2.2.2.2.2.2.1 j).toInt ∧ (L.2.2.2.2.2.2.2.1 j).toInt < 301) (h1 : 0 ≤ x1.toInt ∧ x1.toInt < 301) : vz_C l (dC, dI) classes [(cI, .int), (cZ, .boolean), (cQ, .object "BinTrees$Person")] y_L_putInOrder (Cond.code y_L_putInOrder b_L_putInOrder 3 none :: vz_tbl) ({ frames := 1, cells := 0, slots := 0, locals := 22 }) [.ref u0, .int x1] (wL cI cZ u0 u1 u2 u3 u4 u5 u6 u7 u8 L) (none) (wL cI cZ u0 u1 u2 u3 u4 u5 u6 u7 u8 (m_L_putInOrder L x1)) := by
  generalize hres : (m_L_putInOrder L x1) = RES
  refine vz_C.of (by decide) (Nat.le_of_ble_eq_true rfl) ?_
  intro p e s m below meth c ls E hl hK hP hD hS
  obtain ⟨hx, hb, hr, hml, hown, hT, hlocks⟩ := E
  obtain ⟨Q, hQ⟩ : ∃ Q, Q = MQ below (vz_Q (dC, dI) classes (wL cI cZ u0 u1 u2 u3 u4 u5 u6 u7 u8 L) (none) (wL cI cZ u0 u1 u2 u3 u4 u5 u6 u7 u8 RES)) ([.ref u0, .int x1] : List Value).toArray s 0 0 (vz_A (wL cI cZ u0 u1 u2 u3 u4 u5 u6 u7 u8 L)) := ⟨_, rfl⟩
  rw [← hQ]
  have hl : lv_has ls 3 [(0, .ref u0), (1, .int x1)] := hl
  have T0 := ti_0
  have T1 := ti_1
  have Tm := ti_m1
  have T8 := ti_8
  have T39 := ti_39
  have T40 := ti_40
  have T4 := ti_4
  have T300 := ti_300
  have k_5 : ∀ (n : Nat) (x2 : Int32) (f : cA), l_L_putInOrder_5 L x1 n x2 f = RES → (0 ≤ x2.toInt ∧ x2.toInt ≤ L.2.2.2.2.2.2.2.2.1.toInt ∧ x2.toInt < n) → (∀ j, j < 300 → 0 ≤ (f j).toInt ∧ (f j).toInt < 301) → ∀ (H : Heap) (locs : List Loc) (ls : Array Slot), va_P (dC, dI) classes (wL cI cZ u0 u1 u2 u3 u4 u5 u6 u7 u8 (L.1, L.2.1, L.2.2.1, L.2.2.2.1, L.2.2.2.2.1, L.2.2.2.2.2.1, L.2.2.2.2.2.2.1, f, L.2.2.2.2.2.2.2.2.1, L.2.2.2.2.2.2.2.2.2)) H → va_D (vz_A (wL cI cZ u0 u1 u2 u3 u4 u5 u6 u7 u8 L)) (wL cI cZ u0 u1 u2 u3 u4 u5 u6 u7 u8 (L.1, L.2.1, L.2.2.1, L.2.2.2.1, L.2.2.2.2.1, L.2.2.2.2.2.1, L.2.2.2.2.2.2.1, f, L.2.2.2.2.2.2.2.2.1, L.2.2.2.2.2.2.2.2.2)) → va_S (vz_A (wL cI cZ u0 u1 u2 u3 u4 u5 u6 u7 u8 L)) s.heap H locs → lv_has ls 3 [(0, .ref u0), (1, .int x1), (2, .int x2)] → W p l e ({ frames := 1, cells := 0, slots := 0, locals := 22 }) s m ([.ref u0, .int x1] : List Value).toArray below meth c H locs 0 0 Q (F0 m 5 ls []) := by
    intro n
    induction n with
    | zero =>
      intro x2 f hres i2 hf H locs ls hP hD hS hl
      exfalso
      omega
    | succ n ih =>
      intro x2 f hres i2 hf H locs ls hP hD hS hl
      refine lv_iload_n hx hb d_L_putInOrder_5 rfl (lv_at hl 2 rfl) ?_
      refine lv_if_le (tgt := 45) hx hb d_L_putInOrder_6 (by decide) (fun c_6 => ?_) (fun c_6 => ?_)
      · have z_6 := Int32.le_iff_toInt_le.mp c_6
        refine lv_aload_n hx hb d_L_putInOrder_45 rfl (lv_at hl 0 rfl) ?_
        refine va_get (D := (dC, dI)) (ci := 1) (v := .ref u8) (C := R_L) (T := F_L) (N := 10) hx hb hT i_L hown hK hP 0 rfl rfl 7 (by decide) (hT _ kw_41) (fun _ h9 => h9) rfl d_L_putInOrder_46 ?_
        refine lv_iload_n hx hb d_L_putInOrder_49 rfl (lv_at hl 2 rfl) ?_
        refine lv_iload_n hx hb d_L_putInOrder_50 rfl (lv_at hl 1 rfl) ?_
        refine va_iast hx hb hK hP hD hS 8 0 rfl rfl (ti_vp (by omega) (by omega)) d_L_putInOrder_51 (fun H locs hP hD hS => ?_)
        have hP : va_P (dC, dI) classes (wL cI cZ u0 u1 u2 u3 u4 u5 u6 u7 u8 (L.1, L.2.1, L.2.2.1, L.2.2.2.1, L.2.2.2.2.1, L.2.2.2.2.2.1, L.2.2.2.2.2.2.1, upd f x2.toNatClampNeg x1, L.2.2.2.2.2.2.2.2.1, L.2.2.2.2.2.2.2.2.2)) H := vz_reP (hW_L_putInOrder_51 cI cZ cQ u0 u1 u2 u3 u4 u5 u6 u7 u8 (L.1, L.2.1, L.2.2.1, L.2.2.2.1, L.2.2.2.2.1, L.2.2.2.2.2.1, L.2.2.2.2.2.2.1, f, L.2.2.2.2.2.2.2.2.1, L.2.2.2.2.2.2.2.2.2) (upd f x2.toNatClampNeg x1)) hP
        have hD : va_D (vz_A (wL cI cZ u0 u1 u2 u3 u4 u5 u6 u7 u8 L)) (wL cI cZ u0 u1 u2 u3 u4 u5 u6 u7 u8 (L.1, L.2.1, L.2.2.1, L.2.2.2.1, L.2.2.2.2.1, L.2.2.2.2.2.1, L.2.2.2.2.2.2.1, upd f x2.toNatClampNeg x1, L.2.2.2.2.2.2.2.2.1, L.2.2.2.2.2.2.2.2.2)) := vz_reD (hW_L_putInOrder_51 cI cZ cQ u0 u1 u2 u3 u4 u5 u6 u7 u8 (L.1, L.2.1, L.2.2.1, L.2.2.2.1, L.2.2.2.2.1, L.2.2.2.2.2.1, L.2.2.2.2.2.2.1, f, L.2.2.2.2.2.2.2.2.1, L.2.2.2.2.2.2.2.2.2) (upd f x2.toNatClampNeg x1)) hD
        rw [l_L_putInOrder_5, if_pos c_6] at hres
        subst hres
        subst hQ
        exact vz_vret hx hb hr hlocks d_L_putInOrder_52 hS rfl hP
      · have z_6 := mt Int32.le_iff_toInt_le.mpr c_6
        refine lv_aload_n hx hb d_L_putInOrder_9 rfl (lv_at hl 0 rfl) ?_
        refine lv_iload_n hx hb d_L_putInOrder_10 rfl (lv_at hl 1 rfl) ?_
        refine lv_aload_n hx hb d_L_putInOrder_11 rfl (lv_at hl 0 rfl) ?_
        refine va_get (D := (dC, dI)) (ci := 1) (v := .ref u8) (C := R_L) (T := F_L) (N := 10) hx hb hT i_L hown hK hP 0 rfl rfl 7 (by decide) (hT _ kw_41) (fun _ h9 => h9) rfl d_L_putInOrder_12 ?_
        refine lv_iload_n hx hb d_L_putInOrder_15 rfl (lv_at hl 2 rfl) ?_
        refine lv_iconst (v := 1) hx hb d_L_putInOrder_16 (by decide) ?_
        refine lv_isub hx hb d_L_putInOrder_17 ?_
        refine va_iald hx hb hK hP 8 0 rfl rfl (ti_vp (by rw [ti_dec' (by omega)]; omega) (by rw [ti_dec' (by omega)]; omega)) d_L_putInOrder_18 ?_
        have hc := c_L_isAhead l dC dI cI cZ cQ u0 u1 u2 u3 u4 u5 u6 u7 u8 (L.1, L.2.1, L.2.2.1, L.2.2.2.1, L.2.2.2.2.1, L.2.2.2.2.2.1, L.2.2.2.2.2.2.1, f, L.2.2.2.2.2.2.2.2.1, L.2.2.2.2.2.2.2.2.2) x1 (f (x2 - 1).toNatClampNeg) (h1) (hf _ (ti_ix (by rw [ti_dec' (by omega)]; omega) (by rw [ti_dec' (by omega)]; omega)))
        generalize hg_19 : (m_L_isAhead (L.1, L.2.1, L.2.2.1, L.2.2.2.1, L.2.2.2.2.1, L.2.2.2.2.2.1, L.2.2.2.2.2.2.1, f, L.2.2.2.2.2.2.2.2.1, L.2.2.2.2.2.2.2.2.2) x1 (f (x2 - 1).toNatClampNeg)) = g_19 at hc
        refine vz_callV (As := [.int x1, .int (f (x2 - 1).toNatClampNeg)]) (rest := []) ⟨hx, hb, hml, hown, hT⟩ hc (vz_goodV kw_158 kw_160 ks_2 kw_2 kw_161) ⟨rfl, hd_L_isAhead⟩ ⟨⟨rfl, rfl⟩, Nat.le_of_ble_eq_true rfl, Nat.le_of_ble_eq_true rfl⟩ hK hP hD hS [0, 1, 2, 3, 4, 5, 6, 7, 8] rfl (hC_L_putInOrder_19 cI cZ cQ u0 u1 u2 u3 u4 u5 u6 u7 u8 (L.1, L.2.1, L.2.2.1, L.2.2.2.1, L.2.2.2.2.1, L.2.2.2.2.2.1, L.2.2.2.2.2.2.1, f, L.2.2.2.2.2.2.2.2.1, L.2.2.2.2.2.2.2.2.2)) (hF_L_isAhead cI cZ cQ _ _) 0 1 rfl rfl rfl rfl hl.1 rfl (Nat.le_of_ble_eq_true rfl) ⟨Nat.zero_le _, Nat.zero_le _⟩ d_L_putInOrder_19 (fun H locs hP hD hS => ?_)
        have hP : va_P (dC, dI) classes (wL cI cZ u0 u1 u2 u3 u4 u5 u6 u7 u8 (L.1, L.2.1, L.2.2.1, L.2.2.2.1, L.2.2.2.2.1, L.2.2.2.2.2.1, L.2.2.2.2.2.2.1, f, L.2.2.2.2.2.2.2.2.1, L.2.2.2.2.2.2.2.2.2)) H := vz_reP (hU_L_putInOrder_19 cI cZ cQ u0 u1 u2 u3 u4 u5 u6 u7 u8 (L.1, L.2.1, L.2.2.1, L.2.2.2.1, L.2.2.2.2.1, L.2.2.2.2.2.1, L.2.2.2.2.2.2.1, f, L.2.2.2.2.2.2.2.2.1, L.2.2.2.2.2.2.2.2.2) ) hP
        have hD : va_D (vz_A (wL cI cZ u0 u1 u2 u3 u4 u5 u6 u7 u8 L)) (wL cI cZ u0 u1 u2 u3 u4 u5 u6 u7 u8 (L.1, L.2.1, L.2.2.1, L.2.2.2.1, L.2.2.2.2.1, L.2.2.2.2.2.1, L.2.2.2.2.2.2.1, f, L.2.2.2.2.2.2.2.2.1, L.2.2.2.2.2.2.2.2.2)) := vz_reD (hU_L_putInOrder_19 cI cZ cQ u0 u1 u2 u3 u4 u5 u6 u7 u8 (L.1, L.2.1, L.2.2.1, L.2.2.2.1, L.2.2.2.2.1, L.2.2.2.2.2.1, L.2.2.2.2.2.2.1, f, L.2.2.2.2.2.2.2.2.1, L.2.2.2.2.2.2.2.2.2) ) hD
        refine W.eq (g2 := F0 m 22 ls [.int g_19]) rfl ?_
        refine lv_if_eq (tgt := 45) hx hb d_L_putInOrder_22 (by decide) (fun c_22 => ?_) (fun c_22 => ?_)
        · have z_22 := congrArg Int32.toInt c_22
          refine lv_aload_n hx hb d_L_putInOrder_45 rfl (lv_at hl 0 rfl) ?_
          refine va_get (D := (dC, dI)) (ci := 1) (v := .ref u8) (C := R_L) (T := F_L) (N := 10) hx hb hT i_L hown hK hP 0 rfl rfl 7 (by decide) (hT _ kw_41) (fun _ h9 => h9) rfl d_L_putInOrder_46 ?_
          refine lv_iload_n hx hb d_L_putInOrder_49 rfl (lv_at hl 2 rfl) ?_
          refine lv_iload_n hx hb d_L_putInOrder_50 rfl (lv_at hl 1 rfl) ?_
          refine va_iast hx hb hK hP hD hS 8 0 rfl rfl (ti_vp (by omega) (by omega)) d_L_putInOrder_51 (fun H locs hP hD hS => ?_)
          have hP : va_P (dC, dI) classes (wL cI cZ u0 u1 u2 u3 u4 u5 u6 u7 u8 (L.1, L.2.1, L.2.2.1, L.2.2.2.1, L.2.2.2.2.1, L.2.2.2.2.2.1, L.2.2.2.2.2.2.1, upd f x2.toNatClampNeg x1, L.2.2.2.2.2.2.2.2.1, L.2.2.2.2.2.2.2.2.2)) H := vz_reP (hW_L_putInOrder_51 cI cZ cQ u0 u1 u2 u3 u4 u5 u6 u7 u8 (L.1, L.2.1, L.2.2.1, L.2.2.2.1, L.2.2.2.2.1, L.2.2.2.2.2.1, L.2.2.2.2.2.2.1, f, L.2.2.2.2.2.2.2.2.1, L.2.2.2.2.2.2.2.2.2) (upd f x2.toNatClampNeg x1)) hP
          have hD : va_D (vz_A (wL cI cZ u0 u1 u2 u3 u4 u5 u6 u7 u8 L)) (wL cI cZ u0 u1 u2 u3 u4 u5 u6 u7 u8 (L.1, L.2.1, L.2.2.1, L.2.2.2.1, L.2.2.2.2.1, L.2.2.2.2.2.1, L.2.2.2.2.2.2.1, upd f x2.toNatClampNeg x1, L.2.2.2.2.2.2.2.2.1, L.2.2.2.2.2.2.2.2.2)) := vz_reD (hW_L_putInOrder_51 cI cZ cQ u0 u1 u2 u3 u4 u5 u6 u7 u8 (L.1, L.2.1, L.2.2.1, L.2.2.2.1, L.2.2.2.2.1, L.2.2.2.2.2.1, L.2.2.2.2.2.2.1, f, L.2.2.2.2.2.2.2.2.1, L.2.2.2.2.2.2.2.2.2) (upd f x2.toNatClampNeg x1)) hD
          rw [l_L_putInOrder_5, if_neg c_6] at hres
          try rw [hg_19] at hres
          rw [if_pos c_22] at hres
          subst hres
          subst hQ
          exact vz_vret hx hb hr hlocks d_L_putInOrder_52 hS rfl hP
        · have z_22 := mt Int32.toInt_inj.mp c_22
          refine lv_aload_n hx hb d_L_putInOrder_25 rfl (lv_at hl 0 rfl) ?_
          refine va_get (D := (dC, dI)) (ci := 1) (v := .ref u8) (C := R_L) (T := F_L) (N := 10) hx hb hT i_L hown hK hP 0 rfl rfl 7 (by decide) (hT _ kw_41) (fun _ h9 => h9) rfl d_L_putInOrder_26 ?_
          refine lv_iload_n hx hb d_L_putInOrder_29 rfl (lv_at hl 2 rfl) ?_
          refine lv_aload_n hx hb d_L_putInOrder_30 rfl (lv_at hl 0 rfl) ?_
          refine va_get (D := (dC, dI)) (ci := 1) (v := .ref u8) (C := R_L) (T := F_L) (N := 10) hx hb hT i_L hown hK hP 0 rfl rfl 7 (by decide) (hT _ kw_41) (fun _ h9 => h9) rfl d_L_putInOrder_31 ?_
          refine lv_iload_n hx hb d_L_putInOrder_34 rfl (lv_at hl 2 rfl) ?_
          refine lv_iconst (v := 1) hx hb d_L_putInOrder_35 (by decide) ?_
          refine lv_isub hx hb d_L_putInOrder_36 ?_
          refine va_iald hx hb hK hP 8 0 rfl rfl (ti_vp (by rw [ti_dec' (by omega)]; omega) (by rw [ti_dec' (by omega)]; omega)) d_L_putInOrder_37 ?_
          refine va_iast hx hb hK hP hD hS 8 0 rfl rfl (ti_vp (by omega) (by omega)) d_L_putInOrder_38 (fun H locs hP hD hS => ?_)
          have hP : va_P (dC, dI) classes (wL cI cZ u0 u1 u2 u3 u4 u5 u6 u7 u8 (L.1, L.2.1, L.2.2.1, L.2.2.2.1, L.2.2.2.2.1, L.2.2.2.2.2.1, L.2.2.2.2.2.2.1, upd f x2.toNatClampNeg (f (x2 - 1).toNatClampNeg), L.2.2.2.2.2.2.2.2.1, L.2.2.2.2.2.2.2.2.2)) H := vz_reP (hW_L_putInOrder_38 cI cZ cQ u0 u1 u2 u3 u4 u5 u6 u7 u8 (L.1, L.2.1, L.2.2.1, L.2.2.2.1, L.2.2.2.2.1, L.2.2.2.2.2.1, L.2.2.2.2.2.2.1, f, L.2.2.2.2.2.2.2.2.1, L.2.2.2.2.2.2.2.2.2) (upd f x2.toNatClampNeg (f (x2 - 1).toNatClampNeg))) hP
          have hD : va_D (vz_A (wL cI cZ u0 u1 u2 u3 u4 u5 u6 u7 u8 L)) (wL cI cZ u0 u1 u2 u3 u4 u5 u6 u7 u8 (L.1, L.2.1, L.2.2.1, L.2.2.2.1, L.2.2.2.2.1, L.2.2.2.2.2.1, L.2.2.2.2.2.2.1, upd f x2.toNatClampNeg (f (x2 - 1).toNatClampNeg), L.2.2.2.2.2.2.2.2.1, L.2.2.2.2.2.2.2.2.2)) := vz_reD (hW_L_putInOrder_38 cI cZ cQ u0 u1 u2 u3 u4 u5 u6 u7 u8 (L.1, L.2.1, L.2.2.1, L.2.2.2.1, L.2.2.2.2.1, L.2.2.2.2.2.1, L.2.2.2.2.2.2.1, f, L.2.2.2.2.2.2.2.2.1, L.2.2.2.2.2.2.2.2.2) (upd f x2.toNatClampNeg (f (x2 - 1).toNatClampNeg))) hD
          refine lv_iinc (v := x2 + (-1)) (lv' := [(2, .int (x2 + (-1))), (0, .ref u0), (1, .int x1)]) hx hb d_L_putInOrder_39 hl (k := 2) rfl rfl (by decide) rfl (fun ls hl => ?_)
          refine lv_goto (tgt := 5) hx hb d_L_putInOrder_42 (by decide) ?_
          rw [l_L_putInOrder_5, if_neg c_6] at hres
          try rw [hg_19] at hres
          rw [if_neg c_22] at hres
          exact ih (x2 + (-1)) (upd f x2.toNatClampNeg (f (x2 - 1).toNatClampNeg))  hres (by rw [ti_dec (by omega)]; omega) (upd_rg hf (hf _ (ti_ix (by rw [ti_dec' (by omega)]; omega) (by rw [ti_dec' (by omega)]; omega)))) H locs ls hP hD hS (lv_sub hl [1, 2, 0] rfl)
  have hS0 := hS
  refine lv_aload_n hx hb d_L_putInOrder_0 rfl (lv_at hl 0 rfl) ?_
  refine va_get (D := (dC, dI)) (ci := 1) (v := .int L.2.2.2.2.2.2.2.2.1) (C := R_L) (T := F_L) (N := 10) hx hb hT i_L hown hK hP 0 rfl rfl 8 (by decide) (hT _ kw_44) (fun _ h9 => h9) rfl d_L_putInOrder_1 ?_
  refine lv_istore_n (lv' := [(2, .int L.2.2.2.2.2.2.2.2.1), (0, .ref u0), (1, .int x1)]) hx hb d_L_putInOrder_4 rfl hl (by decide) rfl (fun ls hl => ?_)
  rw [m_L_putInOrder] at hres
  exact k_5 301 L.2.2.2.2.2.2.2.2.1 L.2.2.2.2.2.2.2.1  hres (by omega) (hord) _ _ ls hP hD hS (lv_sub hl [1, 2, 0] rfl)
end
section
theorem d_L_add_0 : decode b_L_add 0 = .ok (.aload_n 0, 1) := by decide +kernel
theorem d_L_add_1 : decode b_L_add 1 = .ok (.getfield 36, 3) := by decide +kernel
theorem d_L_add_4 : decode b_L_add 4 = .ok (.iconst 1, 1) := by decide +kernel
theorem d_L_add_5 : decode b_L_add 5 = .ok (.iadd, 1) := by decide +kernel
theorem d_L_add_6 : decode b_L_add 6 = .ok (.istore 7, 2) := by decide +kernel
theorem d_L_add_8 : decode b_L_add 8 = .ok (.aload_n 0, 1) := by decide +kernel
theorem d_L_add_9 : decode b_L_add 9 = .ok (.getfield 9, 3) := by decide +kernel
theorem d_L_add_12 : decode b_L_add 12 = .ok (.iload 7, 2) := by decide +kernel
theorem d_L_add_14 : decode b_L_add 14 = .ok (.iload_n 1, 1) := by decide +kernel
theorem d_L_add_15 : decode b_L_add 15 = .ok (.iastore, 1) := by decide +kernel
theorem d_L_add_16 : decode b_L_add 16 = .ok (.aload_n 0, 1) := by decide +kernel
theorem d_L_add_17 : decode b_L_add 17 = .ok (.getfield 15, 3) := by decide +kernel
theorem d_L_add_20 : decode b_L_add 20 = .ok (.iload 7, 2) := by decide +kernel
theorem d_L_add_22 : decode b_L_add 22 = .ok (.iload_n 2, 1) := by decide +kernel
theorem d_L_add_23 : decode b_L_add 23 = .ok (.iastore, 1) := by decide +kernel
theorem d_L_add_24 : decode b_L_add 24 = .ok (.aload_n 0, 1) := by decide +kernel
theorem d_L_add_25 : decode b_L_add 25 = .ok (.getfield 18, 3) := by decide +kernel
theorem d_L_add_28 : decode b_L_add 28 = .ok (.iload 7, 2) := by decide +kernel
theorem d_L_add_30 : decode b_L_add 30 = .ok (.iload_n 3, 1) := by decide +kernel
theorem d_L_add_31 : decode b_L_add 31 = .ok (.iastore, 1) := by decide +kernel
theorem d_L_add_32 : decode b_L_add 32 = .ok (.aload_n 0, 1) := by decide +kernel
theorem d_L_add_33 : decode b_L_add 33 = .ok (.getfield 21, 3) := by decide +kernel
theorem d_L_add_36 : decode b_L_add 36 = .ok (.iload 7, 2) := by decide +kernel
theorem d_L_add_38 : decode b_L_add 38 = .ok (.iload 4, 2) := by decide +kernel
theorem d_L_add_40 : decode b_L_add 40 = .ok (.iastore, 1) := by decide +kernel
theorem d_L_add_41 : decode b_L_add 41 = .ok (.aload_n 0, 1) := by decide +kernel
theorem d_L_add_42 : decode b_L_add 42 = .ok (.getfield 24, 3) := by decide +kernel
theorem d_L_add_45 : decode b_L_add 45 = .ok (.iload 7, 2) := by decide +kernel
theorem d_L_add_47 : decode b_L_add 47 = .ok (.iload 5, 2) := by decide +kernel
theorem d_L_add_49 : decode b_L_add 49 = .ok (.iastore, 1) := by decide +kernel
theorem d_L_add_50 : decode b_L_add 50 = .ok (.aload_n 0, 1) := by decide +kernel
theorem d_L_add_51 : decode b_L_add 51 = .ok (.getfield 27, 3) := by decide +kernel
theorem d_L_add_54 : decode b_L_add 54 = .ok (.iload 7, 2) := by decide +kernel
theorem d_L_add_56 : decode b_L_add 56 = .ok (.iload 6, 2) := by decide +kernel
theorem d_L_add_58 : decode b_L_add 58 = .ok (.iastore, 1) := by decide +kernel
theorem d_L_add_59 : decode b_L_add 59 = .ok (.iload_n 1, 1) := by decide +kernel
theorem d_L_add_60 : decode b_L_add 60 = .ok (.iconst 4, 1) := by decide +kernel
theorem d_L_add_61 : decode b_L_add 61 = .ok (.if_icmp .ne 12, 3) := by decide +kernel
theorem d_L_add_64 : decode b_L_add 64 = .ok (.aload_n 0, 1) := by decide +kernel
theorem d_L_add_65 : decode b_L_add 65 = .ok (.getfield 30, 3) := by decide +kernel
theorem d_L_add_68 : decode b_L_add 68 = .ok (.iload 4, 2) := by decide +kernel
theorem d_L_add_70 : decode b_L_add 70 = .ok (.iload 7, 2) := by decide +kernel
theorem d_L_add_72 : decode b_L_add 72 = .ok (.iastore, 1) := by decide +kernel
theorem d_L_add_73 : decode b_L_add 73 = .ok (.aload_n 0, 1) := by decide +kernel
theorem d_L_add_74 : decode b_L_add 74 = .ok (.iload 7, 2) := by decide +kernel
theorem d_L_add_76 : decode b_L_add 76 = .ok (.invokevirtual 40, 3) := by decide +kernel
theorem d_L_add_79 : decode b_L_add 79 = .ok (.aload_n 0, 1) := by decide +kernel
theorem d_L_add_80 : decode b_L_add 80 = .ok (.iload 7, 2) := by decide +kernel
theorem d_L_add_82 : decode b_L_add 82 = .ok (.putfield 36, 3) := by decide +kernel
theorem d_L_add_85 : decode b_L_add 85 = .ok (.iload 7, 2) := by decide +kernel
theorem d_L_add_87 : decode b_L_add 87 = .ok (.ireturn, 1) := by decide +kernel
theorem hW_L_add_15 (cI cZ cQ : ClassId) (q0 q1 q2 q3 q4 q5 q6 q7 q8 : Nat) (S0 : cL) (v : cA) : (wL cI cZ q0 q1 q2 q3 q4 q5 q6 q7 q8 S0 : va_W).set 1 (q1, .inl (cI, 301, .inl v)) = wL cI cZ q0 q1 q2 q3 q4 q5 q6 q7 q8 (v, S0.2.1, S0.2.2.1, S0.2.2.2.1, S0.2.2.2.2.1, S0.2.2.2.2.2.1, S0.2.2.2.2.2.2.1, S0.2.2.2.2.2.2.2.1, S0.2.2.2.2.2.2.2.2.1, S0.2.2.2.2.2.2.2.2.2) := rfl
theorem hW_L_add_23 (cI cZ cQ : ClassId) (q0 q1 q2 q3 q4 q5 q6 q7 q8 : Nat) (S0 : cL) (v : cA) : (wL cI cZ q0 q1 q2 q3 q4 q5 q6 q7 q8 S0 : va_W).set 2 (q2, .inl (cI, 301, .inl v)) = wL cI cZ q0 q1 q2 q3 q4 q5 q6 q7 q8 (S0.1, v, S0.2.2.1, S0.2.2.2.1, S0.2.2.2.2.1, S0.2.2.2.2.2.1, S0.2.2.2.2.2.2.1, S0.2.2.2.2.2.2.2.1, S0.2.2.2.2.2.2.2.2.1, S0.2.2.2.2.2.2.2.2.2) := rfl
theorem hW_L_add_31 (cI cZ cQ : ClassId) (q0 q1 q2 q3 q4 q5 q6 q7 q8 : Nat) (S0 : cL) (v : cA) : (wL cI cZ q0 q1 q2 q3 q4 q5 q6 q7 q8 S0 : va_W).set 3 (q3, .inl (cI, 301, .inl v)) = wL cI cZ q0 q1 q2 q3 q4 q5 q6 q7 q8 (S0.1, S0.2.1, v, S0.2.2.2.1, S0.2.2.2.2.1, S0.2.2.2.2.2.1, S0.2.2.2.2.2.2.1, S0.2.2.2.2.2.2.2.1, S0.2.2.2.2.2.2.2.2.1, S0.2.2.2.2.2.2.2.2.2) := rfl
theorem hW_L_add_40 (cI cZ cQ : ClassId) (q0 q1 q2 q3 q4 q5 q6 q7 q8 : Nat) (S0 : cL) (v : cA) : (wL cI cZ q0 q1 q2 q3 q4 q5 q6 q7 q8 S0 : va_W).set 4 (q4, .inl (cI, 301, .inl v)) = wL cI cZ q0 q1 q2 q3 q4 q5 q6 q7 q8 (S0.1, S0.2.1, S0.2.2.1, v, S0.2.2.2.2.1, S0.2.2.2.2.2.1, S0.2.2.2.2.2.2.1, S0.2.2.2.2.2.2.2.1, S0.2.2.2.2.2.2.2.2.1, S0.2.2.2.2.2.2.2.2.2) := rfl
theorem hW_L_add_49 (cI cZ cQ : ClassId) (q0 q1 q2 q3 q4 q5 q6 q7 q8 : Nat) (S0 : cL) (v : cA) : (wL cI cZ q0 q1 q2 q3 q4 q5 q6 q7 q8 S0 : va_W).set 5 (q5, .inl (cI, 301, .inl v)) = wL cI cZ q0 q1 q2 q3 q4 q5 q6 q7 q8 (S0.1, S0.2.1, S0.2.2.1, S0.2.2.2.1, v, S0.2.2.2.2.2.1, S0.2.2.2.2.2.2.1, S0.2.2.2.2.2.2.2.1, S0.2.2.2.2.2.2.2.2.1, S0.2.2.2.2.2.2.2.2.2) := rfl
theorem hW_L_add_58 (cI cZ cQ : ClassId) (q0 q1 q2 q3 q4 q5 q6 q7 q8 : Nat) (S0 : cL) (v : cA) : (wL cI cZ q0 q1 q2 q3 q4 q5 q6 q7 q8 S0 : va_W).set 6 (q6, .inl (cI, 301, .inl v)) = wL cI cZ q0 q1 q2 q3 q4 q5 q6 q7 q8 (S0.1, S0.2.1, S0.2.2.1, S0.2.2.2.1, S0.2.2.2.2.1, v, S0.2.2.2.2.2.2.1, S0.2.2.2.2.2.2.2.1, S0.2.2.2.2.2.2.2.2.1, S0.2.2.2.2.2.2.2.2.2) := rfl
theorem hC_L_add_76 (cI cZ cQ : ClassId) (q0 q1 q2 q3 q4 q5 q6 q7 q8 : Nat) (S0 : cL) : ([0, 1, 2, 3, 4, 5, 6, 7, 8] : List Nat).map (fun i => (wL cI cZ q0 q1 q2 q3 q4 q5 q6 q7 q8 S0 : va_W)[i]?) = (wL cI cZ q0 q1 q2 q3 q4 q5 q6 q7 q8 S0 : va_W).map some := rfl
theorem hF_L_putInOrder (cI cZ cQ : ClassId) {u0 u1 u2 u3 u4 u5 u6 u7 u8 : Nat} (S0 R0 : cL) : (wL cI cZ u0 u1 u2 u3 u4 u5 u6 u7 u8 R0 : va_W).map Prod.fst = (wL cI cZ u0 u1 u2 u3 u4 u5 u6 u7 u8 S0 : va_W).map Prod.fst := rfl
theorem hU_L_add_76 (cI cZ cQ : ClassId) (q0 q1 q2 q3 q4 q5 q6 q7 q8 : Nat) (S0 : cL) (R0 : cL) : vz_put (wL cI cZ q0 q1 q2 q3 q4 q5 q6 q7 q8 S0 : va_W) [0, 1, 2, 3, 4, 5, 6, 7, 8] (wL cI cZ q0 q1 q2 q3 q4 q5 q6 q7 q8 R0 : va_W) = wL cI cZ q0 q1 q2 q3 q4 q5 q6 q7 q8 R0 := (show vz_put ([(q0, .inr (1, [.ref q1, .ref q2, .ref q3, .ref q4, .ref q5, .ref q6, .ref q7, .ref q8, .int S0.2.2.2.2.2.2.2.2.1, .int S0.2.2.2.2.2.2.2.2.2])), (q1, .inl (cI, 301, .inl S0.1)), (q2, .inl (cI, 301, .inl S0.2.1)), (q3, .inl (cI, 301, .inl S0.2.2.1)), (q4, .inl (cI, 301, .inl S0.2.2.2.1)), (q5, .inl (cI, 301, .inl S0.2.2.2.2.1)), (q6, .inl (cI, 301, .inl S0.2.2.2.2.2.1)), (q7, .inl (cI, 301, .inl S0.2.2.2.2.2.2.1)), (q8, .inl (cI, 300, .inl S0.2.2.2.2.2.2.2.1))] : va_W) [0, 1, 2, 3, 4, 5, 6, 7, 8] ([(q0, .inr (1, [.ref q1, .ref q2, .ref q3, .ref q4, .ref q5, .ref q6, .ref q7, .ref q8, .int R0.2.2.2.2.2.2.2.2.1, .int R0.2.2.2.2.2.2.2.2.2])), (q1, .inl (cI, 301, .inl R0.1)), (q2, .inl (cI, 301, .inl R0.2.1)), (q3, .inl (cI, 301, .inl R0.2.2.1)), (q4, .inl (cI, 301, .inl R0.2.2.2.1)), (q5, .inl (cI, 301, .inl R0.2.2.2.2.1)), (q6, .inl (cI, 301, .inl R0.2.2.2.2.2.1)), (q7, .inl (cI, 301, .inl R0.2.2.2.2.2.2.1)), (q8, .inl (cI, 300, .inl R0.2.2.2.2.2.2.2.1))] : va_W) = [(q0, .inr (1, [.ref q1, .ref q2, .ref q3, .ref q4, .ref q5, .ref q6, .ref q7, .ref q8, .int R0.2.2.2.2.2.2.2.2.1, .int R0.2.2.2.2.2.2.2.2.2])), (q1, .inl (cI, 301, .inl R0.1)), (q2, .inl (cI, 301, .inl R0.2.1)), (q3, .inl (cI, 301, .inl R0.2.2.1)), (q4, .inl (cI, 301, .inl R0.2.2.2.1)), (q5, .inl (cI, 301, .inl R0.2.2.2.2.1)), (q6, .inl (cI, 301, .inl R0.2.2.2.2.2.1)), (q7, .inl (cI, 301, .inl R0.2.2.2.2.2.2.1)), (q8, .inl (cI, 300, .inl R0.2.2.2.2.2.2.2.1))] from rfl).trans rfl
theorem hW_L_add_82 (cI cZ cQ : ClassId) (q0 q1 q2 q3 q4 q5 q6 q7 q8 : Nat) (S0 : cL) (v : Int32) : (wL cI cZ q0 q1 q2 q3 q4 q5 q6 q7 q8 S0 : va_W).set 0 (q0, .inr (1, [.ref q1, .ref q2, .ref q3, .ref q4, .ref q5, .ref q6, .ref q7, .ref q8, .int S0.2.2.2.2.2.2.2.2.1, .int S0.2.2.2.2.2.2.2.2.2].set 8 (.int v))) = wL cI cZ q0 q1 q2 q3 q4 q5 q6 q7 q8 (S0.1, S0.2.1, S0.2.2.1, S0.2.2.2.1, S0.2.2.2.2.1, S0.2.2.2.2.2.1, S0.2.2.2.2.2.2.1, S0.2.2.2.2.2.2.2.1, v, S0.2.2.2.2.2.2.2.2.2) := rfl
theorem hW_L_add_72 (cI cZ cQ : ClassId) (q0 q1 q2 q3 q4 q5 q6 q7 q8 : Nat) (S0 : cL) (v : cA) : (wL cI cZ q0 q1 q2 q3 q4 q5 q6 q7 q8 S0 : va_W).set 7 (q7, .inl (cI, 301, .inl v)) = wL cI cZ q0 q1 q2 q3 q4 q5 q6 q7 q8 (S0.1, S0.2.1, S0.2.2.1, S0.2.2.2.1, S0.2.2.2.2.1, S0.2.2.2.2.2.1, v, S0.2.2.2.2.2.2.2.1, S0.2.2.2.2.2.2.2.2.1, S0.2.2.2.2.2.2.2.2.2) := rfl
def m_L_add (L : cL) (x1 : Int32) (x2 : Int32) (x3 : Int32) (x4 : Int32) (x5 : Int32) (x6 : Int32) : Int32 × cL := (if x1 = 4 then (L.2.2.2.2.2.2.2.2.1 + 1, ((m_L_putInOrder (upd L.1 (L.2.2.2.2.2.2.2.2.1 + 1).toNatClampNeg x1, upd L.2.1 (L.2.2.2.2.2.2.2.2.1 + 1).toNatClampNeg x2, upd L.2.2.1 (L.2.2.2.2.2.2.2.2.1 + 1).toNatClampNeg x3, upd L.2.2.2.1 (L.2.2.2.2.2.2.2.2.1 + 1).toNatClampNeg x4, upd L.2.2.2.2.1 (L.2.2.2.2.2.2.2.2.1 + 1).toNatClampNeg x5, upd L.2.2.2.2.2.1 (L.2.2.2.2.2.2.2.2.1 + 1).toNatClampNeg x6, upd L.2.2.2.2.2.2.1 x4.toNatClampNeg (L.2.2.2.2.2.2.2.2.1 + 1), L.2.2.2.2.2.2.2.1, L.2.2.2.2.2.2.2.2.1, L.2.2.2.2.2.2.2.2.2) (L.2.2.2.2.2.2.2.2.1 + 1)).1, (m_L_putInOrder (upd L.1 (L.2.2.2.2.2.2.2.2.1 + 1).toNatClampNeg x1, upd L.2.1 (L.2.2.2.2.2.2.2.2.1 + 1).toNatClampNeg x2, upd L.2.2.1 (L.2.2.2.2.2.2.2.2.1 + 1).toNatClampNeg x3, upd L.2.2.2.1 (L.2.2.2.2.2.2.2.2.1 + 1).toNatClampNeg x4, upd L.2.2.2.2.1 (L.2.2.2.2.2.2.2.2.1 + 1).toNatClampNeg x5, upd L.2.2.2.2.2.1 (L.2.2.2.2.2.2.2.2.1 + 1).toNatClampNeg x6, upd L.2.2.2.2.2.2.1 x4.toNatClampNeg (L.2.2.2.2.2.2.2.2.1 + 1), L.2.2.2.2.2.2.2.1, L.2.2.2.2.2.2.2.2.1, L.2.2.2.2.2.2.2.2.2) (L.2.2.2.2.2.2.2.2.1 + 1)).2.1, (m_L_putInOrder (upd L.1 (L.2.2.2.2.2.2.2.2.1 + 1).toNatClampNeg x1, upd L.2.1 (L.2.2.2.2.2.2.2.2.1 + 1).toNatClampNeg x2, upd L.2.2.1 (L.2.2.2.2.2.2.2.2.1 + 1).toNatClampNeg x3, upd L.2.2.2.1 (L.2.2.2.2.2.2.2.2.1 + 1).toNatClampNeg x4, upd L.2.2.2.2.1 (L.2.2.2.2.2.2.2.2.1 + 1).toNatClampNeg x5, upd L.2.2.2.2.2.1 (L.2.2.2.2.2.2.2.2.1 + 1).toNatClampNeg x6, upd L.2.2.2.2.2.2.1 x4.toNatClampNeg (L.2.2.2.2.2.2.2.2.1 + 1), L.2.2.2.2.2.2.2.1, L.2.2.2.2.2.2.2.2.1, L.2.2.2.2.2.2.2.2.2) (L.2.2.2.2.2.2.2.2.1 + 1)).2.2.1, (m_L_putInOrder (upd L.1 (L.2.2.2.2.2.2.2.2.1 + 1).toNatClampNeg x1, upd L.2.1 (L.2.2.2.2.2.2.2.2.1 + 1).toNatClampNeg x2, upd L.2.2.1 (L.2.2.2.2.2.2.2.2.1 + 1).toNatClampNeg x3, upd L.2.2.2.1 (L.2.2.2.2.2.2.2.2.1 + 1).toNatClampNeg x4, upd L.2.2.2.2.1 (L.2.2.2.2.2.2.2.2.1 + 1).toNatClampNeg x5, upd L.2.2.2.2.2.1 (L.2.2.2.2.2.2.2.2.1 + 1).toNatClampNeg x6, upd L.2.2.2.2.2.2.1 x4.toNatClampNeg (L.2.2.2.2.2.2.2.2.1 + 1), L.2.2.2.2.2.2.2.1, L.2.2.2.2.2.2.2.2.1, L.2.2.2.2.2.2.2.2.2) (L.2.2.2.2.2.2.2.2.1 + 1)).2.2.2.1, (m_L_putInOrder (upd L.1 (L.2.2.2.2.2.2.2.2.1 + 1).toNatClampNeg x1, upd L.2.1 (L.2.2.2.2.2.2.2.2.1 + 1).toNatClampNeg x2, upd L.2.2.1 (L.2.2.2.2.2.2.2.2.1 + 1).toNatClampNeg x3, upd L.2.2.2.1 (L.2.2.2.2.2.2.2.2.1 + 1).toNatClampNeg x4, upd L.2.2.2.2.1 (L.2.2.2.2.2.2.2.2.1 + 1).toNatClampNeg x5, upd L.2.2.2.2.2.1 (L.2.2.2.2.2.2.2.2.1 + 1).toNatClampNeg x6, upd L.2.2.2.2.2.2.1 x4.toNatClampNeg (L.2.2.2.2.2.2.2.2.1 + 1), L.2.2.2.2.2.2.2.1, L.2.2.2.2.2.2.2.2.1, L.2.2.2.2.2.2.2.2.2) (L.2.2.2.2.2.2.2.2.1 + 1)).2.2.2.2.1, (m_L_putInOrder (upd L.1 (L.2.2.2.2.2.2.2.2.1 + 1).toNatClampNeg x1, upd L.2.1 (L.2.2.2.2.2.2.2.2.1 + 1).toNatClampNeg x2, upd L.2.2.1 (L.2.2.2.2.2.2.2.2.1 + 1).toNatClampNeg x3, upd L.2.2.2.1 (L.2.2.2.2.2.2.2.2.1 + 1).toNatClampNeg x4, upd L.2.2.2.2.1 (L.2.2.2.2.2.2.2.2.1 + 1).toNatClampNeg x5, upd L.2.2.2.2.2.1 (L.2.2.2.2.2.2.2.2.1 + 1).toNatClampNeg x6, upd L.2.2.2.2.2.2.1 x4.toNatClampNeg (L.2.2.2.2.2.2.2.2.1 + 1), L.2.2.2.2.2.2.2.1, L.2.2.2.2.2.2.2.2.1, L.2.2.2.2.2.2.2.2.2) (L.2.2.2.2.2.2.2.2.1 + 1)).2.2.2.2.2.1, (m_L_putInOrder (upd L.1 (L.2.2.2.2.2.2.2.2.1 + 1).toNatClampNeg x1, upd L.2.1 (L.2.2.2.2.2.2.2.2.1 + 1).toNatClampNeg x2, upd L.2.2.1 (L.2.2.2.2.2.2.2.2.1 + 1).toNatClampNeg x3, upd L.2.2.2.1 (L.2.2.2.2.2.2.2.2.1 + 1).toNatClampNeg x4, upd L.2.2.2.2.1 (L.2.2.2.2.2.2.2.2.1 + 1).toNatClampNeg x5, upd L.2.2.2.2.2.1 (L.2.2.2.2.2.2.2.2.1 + 1).toNatClampNeg x6, upd L.2.2.2.2.2.2.1 x4.toNatClampNeg (L.2.2.2.2.2.2.2.2.1 + 1), L.2.2.2.2.2.2.2.1, L.2.2.2.2.2.2.2.2.1, L.2.2.2.2.2.2.2.2.2) (L.2.2.2.2.2.2.2.2.1 + 1)).2.2.2.2.2.2.1, (m_L_putInOrder (upd L.1 (L.2.2.2.2.2.2.2.2.1 + 1).toNatClampNeg x1, upd L.2.1 (L.2.2.2.2.2.2.2.2.1 + 1).toNatClampNeg x2, upd L.2.2.1 (L.2.2.2.2.2.2.2.2.1 + 1).toNatClampNeg x3, upd L.2.2.2.1 (L.2.2.2.2.2.2.2.2.1 + 1).toNatClampNeg x4, upd L.2.2.2.2.1 (L.2.2.2.2.2.2.2.2.1 + 1).toNatClampNeg x5, upd L.2.2.2.2.2.1 (L.2.2.2.2.2.2.2.2.1 + 1).toNatClampNeg x6, upd L.2.2.2.2.2.2.1 x4.toNatClampNeg (L.2.2.2.2.2.2.2.2.1 + 1), L.2.2.2.2.2.2.2.1, L.2.2.2.2.2.2.2.2.1, L.2.2.2.2.2.2.2.2.2) (L.2.2.2.2.2.2.2.2.1 + 1)).2.2.2.2.2.2.2.1, L.2.2.2.2.2.2.2.2.1 + 1, (m_L_putInOrder (upd L.1 (L.2.2.2.2.2.2.2.2.1 + 1).toNatClampNeg x1, upd L.2.1 (L.2.2.2.2.2.2.2.2.1 + 1).toNatClampNeg x2, upd L.2.2.1 (L.2.2.2.2.2.2.2.2.1 + 1).toNatClampNeg x3, upd L.2.2.2.1 (L.2.2.2.2.2.2.2.2.1 + 1).toNatClampNeg x4, upd L.2.2.2.2.1 (L.2.2.2.2.2.2.2.2.1 + 1).toNatClampNeg x5, upd L.2.2.2.2.2.1 (L.2.2.2.2.2.2.2.2.1 + 1).toNatClampNeg x6, upd L.2.2.2.2.2.2.1 x4.toNatClampNeg (L.2.2.2.2.2.2.2.2.1 + 1), L.2.2.2.2.2.2.2.1, L.2.2.2.2.2.2.2.2.1, L.2.2.2.2.2.2.2.2.2) (L.2.2.2.2.2.2.2.2.1 + 1)).2.2.2.2.2.2.2.2.2)) else (L.2.2.2.2.2.2.2.2.1 + 1, ((m_L_putInOrder (upd L.1 (L.2.2.2.2.2.2.2.2.1 + 1).toNatClampNeg x1, upd L.2.1 (L.2.2.2.2.2.2.2.2.1 + 1).toNatClampNeg x2, upd L.2.2.1 (L.2.2.2.2.2.2.2.2.1 + 1).toNatClampNeg x3, upd L.2.2.2.1 (L.2.2.2.2.2.2.2.2.1 + 1).toNatClampNeg x4, upd L.2.2.2.2.1 (L.2.2.2.2.2.2.2.2.1 + 1).toNatClampNeg x5, upd L.2.2.2.2.2.1 (L.2.2.2.2.2.2.2.2.1 + 1).toNatClampNeg x6, L.2.2.2.2.2.2.1, L.2.2.2.2.2.2.2.1, L.2.2.2.2.2.2.2.2.1, L.2.2.2.2.2.2.2.2.2) (L.2.2.2.2.2.2.2.2.1 + 1)).1, (m_L_putInOrder (upd L.1 (L.2.2.2.2.2.2.2.2.1 + 1).toNatClampNeg x1, upd L.2.1 (L.2.2.2.2.2.2.2.2.1 + 1).toNatClampNeg x2, upd L.2.2.1 (L.2.2.2.2.2.2.2.2.1 + 1).toNatClampNeg x3, upd L.2.2.2.1 (L.2.2.2.2.2.2.2.2.1 + 1).toNatClampNeg x4, upd L.2.2.2.2.1 (L.2.2.2.2.2.2.2.2.1 + 1).toNatClampNeg x5, upd L.2.2.2.2.2.1 (L.2.2.2.2.2.2.2.2.1 + 1).toNatClampNeg x6, L.2.2.2.2.2.2.1, L.2.2.2.2.2.2.2.1, L.2.2.2.2.2.2.2.2.1, L.2.2.2.2.2.2.2.2.2) (L.2.2.2.2.2.2.2.2.1 + 1)).2.1, (m_L_putInOrder (upd L.1 (L.2.2.2.2.2.2.2.2.1 + 1).toNatClampNeg x1, upd L.2.1 (L.2.2.2.2.2.2.2.2.1 + 1).toNatClampNeg x2, upd L.2.2.1 (L.2.2.2.2.2.2.2.2.1 + 1).toNatClampNeg x3, upd L.2.2.2.1 (L.2.2.2.2.2.2.2.2.1 + 1).toNatClampNeg x4, upd L.2.2.2.2.1 (L.2.2.2.2.2.2.2.2.1 + 1).toNatClampNeg x5, upd L.2.2.2.2.2.1 (L.2.2.2.2.2.2.2.2.1 + 1).toNatClampNeg x6, L.2.2.2.2.2.2.1, L.2.2.2.2.2.2.2.1, L.2.2.2.2.2.2.2.2.1, L.2.2.2.2.2.2.2.2.2) (L.2.2.2.2.2.2.2.2.1 + 1)).2.2.1, (m_L_putInOrder (upd L.1 (L.2.2.2.2.2.2.2.2.1 + 1).toNatClampNeg x1, upd L.2.1 (L.2.2.2.2.2.2.2.2.1 + 1).toNatClampNeg x2, upd L.2.2.1 (L.2.2.2.2.2.2.2.2.1 + 1).toNatClampNeg x3, upd L.2.2.2.1 (L.2.2.2.2.2.2.2.2.1 + 1).toNatClampNeg x4, upd L.2.2.2.2.1 (L.2.2.2.2.2.2.2.2.1 + 1).toNatClampNeg x5, upd L.2.2.2.2.2.1 (L.2.2.2.2.2.2.2.2.1 + 1).toNatClampNeg x6, L.2.2.2.2.2.2.1, L.2.2.2.2.2.2.2.1, L.2.2.2.2.2.2.2.2.1, L.2.2.2.2.2.2.2.2.2) (L.2.2.2.2.2.2.2.2.1 + 1)).2.2.2.1, (m_L_putInOrder (upd L.1 (L.2.2.2.2.2.2.2.2.1 + 1).toNatClampNeg x1, upd L.2.1 (L.2.2.2.2.2.2.2.2.1 + 1).toNatClampNeg x2, upd L.2.2.1 (L.2.2.2.2.2.2.2.2.1 + 1).toNatClampNeg x3, upd L.2.2.2.1 (L.2.2.2.2.2.2.2.2.1 + 1).toNatClampNeg x4, upd L.2.2.2.2.1 (L.2.2.2.2.2.2.2.2.1 + 1).toNatClampNeg x5, upd L.2.2.2.2.2.1 (L.2.2.2.2.2.2.2.2.1 + 1).toNatClampNeg x6, L.2.2.2.2.2.2.1, L.2.2.2.2.2.2.2.1, L.2.2.2.2.2.2.2.2.1, L.2.2.2.2.2.2.2.2.2) (L.2.2.2.2.2.2.2.2.1 + 1)).2.2.2.2.1, (m_L_putInOrder (upd L.1 (L.2.2.2.2.2.2.2.2.1 + 1).toNatClampNeg x1, upd L.2.1 (L.2.2.2.2.2.2.2.2.1 + 1).toNatClampNeg x2, upd L.2.2.1 (L.2.2.2.2.2.2.2.2.1 + 1).toNatClampNeg x3, upd L.2.2.2.1 (L.2.2.2.2.2.2.2.2.1 + 1).toNatClampNeg x4, upd L.2.2.2.2.1 (L.2.2.2.2.2.2.2.2.1 + 1).toNatClampNeg x5, upd L.2.2.2.2.2.1 (L.2.2.2.2.2.2.2.2.1 + 1).toNatClampNeg x6, L.2.2.2.2.2.2.1, L.2.2.2.2.2.2.2.1, L.2.2.2.2.2.2.2.2.1, L.2.2.2.2.2.2.2.2.2) (L.2.2.2.2.2.2.2.2.1 + 1)).2.2.2.2.2.1, (m_L_putInOrder (upd L.1 (L.2.2.2.2.2.2.2.2.1 + 1).toNatClampNeg x1, upd L.2.1 (L.2.2.2.2.2.2.2.2.1 + 1).toNatClampNeg x2, upd L.2.2.1 (L.2.2.2.2.2.2.2.2.1 + 1).toNatClampNeg x3, upd L.2.2.2.1 (L.2.2.2.2.2.2.2.2.1 + 1).toNatClampNeg x4, upd L.2.2.2.2.1 (L.2.2.2.2.2.2.2.2.1 + 1).toNatClampNeg x5, upd L.2.2.2.2.2.1 (L.2.2.2.2.2.2.2.2.1 + 1).toNatClampNeg x6, L.2.2.2.2.2.2.1, L.2.2.2.2.2.2.2.1, L.2.2.2.2.2.2.2.2.1, L.2.2.2.2.2.2.2.2.2) (L.2.2.2.2.2.2.2.2.1 + 1)).2.2.2.2.2.2.1, (m_L_putInOrder (upd L.1 (L.2.2.2.2.2.2.2.2.1 + 1).toNatClampNeg x1, upd L.2.1 (L.2.2.2.2.2.2.2.2.1 + 1).toNatClampNeg x2, upd L.2.2.1 (L.2.2.2.2.2.2.2.2.1 + 1).toNatClampNeg x3, upd L.2.2.2.1 (L.2.2.2.2.2.2.2.2.1 + 1).toNatClampNeg x4, upd L.2.2.2.2.1 (L.2.2.2.2.2.2.2.2.1 + 1).toNatClampNeg x5, upd L.2.2.2.2.2.1 (L.2.2.2.2.2.2.2.2.1 + 1).toNatClampNeg x6, L.2.2.2.2.2.2.1, L.2.2.2.2.2.2.2.1, L.2.2.2.2.2.2.2.2.1, L.2.2.2.2.2.2.2.2.2) (L.2.2.2.2.2.2.2.2.1 + 1)).2.2.2.2.2.2.2.1, L.2.2.2.2.2.2.2.2.1 + 1, (m_L_putInOrder (upd L.1 (L.2.2.2.2.2.2.2.2.1 + 1).toNatClampNeg x1, upd L.2.1 (L.2.2.2.2.2.2.2.2.1 + 1).toNatClampNeg x2, upd L.2.2.1 (L.2.2.2.2.2.2.2.2.1 + 1).toNatClampNeg x3, upd L.2.2.2.1 (L.2.2.2.2.2.2.2.2.1 + 1).toNatClampNeg x4, upd L.2.2.2.2.1 (L.2.2.2.2.2.2.2.2.1 + 1).toNatClampNeg x5, upd L.2.2.2.2.2.1 (L.2.2.2.2.2.2.2.2.1 + 1).toNatClampNeg x6, L.2.2.2.2.2.2.1, L.2.2.2.2.2.2.2.1, L.2.2.2.2.2.2.2.2.1, L.2.2.2.2.2.2.2.2.2) (L.2.2.2.2.2.2.2.2.1 + 1)).2.2.2.2.2.2.2.2.2)))
set_option maxHeartbeats 1000000 in
set_option maxRecDepth 100000 in
theorem c_L_add (l : Launch) (dC : Nat → ClassId) (dI : Nat → Nat → Nat) (cI cZ cQ : ClassId) (u0 : Nat) (u1 : Nat) (u2 : Nat) (u3 : Nat) (u4 : Nat) (u5 : Nat) (u6 : Nat) (u7 : Nat) (u8 : Nat) (L : cL) (x1 : Int32) (x2 : Int32) (x3 : Int32) (x4 : Int32) (x5 : Int32) (x6 : Int32) (hcnt : 0 ≤ L.2.2.2.2.2.2.2.2.1.toInt ∧ L.2.2.2.2.2.2.2.2.1.toInt < 300) (hord : ∀ j, j < 300 → 0 ≤ (L.2.2.2.2.2.2.2.1 j).toInt ∧ (L.2.2.2.2.2.2.2.1 j).toInt < 301) (h4 : x1 = 4 → 0 ≤ x4.toInt ∧ x4.toInt < 301) : vz_C l (dC, dI) classes [(cI, .int), (cZ, .boolean), (cQ, .object "BinTrees$Person")] y_L_add (Cond.code y_L_add b_L_add 8 (some .int) :: vz_tbl) ({ frames := 2, cells := 0, slots := 0, locals := 44 }) [.ref u0, .int x1, .int x2, .int x3, .int x4, .int x5, .int x6] (wL cI cZ u0 u1 u2 u3 u4 u5 u6 u7 u8 L) (some (.int ((m_L_add L x1 x2 x3 x4 x5 x6).1))) (wL cI cZ u0 u1 u2 u3 u4 u5 u6 u7 u8 ((m_L_add L x1 x2 x3 x4 x5 x6).2)) := by
  generalize hres : (m_L_add L x1 x2 x3 x4 x5 x6) = RES
  refine vz_C.of (by decide) (Nat.le_of_ble_eq_true rfl) ?_
  intro p e s m below meth c ls E hl hK hP hD hS
  obtain ⟨hx, hb, hr, hml, hown, hT, hlocks⟩ := E
  obtain ⟨Q, hQ⟩ : ∃ Q, Q = MQ below (vz_Q (dC, dI) classes (wL cI cZ u0 u1 u2 u3 u4 u5 u6 u7 u8 L) (some (.int RES.1)) (wL cI cZ u0 u1 u2 u3 u4 u5 u6 u7 u8 RES.2)) ([.ref u0, .int x1, .int x2, .int x3, .int x4, .int x5, .int x6] : List Value).toArray s 0 0 (vz_A (wL cI cZ u0 u1 u2 u3 u4 u5 u6 u7 u8 L)) := ⟨_, rfl⟩
  rw [← hQ]
  have hl : lv_has ls 8 [(0, .ref u0), (1, .int x1), (2, .int x2), (3, .int x3), (4, .int x4), (5, .int x5), (6, .int x6)] := hl
  have T0 := ti_0
  have T1 := ti_1
  have Tm := ti_m1
  have T8 := ti_8
  have T39 := ti_39
  have T40 := ti_40
  have T4 := ti_4
  have T300 := ti_300
  have hi := ti_inc (x := L.2.2.2.2.2.2.2.2.1) (by omega)
  have hS0 := hS
  refine lv_aload_n hx hb d_L_add_0 rfl (lv_at hl 0 rfl) ?_
  refine va_get (D := (dC, dI)) (ci := 1) (v := .int L.2.2.2.2.2.2.2.2.1) (C := R_L) (T := F_L) (N := 10) hx hb hT i_L hown hK hP 0 rfl rfl 8 (by decide) (hT _ kw_44) (fun _ h9 => h9) rfl d_L_add_1 ?_
  refine lv_iconst (v := 1) hx hb d_L_add_4 (by decide) ?_
  refine lv_iadd hx hb d_L_add_5 ?_
  refine lv_istore (lv' := [(7, .int (L.2.2.2.2.2.2.2.2.1 + 1)), (0, .ref u0), (1, .int x1), (2, .int x2), (3, .int x3), (4, .int x4), (5, .int x5), (6, .int x6)]) hx hb d_L_add_6 hl (by decide) rfl (fun ls hl => ?_)
  refine lv_aload_n hx hb d_L_add_8 rfl (lv_at hl 1 rfl) ?_
  refine va_get (D := (dC, dI)) (ci := 1) (v := .ref u1) (C := R_L) (T := F_L) (N := 10) hx hb hT i_L hown hK hP 0 rfl rfl 0 (by decide) (hT _ kw_22) (fun _ h9 => h9) rfl d_L_add_9 ?_
  refine lv_iload hx hb d_L_add_12 (lv_at hl 0 rfl) ?_
  refine lv_iload_n hx hb d_L_add_14 rfl (lv_at hl 2 rfl) ?_
  refine va_iast hx hb hK hP hD hS 1 0 rfl rfl (ti_vp (by omega) (by omega)) d_L_add_15 (fun H locs hP hD hS => ?_)
  have hP : va_P (dC, dI) classes (wL cI cZ u0 u1 u2 u3 u4 u5 u6 u7 u8 (upd L.1 (L.2.2.2.2.2.2.2.2.1 + 1).toNatClampNeg x1, L.2.1, L.2.2.1, L.2.2.2.1, L.2.2.2.2.1, L.2.2.2.2.2.1, L.2.2.2.2.2.2.1, L.2.2.2.2.2.2.2.1, L.2.2.2.2.2.2.2.2.1, L.2.2.2.2.2.2.2.2.2)) H := vz_reP (hW_L_add_15 cI cZ cQ u0 u1 u2 u3 u4 u5 u6 u7 u8 L (upd L.1 (L.2.2.2.2.2.2.2.2.1 + 1).toNatClampNeg x1)) hP
  have hD : va_D (vz_A (wL cI cZ u0 u1 u2 u3 u4 u5 u6 u7 u8 L)) (wL cI cZ u0 u1 u2 u3 u4 u5 u6 u7 u8 (upd L.1 (L.2.2.2.2.2.2.2.2.1 + 1).toNatClampNeg x1, L.2.1, L.2.2.1, L.2.2.2.1, L.2.2.2.2.1, L.2.2.2.2.2.1, L.2.2.2.2.2.2.1, L.2.2.2.2.2.2.2.1, L.2.2.2.2.2.2.2.2.1, L.2.2.2.2.2.2.2.2.2)) := vz_reD (hW_L_add_15 cI cZ cQ u0 u1 u2 u3 u4 u5 u6 u7 u8 L (upd L.1 (L.2.2.2.2.2.2.2.2.1 + 1).toNatClampNeg x1)) hD
  refine lv_aload_n hx hb d_L_add_16 rfl (lv_at hl 1 rfl) ?_
  refine va_get (D := (dC, dI)) (ci := 1) (v := .ref u2) (C := R_L) (T := F_L) (N := 10) hx hb hT i_L hown hK hP 0 rfl rfl 1 (by decide) (hT _ kw_25) (fun _ h9 => h9) rfl d_L_add_17 ?_
  refine lv_iload hx hb d_L_add_20 (lv_at hl 0 rfl) ?_
  refine lv_iload_n hx hb d_L_add_22 rfl (lv_at hl 3 rfl) ?_
  refine va_iast hx hb hK hP hD hS 2 0 rfl rfl (ti_vp (by omega) (by omega)) d_L_add_23 (fun H locs hP hD hS => ?_)
  have hP : va_P (dC, dI) classes (wL cI cZ u0 u1 u2 u3 u4 u5 u6 u7 u8 (upd L.1 (L.2.2.2.2.2.2.2.2.1 + 1).toNatClampNeg x1, upd L.2.1 (L.2.2.2.2.2.2.2.2.1 + 1).toNatClampNeg x2, L.2.2.1, L.2.2.2.1, L.2.2.2.2.1, L.2.2.2.2.2.1, L.2.2.2.2.2.2.1, L.2.2.2.2.2.2.2.1, L.2.2.2.2.2.2.2.2.1, L.2.2.2.2.2.2.2.2.2)) H := vz_reP (hW_L_add_23 cI cZ cQ u0 u1 u2 u3 u4 u5 u6 u7 u8 (upd L.1 (L.2.2.2.2.2.2.2.2.1 + 1).toNatClampNeg x1, L.2.1, L.2.2.1, L.2.2.2.1, L.2.2.2.2.1, L.2.2.2.2.2.1, L.2.2.2.2.2.2.1, L.2.2.2.2.2.2.2.1, L.2.2.2.2.2.2.2.2.1, L.2.2.2.2.2.2.2.2.2) (upd L.2.1 (L.2.2.2.2.2.2.2.2.1 + 1).toNatClampNeg x2)) hP
  have hD : va_D (vz_A (wL cI cZ u0 u1 u2 u3 u4 u5 u6 u7 u8 L)) (wL cI cZ u0 u1 u2 u3 u4 u5 u6 u7 u8 (upd L.1 (L.2.2.2.2.2.2.2.2.1 + 1).toNatClampNeg x1, upd L.2.1 (L.2.2.2.2.2.2.2.2.1 + 1).toNatClampNeg x2, L.2.2.1, L.2.2.2.1, L.2.2.2.2.1, L.2.2.2.2.2.1, L.2.2.2.2.2.2.1, L.2.2.2.2.2.2.2.1, L.2.2.2.2.2.2.2.2.1, L.2.2.2.2.2.2.2.2.2)) := vz_reD (hW_L_add_23 cI cZ cQ u0 u1 u2 u3 u4 u5 u6 u7 u8 (upd L.1 (L.2.2.2.2.2.2.2.2.1 + 1).toNatClampNeg x1, L.2.1, L.2.2.1, L.2.2.2.1, L.2.2.2.2.1, L.2.2.2.2.2.1, L.2.2.2.2.2.2.1, L.2.2.2.2.2.2.2.1, L.2.2.2.2.2.2.2.2.1, L.2.2.2.2.2.2.2.2.2) (upd L.2.1 (L.2.2.2.2.2.2.2.2.1 + 1).toNatClampNeg x2)) hD
  refine lv_aload_n hx hb d_L_add_24 rfl (lv_at hl 1 rfl) ?_
  refine va_get (D := (dC, dI)) (ci := 1) (v := .ref u3) (C := R_L) (T := F_L) (N := 10) hx hb hT i_L hown hK hP 0 rfl rfl 2 (by decide) (hT _ kw_27) (fun _ h9 => h9) rfl d_L_add_25 ?_
  refine lv_iload hx hb d_L_add_28 (lv_at hl 0 rfl) ?_
  refine lv_iload_n hx hb d_L_add_30 rfl (lv_at hl 4 rfl) ?_
  refine va_iast hx hb hK hP hD hS 3 0 rfl rfl (ti_vp (by omega) (by omega)) d_L_add_31 (fun H locs hP hD hS => ?_)
  have hP : va_P (dC, dI) classes (wL cI cZ u0 u1 u2 u3 u4 u5 u6 u7 u8 (upd L.1 (L.2.2.2.2.2.2.2.2.1 + 1).toNatClampNeg x1, upd L.2.1 (L.2.2.2.2.2.2.2.2.1 + 1).toNatClampNeg x2, upd L.2.2.1 (L.2.2.2.2.2.2.2.2.1 + 1).toNatClampNeg x3, L.2.2.2.1, L.2.2.2.2.1, L.2.2.2.2.2.1, L.2.2.2.2.2.2.1, L.2.2.2.2.2.2.2.1, L.2.2.2.2.2.2.2.2.1, L.2.2.2.2.2.2.2.2.2)) H := vz_reP (hW_L_add_31 cI cZ cQ u0 u1 u2 u3 u4 u5 u6 u7 u8 (upd L.1 (L.2.2.2.2.2.2.2.2.1 + 1).toNatClampNeg x1, upd L.2.1 (L.2.2.2.2.2.2.2.2.1 + 1).toNatClampNeg x2, L.2.2.1, L.2.2.2.1, L.2.2.2.2.1, L.2.2.2.2.2.1, L.2.2.2.2.2.2.1, L.2.2.2.2.2.2.2.1, L.2.2.2.2.2.2.2.2.1, L.2.2.2.2.2.2.2.2.2) (upd L.2.2.1 (L.2.2.2.2.2.2.2.2.1 + 1).toNatClampNeg x3)) hP
  have hD : va_D (vz_A (wL cI cZ u0 u1 u2 u3 u4 u5 u6 u7 u8 L)) (wL cI cZ u0 u1 u2 u3 u4 u5 u6 u7 u8 (upd L.1 (L.2.2.2.2.2.2.2.2.1 + 1).toNatClampNeg x1, upd L.2.1 (L.2.2.2.2.2.2.2.2.1 + 1).toNatClampNeg x2, upd L.2.2.1 (L.2.2.2.2.2.2.2.2.1 + 1).toNatClampNeg x3, L.2.2.2.1, L.2.2.2.2.1, L.2.2.2.2.2.1, L.2.2.2.2.2.2.1, L.2.2.2.2.2.2.2.1, L.2.2.2.2.2.2.2.2.1, L.2.2.2.2.2.2.2.2.2)) := vz_reD (hW_L_add_31 cI cZ cQ u0 u1 u2 u3 u4 u5 u6 u7 u8 (upd L.1 (L.2.2.2.2.2.2.2.2.1 + 1).toNatClampNeg x1, upd L.2.1 (L.2.2.2.2.2.2.2.2.1 + 1).toNatClampNeg x2, L.2.2.1, L.2.2.2.1, L.2.2.2.2.1, L.2.2.2.2.2.1, L.2.2.2.2.2.2.1, L.2.2.2.2.2.2.2.1, L.2.2.2.2.2.2.2.2.1, L.2.2.2.2.2.2.2.2.2) (upd L.2.2.1 (L.2.2.2.2.2.2.2.2.1 + 1).toNatClampNeg x3)) hD
  refine lv_aload_n hx hb d_L_add_32 rfl (lv_at hl 1 rfl) ?_
  refine va_get (D := (dC, dI)) (ci := 1) (v := .ref u4) (C := R_L) (T := F_L) (N := 10) hx hb hT i_L hown hK hP 0 rfl rfl 3 (by decide) (hT _ kw_30) (fun _ h9 => h9) rfl d_L_add_33 ?_
  refine lv_iload hx hb d_L_add_36 (lv_at hl 0 rfl) ?_
  refine lv_iload hx hb d_L_add_38 (lv_at hl 5 rfl) ?_
  refine va_iast hx hb hK hP hD hS 4 0 rfl rfl (ti_vp (by omega) (by omega)) d_L_add_40 (fun H locs hP hD hS => ?_)
  have hP : va_P (dC, dI) classes (wL cI cZ u0 u1 u2 u3 u4 u5 u6 u7 u8 (upd L.1 (L.2.2.2.2.2.2.2.2.1 + 1).toNatClampNeg x1, upd L.2.1 (L.2.2.2.2.2.2.2.2.1 + 1).toNatClampNeg x2, upd L.2.2.1 (L.2.2.2.2.2.2.2.2.1 + 1).toNatClampNeg x3, upd L.2.2.2.1 (L.2.2.2.2.2.2.2.2.1 + 1).toNatClampNeg x4, L.2.2.2.2.1, L.2.2.2.2.2.1, L.2.2.2.2.2.2.1, L.2.2.2.2.2.2.2.1, L.2.2.2.2.2.2.2.2.1, L.2.2.2.2.2.2.2.2.2)) H := vz_reP (hW_L_add_40 cI cZ cQ u0 u1 u2 u3 u4 u5 u6 u7 u8 (upd L.1 (L.2.2.2.2.2.2.2.2.1 + 1).toNatClampNeg x1, upd L.2.1 (L.2.2.2.2.2.2.2.2.1 + 1).toNatClampNeg x2, upd L.2.2.1 (L.2.2.2.2.2.2.2.2.1 + 1).toNatClampNeg x3, L.2.2.2.1, L.2.2.2.2.1, L.2.2.2.2.2.1, L.2.2.2.2.2.2.1, L.2.2.2.2.2.2.2.1, L.2.2.2.2.2.2.2.2.1, L.2.2.2.2.2.2.2.2.2) (upd L.2.2.2.1 (L.2.2.2.2.2.2.2.2.1 + 1).toNatClampNeg x4)) hP
  have hD : va_D (vz_A (wL cI cZ u0 u1 u2 u3 u4 u5 u6 u7 u8 L)) (wL cI cZ u0 u1 u2 u3 u4 u5 u6 u7 u8 (upd L.1 (L.2.2.2.2.2.2.2.2.1 + 1).toNatClampNeg x1, upd L.2.1 (L.2.2.2.2.2.2.2.2.1 + 1).toNatClampNeg x2, upd L.2.2.1 (L.2.2.2.2.2.2.2.2.1 + 1).toNatClampNeg x3, upd L.2.2.2.1 (L.2.2.2.2.2.2.2.2.1 + 1).toNatClampNeg x4, L.2.2.2.2.1, L.2.2.2.2.2.1, L.2.2.2.2.2.2.1, L.2.2.2.2.2.2.2.1, L.2.2.2.2.2.2.2.2.1, L.2.2.2.2.2.2.2.2.2)) := vz_reD (hW_L_add_40 cI cZ cQ u0 u1 u2 u3 u4 u5 u6 u7 u8 (upd L.1 (L.2.2.2.2.2.2.2.2.1 + 1).toNatClampNeg x1, upd L.2.1 (L.2.2.2.2.2.2.2.2.1 + 1).toNatClampNeg x2, upd L.2.2.1 (L.2.2.2.2.2.2.2.2.1 + 1).toNatClampNeg x3, L.2.2.2.1, L.2.2.2.2.1, L.2.2.2.2.2.1, L.2.2.2.2.2.2.1, L.2.2.2.2.2.2.2.1, L.2.2.2.2.2.2.2.2.1, L.2.2.2.2.2.2.2.2.2) (upd L.2.2.2.1 (L.2.2.2.2.2.2.2.2.1 + 1).toNatClampNeg x4)) hD
  refine lv_aload_n hx hb d_L_add_41 rfl (lv_at hl 1 rfl) ?_
  refine va_get (D := (dC, dI)) (ci := 1) (v := .ref u5) (C := R_L) (T := F_L) (N := 10) hx hb hT i_L hown hK hP 0 rfl rfl 4 (by decide) (hT _ kw_33) (fun _ h9 => h9) rfl d_L_add_42 ?_
  refine lv_iload hx hb d_L_add_45 (lv_at hl 0 rfl) ?_
  refine lv_iload hx hb d_L_add_47 (lv_at hl 6 rfl) ?_
  refine va_iast hx hb hK hP hD hS 5 0 rfl rfl (ti_vp (by omega) (by omega)) d_L_add_49 (fun H locs hP hD hS => ?_)
  have hP : va_P (dC, dI) classes (wL cI cZ u0 u1 u2 u3 u4 u5 u6 u7 u8 (upd L.1 (L.2.2.2.2.2.2.2.2.1 + 1).toNatClampNeg x1, upd L.2.1 (L.2.2.2.2.2.2.2.2.1 + 1).toNatClampNeg x2, upd L.2.2.1 (L.2.2.2.2.2.2.2.2.1 + 1).toNatClampNeg x3, upd L.2.2.2.1 (L.2.2.2.2.2.2.2.2.1 + 1).toNatClampNeg x4, upd L.2.2.2.2.1 (L.2.2.2.2.2.2.2.2.1 + 1).toNatClampNeg x5, L.2.2.2.2.2.1, L.2.2.2.2.2.2.1, L.2.2.2.2.2.2.2.1, L.2.2.2.2.2.2.2.2.1, L.2.2.2.2.2.2.2.2.2)) H := vz_reP (hW_L_add_49 cI cZ cQ u0 u1 u2 u3 u4 u5 u6 u7 u8 (upd L.1 (L.2.2.2.2.2.2.2.2.1 + 1).toNatClampNeg x1, upd L.2.1 (L.2.2.2.2.2.2.2.2.1 + 1).toNatClampNeg x2, upd L.2.2.1 (L.2.2.2.2.2.2.2.2.1 + 1).toNatClampNeg x3, upd L.2.2.2.1 (L.2.2.2.2.2.2.2.2.1 + 1).toNatClampNeg x4, L.2.2.2.2.1, L.2.2.2.2.2.1, L.2.2.2.2.2.2.1, L.2.2.2.2.2.2.2.1, L.2.2.2.2.2.2.2.2.1, L.2.2.2.2.2.2.2.2.2) (upd L.2.2.2.2.1 (L.2.2.2.2.2.2.2.2.1 + 1).toNatClampNeg x5)) hP
  have hD : va_D (vz_A (wL cI cZ u0 u1 u2 u3 u4 u5 u6 u7 u8 L)) (wL cI cZ u0 u1 u2 u3 u4 u5 u6 u7 u8 (upd L.1 (L.2.2.2.2.2.2.2.2.1 + 1).toNatClampNeg x1, upd L.2.1 (L.2.2.2.2.2.2.2.2.1 + 1).toNatClampNeg x2, upd L.2.2.1 (L.2.2.2.2.2.2.2.2.1 + 1).toNatClampNeg x3, upd L.2.2.2.1 (L.2.2.2.2.2.2.2.2.1 + 1).toNatClampNeg x4, upd L.2.2.2.2.1 (L.2.2.2.2.2.2.2.2.1 + 1).toNatClampNeg x5, L.2.2.2.2.2.1, L.2.2.2.2.2.2.1, L.2.2.2.2.2.2.2.1, L.2.2.2.2.2.2.2.2.1, L.2.2.2.2.2.2.2.2.2)) := vz_reD (hW_L_add_49 cI cZ cQ u0 u1 u2 u3 u4 u5 u6 u7 u8 (upd L.1 (L.2.2.2.2.2.2.2.2.1 + 1).toNatClampNeg x1, upd L.2.1 (L.2.2.2.2.2.2.2.2.1 + 1).toNatClampNeg x2, upd L.2.2.1 (L.2.2.2.2.2.2.2.2.1 + 1).toNatClampNeg x3, upd L.2.2.2.1 (L.2.2.2.2.2.2.2.2.1 + 1).toNatClampNeg x4, L.2.2.2.2.1, L.2.2.2.2.2.1, L.2.2.2.2.2.2.1, L.2.2.2.2.2.2.2.1, L.2.2.2.2.2.2.2.2.1, L.2.2.2.2.2.2.2.2.2) (upd L.2.2.2.2.1 (L.2.2.2.2.2.2.2.2.1 + 1).toNatClampNeg x5)) hD
  refine lv_aload_n hx hb d_L_add_50 rfl (lv_at hl 1 rfl) ?_
  refine va_get (D := (dC, dI)) (ci := 1) (v := .ref u6) (C := R_L) (T := F_L) (N := 10) hx hb hT i_L hown hK hP 0 rfl rfl 5 (by decide) (hT _ kw_36) (fun _ h9 => h9) rfl d_L_add_51 ?_
  refine lv_iload hx hb d_L_add_54 (lv_at hl 0 rfl) ?_
  refine lv_iload hx hb d_L_add_56 (lv_at hl 7 rfl) ?_
  refine va_iast hx hb hK hP hD hS 6 0 rfl rfl (ti_vp (by omega) (by omega)) d_L_add_58 (fun H locs hP hD hS => ?_)
  have hP : va_P (dC, dI) classes (wL cI cZ u0 u1 u2 u3 u4 u5 u6 u7 u8 (upd L.1 (L.2.2.2.2.2.2.2.2.1 + 1).toNatClampNeg x1, upd L.2.1 (L.2.2.2.2.2.2.2.2.1 + 1).toNatClampNeg x2, upd L.2.2.1 (L.2.2.2.2.2.2.2.2.1 + 1).toNatClampNeg x3, upd L.2.2.2.1 (L.2.2.2.2.2.2.2.2.1 + 1).toNatClampNeg x4, upd L.2.2.2.2.1 (L.2.2.2.2.2.2.2.2.1 + 1).toNatClampNeg x5, upd L.2.2.2.2.2.1 (L.2.2.2.2.2.2.2.2.1 + 1).toNatClampNeg x6, L.2.2.2.2.2.2.1, L.2.2.2.2.2.2.2.1, L.2.2.2.2.2.2.2.2.1, L.2.2.2.2.2.2.2.2.2)) H := vz_reP (hW_L_add_58 cI cZ cQ u0 u1 u2 u3 u4 u5 u6 u7 u8 (upd L.1 (L.2.2.2.2.2.2.2.2.1 + 1).toNatClampNeg x1, upd L.2.1 (L.2.2.2.2.2.2.2.2.1 + 1).toNatClampNeg x2, upd L.2.2.1 (L.2.2.2.2.2.2.2.2.1 + 1).toNatClampNeg x3, upd L.2.2.2.1 (L.2.2.2.2.2.2.2.2.1 + 1).toNatClampNeg x4, upd L.2.2.2.2.1 (L.2.2.2.2.2.2.2.2.1 + 1).toNatClampNeg x5, L.2.2.2.2.2.1, L.2.2.2.2.2.2.1, L.2.2.2.2.2.2.2.1, L.2.2.2.2.2.2.2.2.1, L.2.2.2.2.2.2.2.2.2) (upd L.2.2.2.2.2.1 (L.2.2.2.2.2.2.2.2.1 + 1).toNatClampNeg x6)) hP
  have hD : va_D (vz_A (wL cI cZ u0 u1 u2 u3 u4 u5 u6 u7 u8 L)) (wL cI cZ u0 u1 u2 u3 u4 u5 u6 u7 u8 (upd L.1 (L.2.2.2.2.2.2.2.2.1 + 1).toNatClampNeg x1, upd L.2.1 (L.2.2.2.2.2.2.2.2.1 + 1).toNatClampNeg x2, upd L.2.2.1 (L.2.2.2.2.2.2.2.2.1 + 1).toNatClampNeg x3, upd L.2.2.2.1 (L.2.2.2.2.2.2.2.2.1 + 1).toNatClampNeg x4, upd L.2.2.2.2.1 (L.2.2.2.2.2.2.2.2.1 + 1).toNatClampNeg x5, upd L.2.2.2.2.2.1 (L.2.2.2.2.2.2.2.2.1 + 1).toNatClampNeg x6, L.2.2.2.2.2.2.1, L.2.2.2.2.2.2.2.1, L.2.2.2.2.2.2.2.2.1, L.2.2.2.2.2.2.2.2.2)) := vz_reD (hW_L_add_58 cI cZ cQ u0 u1 u2 u3 u4 u5 u6 u7 u8 (upd L.1 (L.2.2.2.2.2.2.2.2.1 + 1).toNatClampNeg x1, upd L.2.1 (L.2.2.2.2.2.2.2.2.1 + 1).toNatClampNeg x2, upd L.2.2.1 (L.2.2.2.2.2.2.2.2.1 + 1).toNatClampNeg x3, upd L.2.2.2.1 (L.2.2.2.2.2.2.2.2.1 + 1).toNatClampNeg x4, upd L.2.2.2.2.1 (L.2.2.2.2.2.2.2.2.1 + 1).toNatClampNeg x5, L.2.2.2.2.2.1, L.2.2.2.2.2.2.1, L.2.2.2.2.2.2.2.1, L.2.2.2.2.2.2.2.2.1, L.2.2.2.2.2.2.2.2.2) (upd L.2.2.2.2.2.1 (L.2.2.2.2.2.2.2.2.1 + 1).toNatClampNeg x6)) hD
  refine lv_iload_n hx hb d_L_add_59 rfl (lv_at hl 2 rfl) ?_
  refine lv_iconst (v := 4) hx hb d_L_add_60 (by decide) ?_
  refine lv_icmp_ne (tgt := 73) hx hb d_L_add_61 (by decide) (fun c_61 => ?_) (fun c_61 => ?_)
  · have z_61 := mt Int32.toInt_inj.mp c_61
    refine lv_aload_n hx hb d_L_add_73 rfl (lv_at hl 1 rfl) ?_
    refine lv_iload hx hb d_L_add_74 (lv_at hl 0 rfl) ?_
    have hc := c_L_putInOrder l dC dI cI cZ cQ u0 u1 u2 u3 u4 u5 u6 u7 u8 (upd L.1 (L.2.2.2.2.2.2.2.2.1 + 1).toNatClampNeg x1, upd L.2.1 (L.2.2.2.2.2.2.2.2.1 + 1).toNatClampNeg x2, upd L.2.2.1 (L.2.2.2.2.2.2.2.2.1 + 1).toNatClampNeg x3, upd L.2.2.2.1 (L.2.2.2.2.2.2.2.2.1 + 1).toNatClampNeg x4, upd L.2.2.2.2.1 (L.2.2.2.2.2.2.2.2.1 + 1).toNatClampNeg x5, upd L.2.2.2.2.2.1 (L.2.2.2.2.2.2.2.2.1 + 1).toNatClampNeg x6, L.2.2.2.2.2.2.1, L.2.2.2.2.2.2.2.1, L.2.2.2.2.2.2.2.2.1, L.2.2.2.2.2.2.2.2.2) (L.2.2.2.2.2.2.2.2.1 + 1) (by dsimp only; omega) (hord) (by omega)
    generalize hg_76 : (m_L_putInOrder (upd L.1 (L.2.2.2.2.2.2.2.2.1 + 1).toNatClampNeg x1, upd L.2.1 (L.2.2.2.2.2.2.2.2.1 + 1).toNatClampNeg x2, upd L.2.2.1 (L.2.2.2.2.2.2.2.2.1 + 1).toNatClampNeg x3, upd L.2.2.2.1 (L.2.2.2.2.2.2.2.2.1 + 1).toNatClampNeg x4, upd L.2.2.2.2.1 (L.2.2.2.2.2.2.2.2.1 + 1).toNatClampNeg x5, upd L.2.2.2.2.2.1 (L.2.2.2.2.2.2.2.2.1 + 1).toNatClampNeg x6, L.2.2.2.2.2.2.1, L.2.2.2.2.2.2.2.1, L.2.2.2.2.2.2.2.2.1, L.2.2.2.2.2.2.2.2.2) (L.2.2.2.2.2.2.2.2.1 + 1)) = g_76 at hc
    refine vz_callV (As := [.int (L.2.2.2.2.2.2.2.2.1 + 1)]) (rest := []) ⟨hx, hb, hml, hown, hT⟩ hc (vz_goodV kw_154 kw_156 ks_1 kw_2 kw_157) ⟨rfl, hd_L_putInOrder⟩ ⟨⟨rfl, rfl⟩, Nat.le_of_ble_eq_true rfl, Nat.le_of_ble_eq_true rfl⟩ hK hP hD hS [0, 1, 2, 3, 4, 5, 6, 7, 8] rfl (hC_L_add_76 cI cZ cQ u0 u1 u2 u3 u4 u5 u6 u7 u8 (upd L.1 (L.2.2.2.2.2.2.2.2.1 + 1).toNatClampNeg x1, upd L.2.1 (L.2.2.2.2.2.2.2.2.1 + 1).toNatClampNeg x2, upd L.2.2.1 (L.2.2.2.2.2.2.2.2.1 + 1).toNatClampNeg x3, upd L.2.2.2.1 (L.2.2.2.2.2.2.2.2.1 + 1).toNatClampNeg x4, upd L.2.2.2.2.1 (L.2.2.2.2.2.2.2.2.1 + 1).toNatClampNeg x5, upd L.2.2.2.2.2.1 (L.2.2.2.2.2.2.2.2.1 + 1).toNatClampNeg x6, L.2.2.2.2.2.2.1, L.2.2.2.2.2.2.2.1, L.2.2.2.2.2.2.2.2.1, L.2.2.2.2.2.2.2.2.2)) (hF_L_putInOrder cI cZ cQ _ _) 0 1 rfl rfl rfl rfl hl.1 rfl (Nat.le_of_ble_eq_true rfl) ⟨Nat.zero_le _, Nat.zero_le _⟩ d_L_add_76 (fun H locs hP hD hS => ?_)
    have hP : va_P (dC, dI) classes (wL cI cZ u0 u1 u2 u3 u4 u5 u6 u7 u8 g_76) H := vz_reP (hU_L_add_76 cI cZ cQ u0 u1 u2 u3 u4 u5 u6 u7 u8 (upd L.1 (L.2.2.2.2.2.2.2.2.1 + 1).toNatClampNeg x1, upd L.2.1 (L.2.2.2.2.2.2.2.2.1 + 1).toNatClampNeg x2, upd L.2.2.1 (L.2.2.2.2.2.2.2.2.1 + 1).toNatClampNeg x3, upd L.2.2.2.1 (L.2.2.2.2.2.2.2.2.1 + 1).toNatClampNeg x4, upd L.2.2.2.2.1 (L.2.2.2.2.2.2.2.2.1 + 1).toNatClampNeg x5, upd L.2.2.2.2.2.1 (L.2.2.2.2.2.2.2.2.1 + 1).toNatClampNeg x6, L.2.2.2.2.2.2.1, L.2.2.2.2.2.2.2.1, L.2.2.2.2.2.2.2.2.1, L.2.2.2.2.2.2.2.2.2) g_76) hP
    have hD : va_D (vz_A (wL cI cZ u0 u1 u2 u3 u4 u5 u6 u7 u8 L)) (wL cI cZ u0 u1 u2 u3 u4 u5 u6 u7 u8 g_76) := vz_reD (hU_L_add_76 cI cZ cQ u0 u1 u2 u3 u4 u5 u6 u7 u8 (upd L.1 (L.2.2.2.2.2.2.2.2.1 + 1).toNatClampNeg x1, upd L.2.1 (L.2.2.2.2.2.2.2.2.1 + 1).toNatClampNeg x2, upd L.2.2.1 (L.2.2.2.2.2.2.2.2.1 + 1).toNatClampNeg x3, upd L.2.2.2.1 (L.2.2.2.2.2.2.2.2.1 + 1).toNatClampNeg x4, upd L.2.2.2.2.1 (L.2.2.2.2.2.2.2.2.1 + 1).toNatClampNeg x5, upd L.2.2.2.2.2.1 (L.2.2.2.2.2.2.2.2.1 + 1).toNatClampNeg x6, L.2.2.2.2.2.2.1, L.2.2.2.2.2.2.2.1, L.2.2.2.2.2.2.2.2.1, L.2.2.2.2.2.2.2.2.2) g_76) hD
    refine W.eq (g2 := F0 m 79 ls []) rfl ?_
    refine lv_aload_n hx hb d_L_add_79 rfl (lv_at hl 1 rfl) ?_
    refine lv_iload hx hb d_L_add_80 (lv_at hl 0 rfl) ?_
    refine va_put (D := (dC, dI)) (ci := 1) (v := .int (L.2.2.2.2.2.2.2.2.1 + 1)) (ty := .int) (C := R_L) (T := F_L) (N := 10) hx hb hT i_L tt_L tt_L_ok n_L hown hK hP hD hS 0 rfl rfl 8 (by decide) (hT _ kw_44) (fun _ h9 => h9) rfl (by decide +kernel) rfl rfl (Nat.le_of_ble_eq_true rfl) d_L_add_82 (fun H locs hP hD hS => ?_)
    have hP : va_P (dC, dI) classes (wL cI cZ u0 u1 u2 u3 u4 u5 u6 u7 u8 (g_76.1, g_76.2.1, g_76.2.2.1, g_76.2.2.2.1, g_76.2.2.2.2.1, g_76.2.2.2.2.2.1, g_76.2.2.2.2.2.2.1, g_76.2.2.2.2.2.2.2.1, L.2.2.2.2.2.2.2.2.1 + 1, g_76.2.2.2.2.2.2.2.2.2)) H := vz_reP (hW_L_add_82 cI cZ cQ u0 u1 u2 u3 u4 u5 u6 u7 u8 g_76 (L.2.2.2.2.2.2.2.2.1 + 1)) hP
    have hD : va_D (vz_A (wL cI cZ u0 u1 u2 u3 u4 u5 u6 u7 u8 L)) (wL cI cZ u0 u1 u2 u3 u4 u5 u6 u7 u8 (g_76.1, g_76.2.1, g_76.2.2.1, g_76.2.2.2.1, g_76.2.2.2.2.1, g_76.2.2.2.2.2.1, g_76.2.2.2.2.2.2.1, g_76.2.2.2.2.2.2.2.1, L.2.2.2.2.2.2.2.2.1 + 1, g_76.2.2.2.2.2.2.2.2.2)) := vz_reD (hW_L_add_82 cI cZ cQ u0 u1 u2 u3 u4 u5 u6 u7 u8 g_76 (L.2.2.2.2.2.2.2.2.1 + 1)) hD
    refine lv_iload hx hb d_L_add_85 (lv_at hl 0 rfl) ?_
    rw [m_L_add, if_neg c_61] at hres
    try rw [hg_76] at hres
    subst hres
    subst hQ
    exact vz_iret hx hb hr hlocks d_L_add_87 hS rfl hP
  · have z_61 := congrArg Int32.toInt c_61
    refine lv_aload_n hx hb d_L_add_64 rfl (lv_at hl 1 rfl) ?_
    refine va_get (D := (dC, dI)) (ci := 1) (v := .ref u7) (C := R_L) (T := F_L) (N := 10) hx hb hT i_L hown hK hP 0 rfl rfl 6 (by decide) (hT _ kw_39) (fun _ h9 => h9) rfl d_L_add_65 ?_
    refine lv_iload hx hb d_L_add_68 (lv_at hl 5 rfl) ?_
    refine lv_iload hx hb d_L_add_70 (lv_at hl 0 rfl) ?_
    refine va_iast hx hb hK hP hD hS 7 0 rfl rfl (by have := h4 c_61; exact ti_vp (by omega) (by omega)) d_L_add_72 (fun H locs hP hD hS => ?_)
    have hP : va_P (dC, dI) classes (wL cI cZ u0 u1 u2 u3 u4 u5 u6 u7 u8 (upd L.1 (L.2.2.2.2.2.2.2.2.1 + 1).toNatClampNeg x1, upd L.2.1 (L.2.2.2.2.2.2.2.2.1 + 1).toNatClampNeg x2, upd L.2.2.1 (L.2.2.2.2.2.2.2.2.1 + 1).toNatClampNeg x3, upd L.2.2.2.1 (L.2.2.2.2.2.2.2.2.1 + 1).toNatClampNeg x4, upd L.2.2.2.2.1 (L.2.2.2.2.2.2.2.2.1 + 1).toNatClampNeg x5, upd L.2.2.2.2.2.1 (L.2.2.2.2.2.2.2.2.1 + 1).toNatClampNeg x6, upd L.2.2.2.2.2.2.1 x4.toNatClampNeg (L.2.2.2.2.2.2.2.2.1 + 1), L.2.2.2.2.2.2.2.1, L.2.2.2.2.2.2.2.2.1, L.2.2.2.2.2.2.2.2.2)) H := vz_reP (hW_L_add_72 cI cZ cQ u0 u1 u2 u3 u4 u5 u6 u7 u8 (upd L.1 (L.2.2.2.2.2.2.2.2.1 + 1).toNatClampNeg x1, upd L.2.1 (L.2.2.2.2.2.2.2.2.1 + 1).toNatClampNeg x2, upd L.2.2.1 (L.2.2.2.2.2.2.2.2.1 + 1).toNatClampNeg x3, upd L.2.2.2.1 (L.2.2.2.2.2.2.2.2.1 + 1).toNatClampNeg x4, upd L.2.2.2.2.1 (L.2.2.2.2.2.2.2.2.1 + 1).toNatClampNeg x5, upd L.2.2.2.2.2.1 (L.2.2.2.2.2.2.2.2.1 + 1).toNatClampNeg x6, L.2.2.2.2.2.2.1, L.2.2.2.2.2.2.2.1, L.2.2.2.2.2.2.2.2.1, L.2.2.2.2.2.2.2.2.2) (upd L.2.2.2.2.2.2.1 x4.toNatClampNeg (L.2.2.2.2.2.2.2.2.1 + 1))) hP
    have hD : va_D (vz_A (wL cI cZ u0 u1 u2 u3 u4 u5 u6 u7 u8 L)) (wL cI cZ u0 u1 u2 u3 u4 u5 u6 u7 u8 (upd L.1 (L.2.2.2.2.2.2.2.2.1 + 1).toNatClampNeg x1, upd L.2.1 (L.2.2.2.2.2.2.2.2.1 + 1).toNatClampNeg x2, upd L.2.2.1 (L.2.2.2.2.2.2.2.2.1 + 1).toNatClampNeg x3, upd L.2.2.2.1 (L.2.2.2.2.2.2.2.2.1 + 1).toNatClampNeg x4, upd L.2.2.2.2.1 (L.2.2.2.2.2.2.2.2.1 + 1).toNatClampNeg x5, upd L.2.2.2.2.2.1 (L.2.2.2.2.2.2.2.2.1 + 1).toNatClampNeg x6, upd L.2.2.2.2.2.2.1 x4.toNatClampNeg (L.2.2.2.2.2.2.2.2.1 + 1), L.2.2.2.2.2.2.2.1, L.2.2.2.2.2.2.2.2.1, L.2.2.2.2.2.2.2.2.2)) := vz_reD (hW_L_add_72 cI cZ cQ u0 u1 u2 u3 u4 u5 u6 u7 u8 (upd L.1 (L.2.2.2.2.2.2.2.2.1 + 1).toNatClampNeg x1, upd L.2.1 (L.2.2.2.2.2.2.2.2.1 + 1).toNatClampNeg x2, upd L.2.2.1 (L.2.2.2.2.2.2.2.2.1 + 1).toNatClampNeg x3, upd L.2.2.2.1 (L.2.2.2.2.2.2.2.2.1 + 1).toNatClampNeg x4, upd L.2.2.2.2.1 (L.2.2.2.2.2.2.2.2.1 + 1).toNatClampNeg x5, upd L.2.2.2.2.2.1 (L.2.2.2.2.2.2.2.2.1 + 1).toNatClampNeg x6, L.2.2.2.2.2.2.1, L.2.2.2.2.2.2.2.1, L.2.2.2.2.2.2.2.2.1, L.2.2.2.2.2.2.2.2.2) (upd L.2.2.2.2.2.2.1 x4.toNatClampNeg (L.2.2.2.2.2.2.2.2.1 + 1))) hD
    refine lv_aload_n hx hb d_L_add_73 rfl (lv_at hl 1 rfl) ?_
    refine lv_iload hx hb d_L_add_74 (lv_at hl 0 rfl) ?_
    have hc := c_L_putInOrder l dC dI cI cZ cQ u0 u1 u2 u3 u4 u5 u6 u7 u8 (upd L.1 (L.2.2.2.2.2.2.2.2.1 + 1).toNatClampNeg x1, upd L.2.1 (L.2.2.2.2.2.2.2.2.1 + 1).toNatClampNeg x2, upd L.2.2.1 (L.2.2.2.2.2.2.2.2.1 + 1).toNatClampNeg x3, upd L.2.2.2.1 (L.2.2.2.2.2.2.2.2.1 + 1).toNatClampNeg x4, upd L.2.2.2.2.1 (L.2.2.2.2.2.2.2.2.1 + 1).toNatClampNeg x5, upd L.2.2.2.2.2.1 (L.2.2.2.2.2.2.2.2.1 + 1).toNatClampNeg x6, upd L.2.2.2.2.2.2.1 x4.toNatClampNeg (L.2.2.2.2.2.2.2.2.1 + 1), L.2.2.2.2.2.2.2.1, L.2.2.2.2.2.2.2.2.1, L.2.2.2.2.2.2.2.2.2) (L.2.2.2.2.2.2.2.2.1 + 1) (by dsimp only; omega) (hord) (by omega)
    generalize hg_76 : (m_L_putInOrder (upd L.1 (L.2.2.2.2.2.2.2.2.1 + 1).toNatClampNeg x1, upd L.2.1 (L.2.2.2.2.2.2.2.2.1 + 1).toNatClampNeg x2, upd L.2.2.1 (L.2.2.2.2.2.2.2.2.1 + 1).toNatClampNeg x3, upd L.2.2.2.1 (L.2.2.2.2.2.2.2.2.1 + 1).toNatClampNeg x4, upd L.2.2.2.2.1 (L.2.2.2.2.2.2.2.2.1 + 1).toNatClampNeg x5, upd L.2.2.2.2.2.1 (L.2.2.2.2.2.2.2.2.1 + 1).toNatClampNeg x6, upd L.2.2.2.2.2.2.1 x4.toNatClampNeg (L.2.2.2.2.2.2.2.2.1 + 1), L.2.2.2.2.2.2.2.1, L.2.2.2.2.2.2.2.2.1, L.2.2.2.2.2.2.2.2.2) (L.2.2.2.2.2.2.2.2.1 + 1)) = g_76 at hc
    refine vz_callV (As := [.int (L.2.2.2.2.2.2.2.2.1 + 1)]) (rest := []) ⟨hx, hb, hml, hown, hT⟩ hc (vz_goodV kw_154 kw_156 ks_1 kw_2 kw_157) ⟨rfl, hd_L_putInOrder⟩ ⟨⟨rfl, rfl⟩, Nat.le_of_ble_eq_true rfl, Nat.le_of_ble_eq_true rfl⟩ hK hP hD hS [0, 1, 2, 3, 4, 5, 6, 7, 8] rfl (hC_L_add_76 cI cZ cQ u0 u1 u2 u3 u4 u5 u6 u7 u8 (upd L.1 (L.2.2.2.2.2.2.2.2.1 + 1).toNatClampNeg x1, upd L.2.1 (L.2.2.2.2.2.2.2.2.1 + 1).toNatClampNeg x2, upd L.2.2.1 (L.2.2.2.2.2.2.2.2.1 + 1).toNatClampNeg x3, upd L.2.2.2.1 (L.2.2.2.2.2.2.2.2.1 + 1).toNatClampNeg x4, upd L.2.2.2.2.1 (L.2.2.2.2.2.2.2.2.1 + 1).toNatClampNeg x5, upd L.2.2.2.2.2.1 (L.2.2.2.2.2.2.2.2.1 + 1).toNatClampNeg x6, upd L.2.2.2.2.2.2.1 x4.toNatClampNeg (L.2.2.2.2.2.2.2.2.1 + 1), L.2.2.2.2.2.2.2.1, L.2.2.2.2.2.2.2.2.1, L.2.2.2.2.2.2.2.2.2)) (hF_L_putInOrder cI cZ cQ _ _) 0 1 rfl rfl rfl rfl hl.1 rfl (Nat.le_of_ble_eq_true rfl) ⟨Nat.zero_le _, Nat.zero_le _⟩ d_L_add_76 (fun H locs hP hD hS => ?_)
    have hP : va_P (dC, dI) classes (wL cI cZ u0 u1 u2 u3 u4 u5 u6 u7 u8 g_76) H := vz_reP (hU_L_add_76 cI cZ cQ u0 u1 u2 u3 u4 u5 u6 u7 u8 (upd L.1 (L.2.2.2.2.2.2.2.2.1 + 1).toNatClampNeg x1, upd L.2.1 (L.2.2.2.2.2.2.2.2.1 + 1).toNatClampNeg x2, upd L.2.2.1 (L.2.2.2.2.2.2.2.2.1 + 1).toNatClampNeg x3, upd L.2.2.2.1 (L.2.2.2.2.2.2.2.2.1 + 1).toNatClampNeg x4, upd L.2.2.2.2.1 (L.2.2.2.2.2.2.2.2.1 + 1).toNatClampNeg x5, upd L.2.2.2.2.2.1 (L.2.2.2.2.2.2.2.2.1 + 1).toNatClampNeg x6, upd L.2.2.2.2.2.2.1 x4.toNatClampNeg (L.2.2.2.2.2.2.2.2.1 + 1), L.2.2.2.2.2.2.2.1, L.2.2.2.2.2.2.2.2.1, L.2.2.2.2.2.2.2.2.2) g_76) hP
    have hD : va_D (vz_A (wL cI cZ u0 u1 u2 u3 u4 u5 u6 u7 u8 L)) (wL cI cZ u0 u1 u2 u3 u4 u5 u6 u7 u8 g_76) := vz_reD (hU_L_add_76 cI cZ cQ u0 u1 u2 u3 u4 u5 u6 u7 u8 (upd L.1 (L.2.2.2.2.2.2.2.2.1 + 1).toNatClampNeg x1, upd L.2.1 (L.2.2.2.2.2.2.2.2.1 + 1).toNatClampNeg x2, upd L.2.2.1 (L.2.2.2.2.2.2.2.2.1 + 1).toNatClampNeg x3, upd L.2.2.2.1 (L.2.2.2.2.2.2.2.2.1 + 1).toNatClampNeg x4, upd L.2.2.2.2.1 (L.2.2.2.2.2.2.2.2.1 + 1).toNatClampNeg x5, upd L.2.2.2.2.2.1 (L.2.2.2.2.2.2.2.2.1 + 1).toNatClampNeg x6, upd L.2.2.2.2.2.2.1 x4.toNatClampNeg (L.2.2.2.2.2.2.2.2.1 + 1), L.2.2.2.2.2.2.2.1, L.2.2.2.2.2.2.2.2.1, L.2.2.2.2.2.2.2.2.2) g_76) hD
    refine W.eq (g2 := F0 m 79 ls []) rfl ?_
    refine lv_aload_n hx hb d_L_add_79 rfl (lv_at hl 1 rfl) ?_
    refine lv_iload hx hb d_L_add_80 (lv_at hl 0 rfl) ?_
    refine va_put (D := (dC, dI)) (ci := 1) (v := .int (L.2.2.2.2.2.2.2.2.1 + 1)) (ty := .int) (C := R_L) (T := F_L) (N := 10) hx hb hT i_L tt_L tt_L_ok n_L hown hK hP hD hS 0 rfl rfl 8 (by decide) (hT _ kw_44) (fun _ h9 => h9) rfl (by decide +kernel) rfl rfl (Nat.le_of_ble_eq_true rfl) d_L_add_82 (fun H locs hP hD hS => ?_)
    have hP : va_P (dC, dI) classes (wL cI cZ u0 u1 u2 u3 u4 u5 u6 u7 u8 (g_76.1, g_76.2.1, g_76.2.2.1, g_76.2.2.2.1, g_76.2.2.2.2.1, g_76.2.2.2.2.2.1, g_76.2.2.2.2.2.2.1, g_76.2.2.2.2.2.2.2.1, L.2.2.2.2.2.2.2.2.1 + 1, g_76.2.2.2.2.2.2.2.2.2)) H := vz_reP (hW_L_add_82 cI cZ cQ u0 u1 u2 u3 u4 u5 u6 u7 u8 g_76 (L.2.2.2.2.2.2.2.2.1 + 1)) hP
    have hD : va_D (vz_A (wL cI cZ u0 u1 u2 u3 u4 u5 u6 u7 u8 L)) (wL cI cZ u0 u1 u2 u3 u4 u5 u6 u7 u8 (g_76.1, g_76.2.1, g_76.2.2.1, g_76.2.2.2.1, g_76.2.2.2.2.1, g_76.2.2.2.2.2.1, g_76.2.2.2.2.2.2.1, g_76.2.2.2.2.2.2.2.1, L.2.2.2.2.2.2.2.2.1 + 1, g_76.2.2.2.2.2.2.2.2.2)) := vz_reD (hW_L_add_82 cI cZ cQ u0 u1 u2 u3 u4 u5 u6 u7 u8 g_76 (L.2.2.2.2.2.2.2.2.1 + 1)) hD
    refine lv_iload hx hb d_L_add_85 (lv_at hl 0 rfl) ?_
    rw [m_L_add, if_pos c_61] at hres
    try rw [hg_76] at hres
    subst hres
    subst hQ
    exact vz_iret hx hb hr hlocks d_L_add_87 hS rfl hP
end
section
theorem d_P_knows_0 : decode b_P_knows 0 = .ok (.aload_n 0, 1) := by decide +kernel
theorem d_P_knows_1 : decode b_P_knows 1 = .ok (.getfield 9, 3) := by decide +kernel
theorem d_P_knows_4 : decode b_P_knows 4 = .ok (.iload_n 1, 1) := by decide +kernel
theorem d_P_knows_5 : decode b_P_knows 5 = .ok (.iaload, 1) := by decide +kernel
theorem d_P_knows_6 : decode b_P_knows 6 = .ok (.ifCond .eq 7, 3) := by decide +kernel
theorem d_P_knows_9 : decode b_P_knows 9 = .ok (.iconst 1, 1) := by decide +kernel
theorem d_P_knows_10 : decode b_P_knows 10 = .ok (.goto 4, 3) := by decide +kernel
theorem d_P_knows_13 : decode b_P_knows 13 = .ok (.iconst 0, 1) := by decide +kernel
theorem d_P_knows_14 : decode b_P_knows 14 = .ok (.ireturn, 1) := by decide +kernel
def m_P_knows (P : cP) (x1 : Int32) : Int32 := (if (P.1 x1.toNatClampNeg) = 0 then 0 else 1)
set_option maxHeartbeats 1000000 in
set_option maxRecDepth 100000 in
theorem c_P_knows (l : Launch) (dC : Nat → ClassId) (dI : Nat → Nat → Nat) (cI cZ cQ : ClassId) (p0 : Nat) (p1 : Nat) (h0 : Nat) (a1 : Nat) (a2 : Nat) (a3 : Nat) (a4 : Nat) (P : cP) (x1 : Int32) (h1 : 0 ≤ x1.toInt ∧ x1.toInt < 301) : vz_C l (dC, dI) classes [(cI, .int), (cZ, .boolean), (cQ, .object "BinTrees$Person")] y_P_knows (Cond.code y_P_knows b_P_knows 2 (some .boolean) :: vz_tbl) ({ frames := 0, cells := 0, slots := 0, locals := 0 }) [.ref p0, .int x1] (wP cI cZ p0 p1 h0 a1 a2 a3 a4 P) (some (.int (m_P_knows P x1))) (wP cI cZ p0 p1 h0 a1 a2 a3 a4 P) := by
  generalize hres : (m_P_knows P x1) = RES
  refine vz_C.of (by decide) (Nat.le_of_ble_eq_true rfl) ?_
  intro p e s m below meth c ls E hl hK hP hD hS
  obtain ⟨hx, hb, hr, hml, hown, hT, hlocks⟩ := E
  obtain ⟨Q, hQ⟩ : ∃ Q, Q = MQ below (vz_Q (dC, dI) classes (wP cI cZ p0 p1 h0 a1 a2 a3 a4 P) (some (.int RES)) (wP cI cZ p0 p1 h0 a1 a2 a3 a4 P)) ([.ref p0, .int x1] : List Value).toArray s 0 0 (vz_A (wP cI cZ p0 p1 h0 a1 a2 a3 a4 P)) := ⟨_, rfl⟩
  rw [← hQ]
  have hl : lv_has ls 2 [(0, .ref p0), (1, .int x1)] := hl
  have T0 := ti_0
  have T1 := ti_1
  have Tm := ti_m1
  have T8 := ti_8
  have T39 := ti_39
  have T40 := ti_40
  have T4 := ti_4
  have T300 := ti_300
  have hS0 := hS
  refine lv_aload_n hx hb d_P_knows_0 rfl (lv_at hl 0 rfl) ?_
  refine va_get (D := (dC, dI)) (ci := 2) (v := .ref p1) (C := R_P) (T := F_P) (N := 5) hx hb hT i_P hown hK hP 0 rfl rfl 0 (by decide) (hT _ kw_111) (fun _ h9 => h9) rfl d_P_knows_1 ?_
  refine lv_iload_n hx hb d_P_knows_4 rfl (lv_at hl 1 rfl) ?_
  refine va_iald hx hb hK hP 1 0 rfl rfl (ti_vp (by omega) (by omega)) d_P_knows_5 ?_
  refine lv_if_eq (tgt := 13) hx hb d_P_knows_6 (by decide) (fun c_6 => ?_) (fun c_6 => ?_)
  · have z_6 := congrArg Int32.toInt c_6
    refine lv_iconst (v := 0) hx hb d_P_knows_13 (by decide) ?_
    rw [m_P_knows, if_pos c_6] at hres
    subst hres
    subst hQ
    exact vz_zret hx hb hr (by decide) hlocks d_P_knows_14 hS rfl hP
  · have z_6 := mt Int32.toInt_inj.mp c_6
    refine lv_iconst (v := 1) hx hb d_P_knows_9 (by decide) ?_
    refine lv_goto (tgt := 14) hx hb d_P_knows_10 (by decide) ?_
    rw [m_P_knows, if_neg c_6] at hres
    subst hres
    subst hQ
    exact vz_zret hx hb hr (by decide) hlocks d_P_knows_14 hS rfl hP
end
section
theorem d_P_countFrom_0 : decode b_P_countFrom 0 = .ok (.aload_n 0, 1) := by decide +kernel
theorem d_P_countFrom_1 : decode b_P_countFrom 1 = .ok (.iload_n 2, 1) := by decide +kernel
theorem d_P_countFrom_2 : decode b_P_countFrom 2 = .ok (.invokevirtual 52, 3) := by decide +kernel
theorem d_P_countFrom_5 : decode b_P_countFrom 5 = .ok (.ifCond .ne 5, 3) := by decide +kernel
theorem d_P_countFrom_8 : decode b_P_countFrom 8 = .ok (.iconst 0, 1) := by decide +kernel
theorem d_P_countFrom_9 : decode b_P_countFrom 9 = .ok (.ireturn, 1) := by decide +kernel
theorem d_P_countFrom_10 : decode b_P_countFrom 10 = .ok (.iconst 0, 1) := by decide +kernel
theorem d_P_countFrom_11 : decode b_P_countFrom 11 = .ok (.istore_n 3, 1) := by decide +kernel
theorem d_P_countFrom_12 : decode b_P_countFrom 12 = .ok (.aload_n 1, 1) := by decide +kernel
theorem d_P_countFrom_13 : decode b_P_countFrom 13 = .ok (.getfield 56, 3) := by decide +kernel
theorem d_P_countFrom_16 : decode b_P_countFrom 16 = .ok (.iconst 1, 1) := by decide +kernel
theorem d_P_countFrom_17 : decode b_P_countFrom 17 = .ok (.isub, 1) := by decide +kernel
theorem d_P_countFrom_18 : decode b_P_countFrom 18 = .ok (.istore 4, 2) := by decide +kernel
theorem d_P_countFrom_20 : decode b_P_countFrom 20 = .ok (.iload 4, 2) := by decide +kernel
theorem d_P_countFrom_22 : decode b_P_countFrom 22 = .ok (.ifCond .lt 50, 3) := by decide +kernel
theorem d_P_countFrom_25 : decode b_P_countFrom 25 = .ok (.aload_n 1, 1) := by decide +kernel
theorem d_P_countFrom_26 : decode b_P_countFrom 26 = .ok (.getfield 59, 3) := by decide +kernel
theorem d_P_countFrom_29 : decode b_P_countFrom 29 = .ok (.iload 4, 2) := by decide +kernel
theorem d_P_countFrom_31 : decode b_P_countFrom 31 = .ok (.iaload, 1) := by decide +kernel
theorem d_P_countFrom_32 : decode b_P_countFrom 32 = .ok (.istore 5, 2) := by decide +kernel
theorem d_P_countFrom_34 : decode b_P_countFrom 34 = .ok (.aload_n 0, 1) := by decide +kernel
theorem d_P_countFrom_35 : decode b_P_countFrom 35 = .ok (.iload 5, 2) := by decide +kernel
theorem d_P_countFrom_37 : decode b_P_countFrom 37 = .ok (.invokevirtual 52, 3) := by decide +kernel
theorem d_P_countFrom_40 : decode b_P_countFrom 40 = .ok (.ifCond .eq 17, 3) := by decide +kernel
theorem d_P_countFrom_43 : decode b_P_countFrom 43 = .ok (.aload_n 1, 1) := by decide +kernel
theorem d_P_countFrom_44 : decode b_P_countFrom 44 = .ok (.getfield 39, 3) := by decide +kernel
theorem d_P_countFrom_47 : decode b_P_countFrom 47 = .ok (.iload 5, 2) := by decide +kernel
theorem d_P_countFrom_49 : decode b_P_countFrom 49 = .ok (.iaload, 1) := by decide +kernel
theorem d_P_countFrom_50 : decode b_P_countFrom 50 = .ok (.iconst 4, 1) := by decide +kernel
theorem d_P_countFrom_51 : decode b_P_countFrom 51 = .ok (.if_icmp .eq 6, 3) := by decide +kernel
theorem d_P_countFrom_54 : decode b_P_countFrom 54 = .ok (.iinc 3 1, 3) := by decide +kernel
theorem d_P_countFrom_57 : decode b_P_countFrom 57 = .ok (.iload 5, 2) := by decide +kernel
theorem d_P_countFrom_59 : decode b_P_countFrom 59 = .ok (.iload_n 2, 1) := by decide +kernel
theorem d_P_countFrom_60 : decode b_P_countFrom 60 = .ok (.if_icmp .ne 6, 3) := by decide +kernel
theorem d_P_countFrom_63 : decode b_P_countFrom 63 = .ok (.goto 9, 3) := by decide +kernel
theorem d_P_countFrom_66 : decode b_P_countFrom 66 = .ok (.iinc 4 (-1), 3) := by decide +kernel
theorem d_P_countFrom_69 : decode b_P_countFrom 69 = .ok (.goto (-49), 3) := by decide +kernel
theorem d_P_countFrom_72 : decode b_P_countFrom 72 = .ok (.iload_n 3, 1) := by decide +kernel
theorem d_P_countFrom_73 : decode b_P_countFrom 73 = .ok (.ireturn, 1) := by decide +kernel
theorem hC_P_countFrom_37 (cI cZ cQ : ClassId) (q0 q1 q2 q3 q4 q5 q6 q7 q8 q9 q10 q11 q12 q13 q14 q15 : Nat) (S0 : cL) (S1 : cP) : ([9, 10, 11, 12, 13, 14, 15] : List Nat).map (fun i => (wL cI cZ q0 q1 q2 q3 q4 q5 q6 q7 q8 S0 ++ wP cI cZ q9 q10 q11 q12 q13 q14 q15 S1 : va_W)[i]?) = (wP cI cZ q9 q10 q11 q12 q13 q14 q15 S1 : va_W).map some := rfl
theorem hF_P_knows (cI cZ cQ : ClassId) {p0 p1 h0 a1 a2 a3 a4 : Nat} (S0 R0 : cP) : (wP cI cZ p0 p1 h0 a1 a2 a3 a4 R0 : va_W).map Prod.fst = (wP cI cZ p0 p1 h0 a1 a2 a3 a4 S0 : va_W).map Prod.fst := rfl
theorem hU_P_countFrom_37 (cI cZ cQ : ClassId) (q0 q1 q2 q3 q4 q5 q6 q7 q8 q9 q10 q11 q12 q13 q14 q15 : Nat) (S0 : cL) (S1 : cP)  : vz_put (wL cI cZ q0 q1 q2 q3 q4 q5 q6 q7 q8 S0 ++ wP cI cZ q9 q10 q11 q12 q13 q14 q15 S1 : va_W) [9, 10, 11, 12, 13, 14, 15] (wP cI cZ q9 q10 q11 q12 q13 q14 q15 S1 : va_W) = wL cI cZ q0 q1 q2 q3 q4 q5 q6 q7 q8 S0 ++ wP cI cZ q9 q10 q11 q12 q13 q14 q15 S1 := (show vz_put ([(q0, .inr (1, [.ref q1, .ref q2, .ref q3, .ref q4, .ref q5, .ref q6, .ref q7, .ref q8, .int S0.2.2.2.2.2.2.2.2.1, .int S0.2.2.2.2.2.2.2.2.2])), (q1, .inl (cI, 301, .inl S0.1)), (q2, .inl (cI, 301, .inl S0.2.1)), (q3, .inl (cI, 301, .inl S0.2.2.1)), (q4, .inl (cI, 301, .inl S0.2.2.2.1)), (q5, .inl (cI, 301, .inl S0.2.2.2.2.1)), (q6, .inl (cI, 301, .inl S0.2.2.2.2.2.1)), (q7, .inl (cI, 301, .inl S0.2.2.2.2.2.2.1)), (q8, .inl (cI, 300, .inl S0.2.2.2.2.2.2.2.1)), (q9, .inr (2, [.ref q10, .ref q11, .int S1.2.2.1, .int S1.2.2.2.1, .int S1.2.2.2.2])), (q10, .inl (cI, 301, .inl S1.1)), (q11, .inr (0, [.ref q12, .ref q13, .ref q14, .ref q15, .int S1.2.1.2.2.2.2])), (q12, .inl (cZ, 40, .inl S1.2.1.1)), (q13, .inl (cI, 40, .inl S1.2.1.2.1)), (q14, .inl (cI, 40, .inl S1.2.1.2.2.1)), (q15, .inl (cI, 40, .inl S1.2.1.2.2.2.1))] : va_W) [9, 10, 11, 12, 13, 14, 15] ([(q9, .inr (2, [.ref q10, .ref q11, .int S1.2.2.1, .int S1.2.2.2.1, .int S1.2.2.2.2])), (q10, .inl (cI, 301, .inl S1.1)), (q11, .inr (0, [.ref q12, .ref q13, .ref q14, .ref q15, .int S1.2.1.2.2.2.2])), (q12, .inl (cZ, 40, .inl S1.2.1.1)), (q13, .inl (cI, 40, .inl S1.2.1.2.1)), (q14, .inl (cI, 40, .inl S1.2.1.2.2.1)), (q15, .inl (cI, 40, .inl S1.2.1.2.2.2.1))] : va_W) = [(q0, .inr (1, [.ref q1, .ref q2, .ref q3, .ref q4, .ref q5, .ref q6, .ref q7, .ref q8, .int S0.2.2.2.2.2.2.2.2.1, .int S0.2.2.2.2.2.2.2.2.2])), (q1, .inl (cI, 301, .inl S0.1)), (q2, .inl (cI, 301, .inl S0.2.1)), (q3, .inl (cI, 301, .inl S0.2.2.1)), (q4, .inl (cI, 301, .inl S0.2.2.2.1)), (q5, .inl (cI, 301, .inl S0.2.2.2.2.1)), (q6, .inl (cI, 301, .inl S0.2.2.2.2.2.1)), (q7, .inl (cI, 301, .inl S0.2.2.2.2.2.2.1)), (q8, .inl (cI, 300, .inl S0.2.2.2.2.2.2.2.1)), (q9, .inr (2, [.ref q10, .ref q11, .int S1.2.2.1, .int S1.2.2.2.1, .int S1.2.2.2.2])), (q10, .inl (cI, 301, .inl S1.1)), (q11, .inr (0, [.ref q12, .ref q13, .ref q14, .ref q15, .int S1.2.1.2.2.2.2])), (q12, .inl (cZ, 40, .inl S1.2.1.1)), (q13, .inl (cI, 40, .inl S1.2.1.2.1)), (q14, .inl (cI, 40, .inl S1.2.1.2.2.1)), (q15, .inl (cI, 40, .inl S1.2.1.2.2.2.1))] from rfl).trans rfl
theorem hC_P_countFrom_2 (cI cZ cQ : ClassId) (q0 q1 q2 q3 q4 q5 q6 q7 q8 q9 q10 q11 q12 q13 q14 q15 : Nat) (S0 : cL) (S1 : cP) : ([9, 10, 11, 12, 13, 14, 15] : List Nat).map (fun i => (wL cI cZ q0 q1 q2 q3 q4 q5 q6 q7 q8 S0 ++ wP cI cZ q9 q10 q11 q12 q13 q14 q15 S1 : va_W)[i]?) = (wP cI cZ q9 q10 q11 q12 q13 q14 q15 S1 : va_W).map some := rfl
theorem hU_P_countFrom_2 (cI cZ cQ : ClassId) (q0 q1 q2 q3 q4 q5 q6 q7 q8 q9 q10 q11 q12 q13 q14 q15 : Nat) (S0 : cL) (S1 : cP)  : vz_put (wL cI cZ q0 q1 q2 q3 q4 q5 q6 q7 q8 S0 ++ wP cI cZ q9 q10 q11 q12 q13 q14 q15 S1 : va_W) [9, 10, 11, 12, 13, 14, 15] (wP cI cZ q9 q10 q11 q12 q13 q14 q15 S1 : va_W) = wL cI cZ q0 q1 q2 q3 q4 q5 q6 q7 q8 S0 ++ wP cI cZ q9 q10 q11 q12 q13 q14 q15 S1 := (show vz_put ([(q0, .inr (1, [.ref q1, .ref q2, .ref q3, .ref q4, .ref q5, .ref q6, .ref q7, .ref q8, .int S0.2.2.2.2.2.2.2.2.1, .int S0.2.2.2.2.2.2.2.2.2])), (q1, .inl (cI, 301, .inl S0.1)), (q2, .inl (cI, 301, .inl S0.2.1)), (q3, .inl (cI, 301, .inl S0.2.2.1)), (q4, .inl (cI, 301, .inl S0.2.2.2.1)), (q5, .inl (cI, 301, .inl S0.2.2.2.2.1)), (q6, .inl (cI, 301, .inl S0.2.2.2.2.2.1)), (q7, .inl (cI, 301, .inl S0.2.2.2.2.2.2.1)), (q8, .inl (cI, 300, .inl S0.2.2.2.2.2.2.2.1)), (q9, .inr (2, [.ref q10, .ref q11, .int S1.2.2.1, .int S1.2.2.2.1, .int S1.2.2.2.2])), (q10, .inl (cI, 301, .inl S1.1)), (q11, .inr (0, [.ref q12, .ref q13, .ref q14, .ref q15, .int S1.2.1.2.2.2.2])), (q12, .inl (cZ, 40, .inl S1.2.1.1)), (q13, .inl (cI, 40, .inl S1.2.1.2.1)), (q14, .inl (cI, 40, .inl S1.2.1.2.2.1)), (q15, .inl (cI, 40, .inl S1.2.1.2.2.2.1))] : va_W) [9, 10, 11, 12, 13, 14, 15] ([(q9, .inr (2, [.ref q10, .ref q11, .int S1.2.2.1, .int S1.2.2.2.1, .int S1.2.2.2.2])), (q10, .inl (cI, 301, .inl S1.1)), (q11, .inr (0, [.ref q12, .ref q13, .ref q14, .ref q15, .int S1.2.1.2.2.2.2])), (q12, .inl (cZ, 40, .inl S1.2.1.1)), (q13, .inl (cI, 40, .inl S1.2.1.2.1)), (q14, .inl (cI, 40, .inl S1.2.1.2.2.1)), (q15, .inl (cI, 40, .inl S1.2.1.2.2.2.1))] : va_W) = [(q0, .inr (1, [.ref q1, .ref q2, .ref q3, .ref q4, .ref q5, .ref q6, .ref q7, .ref q8, .int S0.2.2.2.2.2.2.2.2.1, .int S0.2.2.2.2.2.2.2.2.2])), (q1, .inl (cI, 301, .inl S0.1)), (q2, .inl (cI, 301, .inl S0.2.1)), (q3, .inl (cI, 301, .inl S0.2.2.1)), (q4, .inl (cI, 301, .inl S0.2.2.2.1)), (q5, .inl (cI, 301, .inl S0.2.2.2.2.1)), (q6, .inl (cI, 301, .inl S0.2.2.2.2.2.1)), (q7, .inl (cI, 301, .inl S0.2.2.2.2.2.2.1)), (q8, .inl (cI, 300, .inl S0.2.2.2.2.2.2.2.1)), (q9, .inr (2, [.ref q10, .ref q11, .int S1.2.2.1, .int S1.2.2.2.1, .int S1.2.2.2.2])), (q10, .inl (cI, 301, .inl S1.1)), (q11, .inr (0, [.ref q12, .ref q13, .ref q14, .ref q15, .int S1.2.1.2.2.2.2])), (q12, .inl (cZ, 40, .inl S1.2.1.1)), (q13, .inl (cI, 40, .inl S1.2.1.2.1)), (q14, .inl (cI, 40, .inl S1.2.1.2.2.1)), (q15, .inl (cI, 40, .inl S1.2.1.2.2.2.1))] from rfl).trans rfl
def l_P_countFrom_20 (L : cL) (P : cP) (x2 : Int32) : Nat → Int32 → Int32 → Int32
  | 0, _, _ => 0
  | n + 1, x3, x4 => (if x4 < 0 then x3 else (if (m_P_knows P (L.2.2.2.2.2.2.2.1 x4.toNatClampNeg)) = 0 then (if (L.2.2.2.2.2.2.2.1 x4.toNatClampNeg) = x2 then x3 else (l_P_countFrom_20 L P x2 n x3 (x4 + (-1)))) else (if (L.1 (L.2.2.2.2.2.2.2.1 x4.toNatClampNeg).toNatClampNeg) = 4 then (if (L.2.2.2.2.2.2.2.1 x4.toNatClampNeg) = x2 then x3 else (l_P_countFrom_20 L P x2 n x3 (x4 + (-1)))) else (if (L.2.2.2.2.2.2.2.1 x4.toNatClampNeg) = x2 then x3 + 1 else (l_P_countFrom_20 L P x2 n (x3 + 1) (x4 + (-1)))))))
def m_P_countFrom (L : cL) (P : cP) (x2 : Int32) : Int32 := (if (m_P_knows P x2) = 0 then 0 else (l_P_countFrom_20 L P x2 302 0 (L.2.2.2.2.2.2.2.2.1 - 1)))
set_option maxHeartbeats 1000000 in
set_option maxRecDepth 100000 in
theorem c_P_countFrom (l : Launch) (dC : Nat → ClassId) (dI : Nat → Nat → Nat) (cI cZ cQ : ClassId) (u0 : Nat) (u1 : Nat) (u2 : Nat) (u3 : Nat) (u4 : Nat) (u5 : Nat) (u6 : Nat) (u7 : Nat) (u8 : Nat) (L : cL) (p0 : Nat) (p1 : Nat) (h0 : Nat) (a1 : Nat) (a2 : Nat) (a3 : Nat) (a4 : Nat) (P : cP) (x2 : Int32) (hcnt : 0 ≤ L.2.2.2.2.2.2.2.2.1.toInt ∧ L.2.2.2.2.2.2.2.2.1.toInt ≤ 300) (hord : ∀ j, j < 300 → 0 ≤ (L.2.2.2.2.2.2.2.1 j).toInt ∧ (L.2.2.2.2.2.2.2.1 j).toInt < 301) (h2 : 0 ≤ x2.toInt ∧ x2.toInt < 301) : vz_C l (dC, dI) classes [(cI, .int), (cZ, .boolean), (cQ, .object "BinTrees$Person")] y_P_countFrom (Cond.code y_P_countFrom b_P_countFrom 6 (some .int) :: vz_tbl) ({ frames := 1, cells := 0, slots := 0, locals := 21 }) [.ref p0, .ref u0, .int x2] (wL cI cZ u0 u1 u2 u3 u4 u5 u6 u7 u8 L ++ wP cI cZ p0 p1 h0 a1 a2 a3 a4 P) (some (.int (m_P_countFrom L P x2))) (wL cI cZ u0 u1 u2 u3 u4 u5 u6 u7 u8 L ++ wP cI cZ p0 p1 h0 a1 a2 a3 a4 P) := by
  generalize hres : (m_P_countFrom L P x2) = RES
  refine vz_C.of (by decide) (Nat.le_of_ble_eq_true rfl) ?_
  intro p e s m below meth c ls E hl hK hP hD hS
  obtain ⟨hx, hb, hr, hml, hown, hT, hlocks⟩ := E
  obtain ⟨Q, hQ⟩ : ∃ Q, Q = MQ below (vz_Q (dC, dI) classes (wL cI cZ u0 u1 u2 u3 u4 u5 u6 u7 u8 L ++ wP cI cZ p0 p1 h0 a1 a2 a3 a4 P) (some (.int RES)) (wL cI cZ u0 u1 u2 u3 u4 u5 u6 u7 u8 L ++ wP cI cZ p0 p1 h0 a1 a2 a3 a4 P)) ([.ref p0, .ref u0, .int x2] : List Value).toArray s 0 0 (vz_A (wL cI cZ u0 u1 u2 u3 u4 u5 u6 u7 u8 L ++ wP cI cZ p0 p1 h0 a1 a2 a3 a4 P)) := ⟨_, rfl⟩
  rw [← hQ]
  have hl : lv_has ls 6 [(0, .ref p0), (1, .ref u0), (2, .int x2)] := hl
  have T0 := ti_0
  have T1 := ti_1
  have Tm := ti_m1
  have T8 := ti_8
  have T39 := ti_39
  have T40 := ti_40
  have T4 := ti_4
  have T300 := ti_300
  have hd := ti_dec' (x := L.2.2.2.2.2.2.2.2.1) (by omega)
  have k_20 : ∀ (n : Nat) (x3 : Int32) (x4 : Int32), l_P_countFrom_20 L P x2 n x3 x4 = RES → (-1 ≤ x4.toInt ∧ x4.toInt < L.2.2.2.2.2.2.2.2.1.toInt ∧ x4.toInt + 1 < n) → ∀ (H : Heap) (locs : List Loc) (ls : Array Slot), va_P (dC, dI) classes (wL cI cZ u0 u1 u2 u3 u4 u5 u6 u7 u8 L ++ wP cI cZ p0 p1 h0 a1 a2 a3 a4 P) H → va_D (vz_A (wL cI cZ u0 u1 u2 u3 u4 u5 u6 u7 u8 L ++ wP cI cZ p0 p1 h0 a1 a2 a3 a4 P)) (wL cI cZ u0 u1 u2 u3 u4 u5 u6 u7 u8 L ++ wP cI cZ p0 p1 h0 a1 a2 a3 a4 P) → va_S (vz_A (wL cI cZ u0 u1 u2 u3 u4 u5 u6 u7 u8 L ++ wP cI cZ p0 p1 h0 a1 a2 a3 a4 P)) s.heap H locs → lv_has ls 6 [(0, .ref p0), (1, .ref u0), (2, .int x2), (3, .int x3), (4, .int x4)] → W p l e ({ frames := 1, cells := 0, slots := 0, locals := 21 }) s m ([.ref p0, .ref u0, .int x2] : List Value).toArray below meth c H locs 0 0 Q (F0 m 20 ls []) := by
    intro n
    induction n with
    | zero =>
      intro x3 x4 hres i4 H locs ls hP hD hS hl
      exfalso
      omega
    | succ n ih =>
      intro x3 x4 hres i4 H locs ls hP hD hS hl
      refine lv_iload hx hb d_P_countFrom_20 (lv_at hl 4 rfl) ?_
      refine lv_if_lt (tgt := 72) hx hb d_P_countFrom_22 (by decide) (fun c_22 => ?_) (fun c_22 => ?_)
      · have z_22 := Int32.lt_iff_toInt_lt.mp c_22
        refine lv_iload_n hx hb d_P_countFrom_72 rfl (lv_at hl 3 rfl) ?_
        rw [l_P_countFrom_20, if_pos c_22] at hres
        subst hres
        subst hQ
        exact vz_iret hx hb hr hlocks d_P_countFrom_73 hS rfl hP
      · have z_22 := mt Int32.lt_iff_toInt_lt.mpr c_22
        refine lv_aload_n hx hb d_P_countFrom_25 rfl (lv_at hl 1 rfl) ?_
        refine va_get (D := (dC, dI)) (ci := 1) (v := .ref u8) (C := R_L) (T := F_L) (N := 10) hx hb hT i_L hown hK hP 0 rfl rfl 7 (by decide) (hT _ kw_42) (fun _ h9 => h9) rfl d_P_countFrom_26 ?_
        refine lv_iload hx hb d_P_countFrom_29 (lv_at hl 4 rfl) ?_
        refine va_iald hx hb hK hP 8 0 rfl rfl (ti_vp (by omega) (by omega)) d_P_countFrom_31 ?_
        refine lv_istore (lv' := [(5, .int (L.2.2.2.2.2.2.2.1 x4.toNatClampNeg)), (0, .ref p0), (1, .ref u0), (2, .int x2), (3, .int x3), (4, .int x4)]) hx hb d_P_countFrom_32 hl (by decide) rfl (fun ls hl => ?_)
        refine lv_aload_n hx hb d_P_countFrom_34 rfl (lv_at hl 1 rfl) ?_
        refine lv_iload hx hb d_P_countFrom_35 (lv_at hl 0 rfl) ?_
        have hc := c_P_knows l dC dI cI cZ cQ p0 p1 h0 a1 a2 a3 a4 P (L.2.2.2.2.2.2.2.1 x4.toNatClampNeg) (hord _ (ti_ix (x := x4) (n := 300) (by omega) (by omega)))
        generalize hg_37 : (m_P_knows P (L.2.2.2.2.2.2.2.1 x4.toNatClampNeg)) = g_37 at hc
        refine vz_callV (As := [.int (L.2.2.2.2.2.2.2.1 x4.toNatClampNeg)]) (rest := []) ⟨hx, hb, hml, hown, hT⟩ hc (vz_goodV kw_177 kw_178 kw_179 kw_3 kw_180) ⟨rfl, hd_P_knows⟩ ⟨⟨rfl, rfl⟩, Nat.le_of_ble_eq_true rfl, Nat.le_of_ble_eq_true rfl⟩ hK hP hD hS [9, 10, 11, 12, 13, 14, 15] rfl (hC_P_countFrom_37 cI cZ cQ u0 u1 u2 u3 u4 u5 u6 u7 u8 p0 p1 h0 a1 a2 a3 a4 L P) (hF_P_knows cI cZ cQ _ _) 0 2 rfl rfl rfl rfl hl.1 rfl (Nat.le_of_ble_eq_true rfl) ⟨Nat.zero_le _, Nat.zero_le _⟩ d_P_countFrom_37 (fun H locs hP hD hS => ?_)
        have hP : va_P (dC, dI) classes (wL cI cZ u0 u1 u2 u3 u4 u5 u6 u7 u8 L ++ wP cI cZ p0 p1 h0 a1 a2 a3 a4 P) H := vz_reP (hU_P_countFrom_37 cI cZ cQ u0 u1 u2 u3 u4 u5 u6 u7 u8 p0 p1 h0 a1 a2 a3 a4 L P ) hP
        have hD : va_D (vz_A (wL cI cZ u0 u1 u2 u3 u4 u5 u6 u7 u8 L ++ wP cI cZ p0 p1 h0 a1 a2 a3 a4 P)) (wL cI cZ u0 u1 u2 u3 u4 u5 u6 u7 u8 L ++ wP cI cZ p0 p1 h0 a1 a2 a3 a4 P) := vz_reD (hU_P_countFrom_37 cI cZ cQ u0 u1 u2 u3 u4 u5 u6 u7 u8 p0 p1 h0 a1 a2 a3 a4 L P ) hD
        refine W.eq (g2 := F0 m 40 ls [.int g_37]) rfl ?_
        refine lv_if_eq (tgt := 57) hx hb d_P_countFrom_40 (by decide) (fun c_40 => ?_) (fun c_40 => ?_)
        · have z_40 := congrArg Int32.toInt c_40
          refine lv_iload hx hb d_P_countFrom_57 (lv_at hl 0 rfl) ?_
          refine lv_iload_n hx hb d_P_countFrom_59 rfl (lv_at hl 3 rfl) ?_
          refine lv_icmp_ne (tgt := 66) hx hb d_P_countFrom_60 (by decide) (fun c_60 => ?_) (fun c_60 => ?_)
          · have z_60 := mt Int32.toInt_inj.mp c_60
            refine lv_iinc (v := x4 + (-1)) (lv' := [(4, .int (x4 + (-1))), (5, .int (L.2.2.2.2.2.2.2.1 x4.toNatClampNeg)), (0, .ref p0), (1, .ref u0), (2, .int x2), (3, .int x3)]) hx hb d_P_countFrom_66 hl (k := 5) rfl rfl (by decide) rfl (fun ls hl => ?_)
            refine lv_goto (tgt := 20) hx hb d_P_countFrom_69 (by decide) ?_
            rw [l_P_countFrom_20, if_neg c_22] at hres
            try rw [hg_37] at hres
            rw [if_pos c_40, if_neg c_60] at hres
            exact ih x3 (x4 + (-1))  hres (by rw [ti_dec (by omega)]; omega) H locs ls hP hD hS (lv_sub hl [2, 3, 4, 5, 0] rfl)
          · have z_60 := congrArg Int32.toInt c_60
            refine lv_goto (tgt := 72) hx hb d_P_countFrom_63 (by decide) ?_
            refine lv_iload_n hx hb d_P_countFrom_72 rfl (lv_at hl 4 rfl) ?_
            rw [l_P_countFrom_20, if_neg c_22] at hres
            try rw [hg_37] at hres
            rw [if_pos c_40, if_pos c_60] at hres
            subst hres
            subst hQ
            exact vz_iret hx hb hr hlocks d_P_countFrom_73 hS rfl hP
        · have z_40 := mt Int32.toInt_inj.mp c_40
          refine lv_aload_n hx hb d_P_countFrom_43 rfl (lv_at hl 2 rfl) ?_
          refine va_get (D := (dC, dI)) (ci := 1) (v := .ref u1) (C := R_L) (T := F_L) (N := 10) hx hb hT i_L hown hK hP 0 rfl rfl 0 (by decide) (hT _ kw_23) (fun _ h9 => h9) rfl d_P_countFrom_44 ?_
          refine lv_iload hx hb d_P_countFrom_47 (lv_at hl 0 rfl) ?_
          refine va_iald hx hb hK hP 1 0 rfl rfl (by have hz := hord _ (ti_ix (x := x4) (n := 300) (by omega) (by omega)); exact ti_vp (by omega) (by omega)) d_P_countFrom_49 ?_
          refine lv_iconst (v := 4) hx hb d_P_countFrom_50 (by decide) ?_
          refine lv_icmp_eq (tgt := 57) hx hb d_P_countFrom_51 (by decide) (fun c_51 => ?_) (fun c_51 => ?_)
          · have z_51 := congrArg Int32.toInt c_51
            refine lv_iload hx hb d_P_countFrom_57 (lv_at hl 0 rfl) ?_
            refine lv_iload_n hx hb d_P_countFrom_59 rfl (lv_at hl 3 rfl) ?_
            refine lv_icmp_ne (tgt := 66) hx hb d_P_countFrom_60 (by decide) (fun c_60 => ?_) (fun c_60 => ?_)
            · have z_60 := mt Int32.toInt_inj.mp c_60
              refine lv_iinc (v := x4 + (-1)) (lv' := [(4, .int (x4 + (-1))), (5, .int (L.2.2.2.2.2.2.2.1 x4.toNatClampNeg)), (0, .ref p0), (1, .ref u0), (2, .int x2), (3, .int x3)]) hx hb d_P_countFrom_66 hl (k := 5) rfl rfl (by decide) rfl (fun ls hl => ?_)
              refine lv_goto (tgt := 20) hx hb d_P_countFrom_69 (by decide) ?_
              rw [l_P_countFrom_20, if_neg c_22] at hres
              try rw [hg_37] at hres
              rw [if_neg c_40, if_pos c_51, if_neg c_60] at hres
              exact ih x3 (x4 + (-1))  hres (by rw [ti_dec (by omega)]; omega) H locs ls hP hD hS (lv_sub hl [2, 3, 4, 5, 0] rfl)
            · have z_60 := congrArg Int32.toInt c_60
              refine lv_goto (tgt := 72) hx hb d_P_countFrom_63 (by decide) ?_
              refine lv_iload_n hx hb d_P_countFrom_72 rfl (lv_at hl 4 rfl) ?_
              rw [l_P_countFrom_20, if_neg c_22] at hres
              try rw [hg_37] at hres
              rw [if_neg c_40, if_pos c_51, if_pos c_60] at hres
              subst hres
              subst hQ
              exact vz_iret hx hb hr hlocks d_P_countFrom_73 hS rfl hP
          · have z_51 := mt Int32.toInt_inj.mp c_51
            refine lv_iinc (v := x3 + 1) (lv' := [(3, .int (x3 + 1)), (5, .int (L.2.2.2.2.2.2.2.1 x4.toNatClampNeg)), (0, .ref p0), (1, .ref u0), (2, .int x2), (4, .int x4)]) hx hb d_P_countFrom_54 hl (k := 4) rfl rfl (by decide) rfl (fun ls hl => ?_)
            refine lv_iload hx hb d_P_countFrom_57 (lv_at hl 1 rfl) ?_
            refine lv_iload_n hx hb d_P_countFrom_59 rfl (lv_at hl 4 rfl) ?_
            refine lv_icmp_ne (tgt := 66) hx hb d_P_countFrom_60 (by decide) (fun c_60 => ?_) (fun c_60 => ?_)
            · have z_60 := mt Int32.toInt_inj.mp c_60
              refine lv_iinc (v := x4 + (-1)) (lv' := [(4, .int (x4 + (-1))), (3, .int (x3 + 1)), (5, .int (L.2.2.2.2.2.2.2.1 x4.toNatClampNeg)), (0, .ref p0), (1, .ref u0), (2, .int x2)]) hx hb d_P_countFrom_66 hl (k := 5) rfl rfl (by decide) rfl (fun ls hl => ?_)
              refine lv_goto (tgt := 20) hx hb d_P_countFrom_69 (by decide) ?_
              rw [l_P_countFrom_20, if_neg c_22] at hres
              try rw [hg_37] at hres
              rw [if_neg c_40, if_neg c_51, if_neg c_60] at hres
              exact ih (x3 + 1) (x4 + (-1))  hres (by rw [ti_dec (by omega)]; omega) H locs ls hP hD hS (lv_sub hl [3, 4, 5, 1, 0] rfl)
            · have z_60 := congrArg Int32.toInt c_60
              refine lv_goto (tgt := 72) hx hb d_P_countFrom_63 (by decide) ?_
              refine lv_iload_n hx hb d_P_countFrom_72 rfl (lv_at hl 0 rfl) ?_
              rw [l_P_countFrom_20, if_neg c_22] at hres
              try rw [hg_37] at hres
              rw [if_neg c_40, if_neg c_51, if_pos c_60] at hres
              subst hres
              subst hQ
              exact vz_iret hx hb hr hlocks d_P_countFrom_73 hS rfl hP
  have hS0 := hS
  refine lv_aload_n hx hb d_P_countFrom_0 rfl (lv_at hl 0 rfl) ?_
  refine lv_iload_n hx hb d_P_countFrom_1 rfl (lv_at hl 2 rfl) ?_
  have hc := c_P_knows l dC dI cI cZ cQ p0 p1 h0 a1 a2 a3 a4 P x2 (h2)
  generalize hg_2 : (m_P_knows P x2) = g_2 at hc
  refine vz_callV (As := [.int x2]) (rest := []) ⟨hx, hb, hml, hown, hT⟩ hc (vz_goodV kw_177 kw_178 kw_179 kw_3 kw_180) ⟨rfl, hd_P_knows⟩ ⟨⟨rfl, rfl⟩, Nat.le_of_ble_eq_true rfl, Nat.le_of_ble_eq_true rfl⟩ hK hP hD hS [9, 10, 11, 12, 13, 14, 15] rfl (hC_P_countFrom_2 cI cZ cQ u0 u1 u2 u3 u4 u5 u6 u7 u8 p0 p1 h0 a1 a2 a3 a4 L P) (hF_P_knows cI cZ cQ _ _) 0 2 rfl rfl rfl rfl hl.1 rfl (Nat.le_of_ble_eq_true rfl) ⟨Nat.zero_le _, Nat.zero_le _⟩ d_P_countFrom_2 (fun H locs hP hD hS => ?_)
  have hP : va_P (dC, dI) classes (wL cI cZ u0 u1 u2 u3 u4 u5 u6 u7 u8 L ++ wP cI cZ p0 p1 h0 a1 a2 a3 a4 P) H := vz_reP (hU_P_countFrom_2 cI cZ cQ u0 u1 u2 u3 u4 u5 u6 u7 u8 p0 p1 h0 a1 a2 a3 a4 L P ) hP
  have hD : va_D (vz_A (wL cI cZ u0 u1 u2 u3 u4 u5 u6 u7 u8 L ++ wP cI cZ p0 p1 h0 a1 a2 a3 a4 P)) (wL cI cZ u0 u1 u2 u3 u4 u5 u6 u7 u8 L ++ wP cI cZ p0 p1 h0 a1 a2 a3 a4 P) := vz_reD (hU_P_countFrom_2 cI cZ cQ u0 u1 u2 u3 u4 u5 u6 u7 u8 p0 p1 h0 a1 a2 a3 a4 L P ) hD
  refine W.eq (g2 := F0 m 5 ls [.int g_2]) rfl ?_
  refine lv_if_ne (tgt := 10) hx hb d_P_countFrom_5 (by decide) (fun c_5 => ?_) (fun c_5 => ?_)
  · have z_5 := mt Int32.toInt_inj.mp c_5
    refine lv_iconst (v := 0) hx hb d_P_countFrom_10 (by decide) ?_
    refine lv_istore_n (lv' := [(3, .int 0), (0, .ref p0), (1, .ref u0), (2, .int x2)]) hx hb d_P_countFrom_11 rfl hl (by decide) rfl (fun ls hl => ?_)
    refine lv_aload_n hx hb d_P_countFrom_12 rfl (lv_at hl 2 rfl) ?_
    refine va_get (D := (dC, dI)) (ci := 1) (v := .int L.2.2.2.2.2.2.2.2.1) (C := R_L) (T := F_L) (N := 10) hx hb hT i_L hown hK hP 0 rfl rfl 8 (by decide) (hT _ kw_45) (fun _ h9 => h9) rfl d_P_countFrom_13 ?_
    refine lv_iconst (v := 1) hx hb d_P_countFrom_16 (by decide) ?_
    refine lv_isub hx hb d_P_countFrom_17 ?_
    refine lv_istore (lv' := [(4, .int (L.2.2.2.2.2.2.2.2.1 - 1)), (3, .int 0), (0, .ref p0), (1, .ref u0), (2, .int x2)]) hx hb d_P_countFrom_18 hl (by decide) rfl (fun ls hl => ?_)
    rw [m_P_countFrom] at hres
    try rw [hg_2] at hres
    rw [if_neg c_5] at hres
    exact k_20 302 0 (L.2.2.2.2.2.2.2.2.1 - 1)  hres (by omega) _ _ ls hP hD hS (lv_sub hl [2, 3, 4, 1, 0] rfl)
  · have z_5 := congrArg Int32.toInt c_5
    refine lv_iconst (v := 0) hx hb d_P_countFrom_8 (by decide) ?_
    rw [m_P_countFrom] at hres
    try rw [hg_2] at hres
    rw [if_pos c_5] at hres
    subst hres
    subst hQ
    exact vz_iret hx hb hr hlocks d_P_countFrom_9 hS rfl hP
end
section
theorem d_P_learn_0 : decode b_P_learn 0 = .ok (.aload_n 0, 1) := by decide +kernel
theorem d_P_learn_1 : decode b_P_learn 1 = .ok (.getfield 9, 3) := by decide +kernel
theorem d_P_learn_4 : decode b_P_learn 4 = .ok (.iload_n 2, 1) := by decide +kernel
theorem d_P_learn_5 : decode b_P_learn 5 = .ok (.iconst 1, 1) := by decide +kernel
theorem d_P_learn_6 : decode b_P_learn 6 = .ok (.iastore, 1) := by decide +kernel
theorem d_P_learn_7 : decode b_P_learn 7 = .ok (.aload_n 0, 1) := by decide +kernel
theorem d_P_learn_8 : decode b_P_learn 8 = .ok (.dup, 1) := by decide +kernel
theorem d_P_learn_9 : decode b_P_learn 9 = .ok (.getfield 22, 3) := by decide +kernel
theorem d_P_learn_12 : decode b_P_learn 12 = .ok (.iconst 1, 1) := by decide +kernel
theorem d_P_learn_13 : decode b_P_learn 13 = .ok (.iadd, 1) := by decide +kernel
theorem d_P_learn_14 : decode b_P_learn 14 = .ok (.putfield 22, 3) := by decide +kernel
theorem d_P_learn_17 : decode b_P_learn 17 = .ok (.aload_n 0, 1) := by decide +kernel
theorem d_P_learn_18 : decode b_P_learn 18 = .ok (.aload_n 0, 1) := by decide +kernel
theorem d_P_learn_19 : decode b_P_learn 19 = .ok (.getfield 26, 3) := by decide +kernel
theorem d_P_learn_22 : decode b_P_learn 22 = .ok (.aload_n 1, 1) := by decide +kernel
theorem d_P_learn_23 : decode b_P_learn 23 = .ok (.getfield 29, 3) := by decide +kernel
theorem d_P_learn_26 : decode b_P_learn 26 = .ok (.iload_n 2, 1) := by decide +kernel
theorem d_P_learn_27 : decode b_P_learn 27 = .ok (.iaload, 1) := by decide +kernel
theorem d_P_learn_28 : decode b_P_learn 28 = .ok (.invokestatic 33, 3) := by decide +kernel
theorem d_P_learn_31 : decode b_P_learn 31 = .ok (.putfield 26, 3) := by decide +kernel
theorem d_P_learn_34 : decode b_P_learn 34 = .ok (.aload_n 0, 1) := by decide +kernel
theorem d_P_learn_35 : decode b_P_learn 35 = .ok (.aload_n 0, 1) := by decide +kernel
theorem d_P_learn_36 : decode b_P_learn 36 = .ok (.aload_n 1, 1) := by decide +kernel
theorem d_P_learn_37 : decode b_P_learn 37 = .ok (.aload_n 1, 1) := by decide +kernel
theorem d_P_learn_38 : decode b_P_learn 38 = .ok (.getfield 39, 3) := by decide +kernel
theorem d_P_learn_41 : decode b_P_learn 41 = .ok (.iload_n 2, 1) := by decide +kernel
theorem d_P_learn_42 : decode b_P_learn 42 = .ok (.iaload, 1) := by decide +kernel
theorem d_P_learn_43 : decode b_P_learn 43 = .ok (.iconst 4, 1) := by decide +kernel
theorem d_P_learn_44 : decode b_P_learn 44 = .ok (.if_icmp .ne 12, 3) := by decide +kernel
theorem d_P_learn_47 : decode b_P_learn 47 = .ok (.aload_n 1, 1) := by decide +kernel
theorem d_P_learn_48 : decode b_P_learn 48 = .ok (.getfield 42, 3) := by decide +kernel
theorem d_P_learn_51 : decode b_P_learn 51 = .ok (.iload_n 2, 1) := by decide +kernel
theorem d_P_learn_52 : decode b_P_learn 52 = .ok (.iaload, 1) := by decide +kernel
theorem d_P_learn_53 : decode b_P_learn 53 = .ok (.goto 4, 3) := by decide +kernel
theorem d_P_learn_56 : decode b_P_learn 56 = .ok (.iload_n 2, 1) := by decide +kernel
theorem d_P_learn_57 : decode b_P_learn 57 = .ok (.invokevirtual 45, 3) := by decide +kernel
theorem d_P_learn_60 : decode b_P_learn 60 = .ok (.putfield 49, 3) := by decide +kernel
theorem d_P_learn_63 : decode b_P_learn 63 = .ok (.return_, 1) := by decide +kernel
theorem hW_P_learn_6 (cI cZ cQ : ClassId) (q0 q1 q2 q3 q4 q5 q6 q7 q8 q9 q10 q11 q12 q13 q14 q15 : Nat) (S0 : cL) (S1 : cP) (v : cA) : (wL cI cZ q0 q1 q2 q3 q4 q5 q6 q7 q8 S0 ++ wP cI cZ q9 q10 q11 q12 q13 q14 q15 S1 : va_W).set 10 (q10, .inl (cI, 301, .inl v)) = wL cI cZ q0 q1 q2 q3 q4 q5 q6 q7 q8 S0 ++ wP cI cZ q9 q10 q11 q12 q13 q14 q15 (v, S1.2.1, S1.2.2.1, S1.2.2.2.1, S1.2.2.2.2) := rfl
theorem hW_P_learn_14 (cI cZ cQ : ClassId) (q0 q1 q2 q3 q4 q5 q6 q7 q8 q9 q10 q11 q12 q13 q14 q15 : Nat) (S0 : cL) (S1 : cP) (v : Int32) : (wL cI cZ q0 q1 q2 q3 q4 q5 q6 q7 q8 S0 ++ wP cI cZ q9 q10 q11 q12 q13 q14 q15 S1 : va_W).set 9 (q9, .inr (2, [.ref q10, .ref q11, .int S1.2.2.1, .int S1.2.2.2.1, .int S1.2.2.2.2].set 2 (.int v))) = wL cI cZ q0 q1 q2 q3 q4 q5 q6 q7 q8 S0 ++ wP cI cZ q9 q10 q11 q12 q13 q14 q15 (S1.1, S1.2.1, v, S1.2.2.2.1, S1.2.2.2.2) := rfl
theorem hW_P_learn_31 (cI cZ cQ : ClassId) (q0 q1 q2 q3 q4 q5 q6 q7 q8 q9 q10 q11 q12 q13 q14 q15 : Nat) (S0 : cL) (S1 : cP) (v : Int32) : (wL cI cZ q0 q1 q2 q3 q4 q5 q6 q7 q8 S0 ++ wP cI cZ q9 q10 q11 q12 q13 q14 q15 S1 : va_W).set 9 (q9, .inr (2, [.ref q10, .ref q11, .int S1.2.2.1, .int S1.2.2.2.1, .int S1.2.2.2.2].set 3 (.int v))) = wL cI cZ q0 q1 q2 q3 q4 q5 q6 q7 q8 S0 ++ wP cI cZ q9 q10 q11 q12 q13 q14 q15 (S1.1, S1.2.1, S1.2.2.1, v, S1.2.2.2.2) := rfl
theorem hC_P_learn_57 (cI cZ cQ : ClassId) (q0 q1 q2 q3 q4 q5 q6 q7 q8 q9 q10 q11 q12 q13 q14 q15 : Nat) (S0 : cL) (S1 : cP) : ([0, 1, 2, 3, 4, 5, 6, 7, 8, 9, 10, 11, 12, 13, 14, 15] : List Nat).map (fun i => (wL cI cZ q0 q1 q2 q3 q4 q5 q6 q7 q8 S0 ++ wP cI cZ q9 q10 q11 q12 q13 q14 q15 S1 : va_W)[i]?) = (wL cI cZ q0 q1 q2 q3 q4 q5 q6 q7 q8 S0 ++ wP cI cZ q9 q10 q11 q12 q13 q14 q15 S1 : va_W).map some := rfl
theorem hF_P_countFrom (cI cZ cQ : ClassId) {u0 u1 u2 u3 u4 u5 u6 u7 u8 p0 p1 h0 a1 a2 a3 a4 : Nat} (S0 R0 : cL) (S1 R1 : cP) : (wL cI cZ u0 u1 u2 u3 u4 u5 u6 u7 u8 R0 ++ wP cI cZ p0 p1 h0 a1 a2 a3 a4 R1 : va_W).map Prod.fst = (wL cI cZ u0 u1 u2 u3 u4 u5 u6 u7 u8 S0 ++ wP cI cZ p0 p1 h0 a1 a2 a3 a4 S1 : va_W).map Prod.fst := rfl
theorem hU_P_learn_57 (cI cZ cQ : ClassId) (q0 q1 q2 q3 q4 q5 q6 q7 q8 q9 q10 q11 q12 q13 q14 q15 : Nat) (S0 : cL) (S1 : cP)  : vz_put (wL cI cZ q0 q1 q2 q3 q4 q5 q6 q7 q8 S0 ++ wP cI cZ q9 q10 q11 q12 q13 q14 q15 S1 : va_W) [0, 1, 2, 3, 4, 5, 6, 7, 8, 9, 10, 11, 12, 13, 14, 15] (wL cI cZ q0 q1 q2 q3 q4 q5 q6 q7 q8 S0 ++ wP cI cZ q9 q10 q11 q12 q13 q14 q15 S1 : va_W) = wL cI cZ q0 q1 q2 q3 q4 q5 q6 q7 q8 S0 ++ wP cI cZ q9 q10 q11 q12 q13 q14 q15 S1 := (show vz_put ([(q0, .inr (1, [.ref q1, .ref q2, .ref q3, .ref q4, .ref q5, .ref q6, .ref q7, .ref q8, .int S0.2.2.2.2.2.2.2.2.1, .int S0.2.2.2.2.2.2.2.2.2])), (q1, .inl (cI, 301, .inl S0.1)), (q2, .inl (cI, 301, .inl S0.2.1)), (q3, .inl (cI, 301, .inl S0.2.2.1)), (q4, .inl (cI, 301, .inl S0.2.2.2.1)), (q5, .inl (cI, 301, .inl S0.2.2.2.2.1)), (q6, .inl (cI, 301, .inl S0.2.2.2.2.2.1)), (q7, .inl (cI, 301, .inl S0.2.2.2.2.2.2.1)), (q8, .inl (cI, 300, .inl S0.2.2.2.2.2.2.2.1)), (q9, .inr (2, [.ref q10, .ref q11, .int S1.2.2.1, .int S1.2.2.2.1, .int S1.2.2.2.2])), (q10, .inl (cI, 301, .inl S1.1)), (q11, .inr (0, [.ref q12, .ref q13, .ref q14, .ref q15, .int S1.2.1.2.2.2.2])), (q12, .inl (cZ, 40, .inl S1.2.1.1)), (q13, .inl (cI, 40, .inl S1.2.1.2.1)), (q14, .inl (cI, 40, .inl S1.2.1.2.2.1)), (q15, .inl (cI, 40, .inl S1.2.1.2.2.2.1))] : va_W) [0, 1, 2, 3, 4, 5, 6, 7, 8, 9, 10, 11, 12, 13, 14, 15] ([(q0, .inr (1, [.ref q1, .ref q2, .ref q3, .ref q4, .ref q5, .ref q6, .ref q7, .ref q8, .int S0.2.2.2.2.2.2.2.2.1, .int S0.2.2.2.2.2.2.2.2.2])), (q1, .inl (cI, 301, .inl S0.1)), (q2, .inl (cI, 301, .inl S0.2.1)), (q3, .inl (cI, 301, .inl S0.2.2.1)), (q4, .inl (cI, 301, .inl S0.2.2.2.1)), (q5, .inl (cI, 301, .inl S0.2.2.2.2.1)), (q6, .inl (cI, 301, .inl S0.2.2.2.2.2.1)), (q7, .inl (cI, 301, .inl S0.2.2.2.2.2.2.1)), (q8, .inl (cI, 300, .inl S0.2.2.2.2.2.2.2.1)), (q9, .inr (2, [.ref q10, .ref q11, .int S1.2.2.1, .int S1.2.2.2.1, .int S1.2.2.2.2])), (q10, .inl (cI, 301, .inl S1.1)), (q11, .inr (0, [.ref q12, .ref q13, .ref q14, .ref q15, .int S1.2.1.2.2.2.2])), (q12, .inl (cZ, 40, .inl S1.2.1.1)), (q13, .inl (cI, 40, .inl S1.2.1.2.1)), (q14, .inl (cI, 40, .inl S1.2.1.2.2.1)), (q15, .inl (cI, 40, .inl S1.2.1.2.2.2.1))] : va_W) = [(q0, .inr (1, [.ref q1, .ref q2, .ref q3, .ref q4, .ref q5, .ref q6, .ref q7, .ref q8, .int S0.2.2.2.2.2.2.2.2.1, .int S0.2.2.2.2.2.2.2.2.2])), (q1, .inl (cI, 301, .inl S0.1)), (q2, .inl (cI, 301, .inl S0.2.1)), (q3, .inl (cI, 301, .inl S0.2.2.1)), (q4, .inl (cI, 301, .inl S0.2.2.2.1)), (q5, .inl (cI, 301, .inl S0.2.2.2.2.1)), (q6, .inl (cI, 301, .inl S0.2.2.2.2.2.1)), (q7, .inl (cI, 301, .inl S0.2.2.2.2.2.2.1)), (q8, .inl (cI, 300, .inl S0.2.2.2.2.2.2.2.1)), (q9, .inr (2, [.ref q10, .ref q11, .int S1.2.2.1, .int S1.2.2.2.1, .int S1.2.2.2.2])), (q10, .inl (cI, 301, .inl S1.1)), (q11, .inr (0, [.ref q12, .ref q13, .ref q14, .ref q15, .int S1.2.1.2.2.2.2])), (q12, .inl (cZ, 40, .inl S1.2.1.1)), (q13, .inl (cI, 40, .inl S1.2.1.2.1)), (q14, .inl (cI, 40, .inl S1.2.1.2.2.1)), (q15, .inl (cI, 40, .inl S1.2.1.2.2.2.1))] from rfl).trans rfl
theorem hW_P_learn_60 (cI cZ cQ : ClassId) (q0 q1 q2 q3 q4 q5 q6 q7 q8 q9 q10 q11 q12 q13 q14 q15 : Nat) (S0 : cL) (S1 : cP) (v : Int32) : (wL cI cZ q0 q1 q2 q3 q4 q5 q6 q7 q8 S0 ++ wP cI cZ q9 q10 q11 q12 q13 q14 q15 S1 : va_W).set 9 (q9, .inr (2, [.ref q10, .ref q11, .int S1.2.2.1, .int S1.2.2.2.1, .int S1.2.2.2.2].set 4 (.int v))) = wL cI cZ q0 q1 q2 q3 q4 q5 q6 q7 q8 S0 ++ wP cI cZ q9 q10 q11 q12 q13 q14 q15 (S1.1, S1.2.1, S1.2.2.1, S1.2.2.2.1, v) := rfl
def m_P_learn (L : cL) (P : cP) (x2 : Int32) : cP := (if (L.1 x2.toNatClampNeg) = 4 then (upd P.1 x2.toNatClampNeg 1, P.2.1, P.2.2.1 + 1, if P.2.2.2.1 < (L.2.2.1 x2.toNatClampNeg) then (L.2.2.1 x2.toNatClampNeg) else P.2.2.2.1, (m_P_countFrom L (upd P.1 x2.toNatClampNeg 1, P.2.1, P.2.2.1 + 1, if P.2.2.2.1 < (L.2.2.1 x2.toNatClampNeg) then (L.2.2.1 x2.toNatClampNeg) else P.2.2.2.1, P.2.2.2.2) (L.2.2.2.1 x2.toNatClampNeg))) else (upd P.1 x2.toNatClampNeg 1, P.2.1, P.2.2.1 + 1, if P.2.2.2.1 < (L.2.2.1 x2.toNatClampNeg) then (L.2.2.1 x2.toNatClampNeg) else P.2.2.2.1, (m_P_countFrom L (upd P.1 x2.toNatClampNeg 1, P.2.1, P.2.2.1 + 1, if P.2.2.2.1 < (L.2.2.1 x2.toNatClampNeg) then (L.2.2.1 x2.toNatClampNeg) else P.2.2.2.1, P.2.2.2.2) x2)))
set_option maxHeartbeats 1000000 in
set_option maxRecDepth 100000 in
theorem c_P_learn (l : Launch) (dC : Nat → ClassId) (dI : Nat → Nat → Nat) (cI cZ cQ : ClassId) (u0 : Nat) (u1 : Nat) (u2 : Nat) (u3 : Nat) (u4 : Nat) (u5 : Nat) (u6 : Nat) (u7 : Nat) (u8 : Nat) (L : cL) (p0 : Nat) (p1 : Nat) (h0 : Nat) (a1 : Nat) (a2 : Nat) (a3 : Nat) (a4 : Nat) (P : cP) (x2 : Int32) (hcnt : 0 ≤ L.2.2.2.2.2.2.2.2.1.toInt ∧ L.2.2.2.2.2.2.2.2.1.toInt ≤ 300) (hord : ∀ j, j < 300 → 0 ≤ (L.2.2.2.2.2.2.2.1 j).toInt ∧ (L.2.2.2.2.2.2.2.1 j).toInt < 301) (h2 : 0 ≤ x2.toInt ∧ x2.toInt < 301) (hsub : L.1 x2.toNatClampNeg = 4 → 0 ≤ (L.2.2.2.1 x2.toNatClampNeg).toInt ∧ (L.2.2.2.1 x2.toNatClampNeg).toInt < 301) : vz_C l (dC, dI) classes [(cI, .int), (cZ, .boolean), (cQ, .object "BinTrees$Person")] y_P_learn (Cond.code y_P_learn b_P_learn 3 none :: vz_tbl) ({ frames := 2, cells := 0, slots := 0, locals := 46 }) [.ref p0, .ref u0, .int x2] (wL cI cZ u0 u1 u2 u3 u4 u5 u6 u7 u8 L ++ wP cI cZ p0 p1 h0 a1 a2 a3 a4 P) (none) (wL cI cZ u0 u1 u2 u3 u4 u5 u6 u7 u8 L ++ wP cI cZ p0 p1 h0 a1 a2 a3 a4 (m_P_learn L P x2)) := by
  generalize hres : (m_P_learn L P x2) = RES
  refine vz_C.of (by decide) (Nat.le_of_ble_eq_true rfl) ?_
  intro p e s m below meth c ls E hl hK hP hD hS
  obtain ⟨hx, hb, hr, hml, hown, hT, hlocks⟩ := E
  obtain ⟨Q, hQ⟩ : ∃ Q, Q = MQ below (vz_Q (dC, dI) classes (wL cI cZ u0 u1 u2 u3 u4 u5 u6 u7 u8 L ++ wP cI cZ p0 p1 h0 a1 a2 a3 a4 P) (none) (wL cI cZ u0 u1 u2 u3 u4 u5 u6 u7 u8 L ++ wP cI cZ p0 p1 h0 a1 a2 a3 a4 RES)) ([.ref p0, .ref u0, .int x2] : List Value).toArray s 0 0 (vz_A (wL cI cZ u0 u1 u2 u3 u4 u5 u6 u7 u8 L ++ wP cI cZ p0 p1 h0 a1 a2 a3 a4 P)) := ⟨_, rfl⟩
  rw [← hQ]
  have hl : lv_has ls 3 [(0, .ref p0), (1, .ref u0), (2, .int x2)] := hl
  have T0 := ti_0
  have T1 := ti_1
  have Tm := ti_m1
  have T8 := ti_8
  have T39 := ti_39
  have T40 := ti_40
  have T4 := ti_4
  have T300 := ti_300
  have hS0 := hS
  refine lv_aload_n hx hb d_P_learn_0 rfl (lv_at hl 0 rfl) ?_
  refine va_get (D := (dC, dI)) (ci := 2) (v := .ref p1) (C := R_P) (T := F_P) (N := 5) hx hb hT i_P hown hK hP 9 rfl rfl 0 (by decide) (hT _ kw_111) (fun _ h9 => h9) rfl d_P_learn_1 ?_
  refine lv_iload_n hx hb d_P_learn_4 rfl (lv_at hl 2 rfl) ?_
  refine lv_iconst (v := 1) hx hb d_P_learn_5 (by decide) ?_
  refine va_iast hx hb hK hP hD hS 10 0 rfl rfl (ti_vp (by omega) (by omega)) d_P_learn_6 (fun H locs hP hD hS => ?_)
  have hP : va_P (dC, dI) classes (wL cI cZ u0 u1 u2 u3 u4 u5 u6 u7 u8 L ++ wP cI cZ p0 p1 h0 a1 a2 a3 a4 (upd P.1 x2.toNatClampNeg 1, P.2.1, P.2.2.1, P.2.2.2.1, P.2.2.2.2)) H := vz_reP (hW_P_learn_6 cI cZ cQ u0 u1 u2 u3 u4 u5 u6 u7 u8 p0 p1 h0 a1 a2 a3 a4 L P (upd P.1 x2.toNatClampNeg 1)) hP
  have hD : va_D (vz_A (wL cI cZ u0 u1 u2 u3 u4 u5 u6 u7 u8 L ++ wP cI cZ p0 p1 h0 a1 a2 a3 a4 P)) (wL cI cZ u0 u1 u2 u3 u4 u5 u6 u7 u8 L ++ wP cI cZ p0 p1 h0 a1 a2 a3 a4 (upd P.1 x2.toNatClampNeg 1, P.2.1, P.2.2.1, P.2.2.2.1, P.2.2.2.2)) := vz_reD (hW_P_learn_6 cI cZ cQ u0 u1 u2 u3 u4 u5 u6 u7 u8 p0 p1 h0 a1 a2 a3 a4 L P (upd P.1 x2.toNatClampNeg 1)) hD
  refine lv_aload_n hx hb d_P_learn_7 rfl (lv_at hl 0 rfl) ?_
  refine lv_dup hx hb d_P_learn_8 rfl ?_
  refine va_get (D := (dC, dI)) (ci := 2) (v := .int P.2.2.1) (C := R_P) (T := F_P) (N := 5) hx hb hT i_P hown hK hP 9 rfl rfl 2 (by decide) (hT _ kw_115) (fun _ h9 => h9) rfl d_P_learn_9 ?_
  refine lv_iconst (v := 1) hx hb d_P_learn_12 (by decide) ?_
  refine lv_iadd hx hb d_P_learn_13 ?_
  refine va_put (D := (dC, dI)) (ci := 2) (v := .int (P.2.2.1 + 1)) (ty := .int) (C := R_P) (T := F_P) (N := 5) hx hb hT i_P tt_P tt_P_ok n_P hown hK hP hD hS 9 rfl rfl 2 (by decide) (hT _ kw_115) (fun _ h9 => h9) rfl (by decide +kernel) rfl rfl (Nat.le_of_ble_eq_true rfl) d_P_learn_14 (fun H locs hP hD hS => ?_)
  have hP : va_P (dC, dI) classes (wL cI cZ u0 u1 u2 u3 u4 u5 u6 u7 u8 L ++ wP cI cZ p0 p1 h0 a1 a2 a3 a4 (upd P.1 x2.toNatClampNeg 1, P.2.1, P.2.2.1 + 1, P.2.2.2.1, P.2.2.2.2)) H := vz_reP (hW_P_learn_14 cI cZ cQ u0 u1 u2 u3 u4 u5 u6 u7 u8 p0 p1 h0 a1 a2 a3 a4 L (upd P.1 x2.toNatClampNeg 1, P.2.1, P.2.2.1, P.2.2.2.1, P.2.2.2.2) (P.2.2.1 + 1)) hP
  have hD : va_D (vz_A (wL cI cZ u0 u1 u2 u3 u4 u5 u6 u7 u8 L ++ wP cI cZ p0 p1 h0 a1 a2 a3 a4 P)) (wL cI cZ u0 u1 u2 u3 u4 u5 u6 u7 u8 L ++ wP cI cZ p0 p1 h0 a1 a2 a3 a4 (upd P.1 x2.toNatClampNeg 1, P.2.1, P.2.2.1 + 1, P.2.2.2.1, P.2.2.2.2)) := vz_reD (hW_P_learn_14 cI cZ cQ u0 u1 u2 u3 u4 u5 u6 u7 u8 p0 p1 h0 a1 a2 a3 a4 L (upd P.1 x2.toNatClampNeg 1, P.2.1, P.2.2.1, P.2.2.2.1, P.2.2.2.2) (P.2.2.1 + 1)) hD
  refine lv_aload_n hx hb d_P_learn_17 rfl (lv_at hl 0 rfl) ?_
  refine lv_aload_n hx hb d_P_learn_18 rfl (lv_at hl 0 rfl) ?_
  refine va_get (D := (dC, dI)) (ci := 2) (v := .int P.2.2.2.1) (C := R_P) (T := F_P) (N := 5) hx hb hT i_P hown hK hP 9 rfl rfl 3 (by decide) (hT _ kw_118) (fun _ h9 => h9) rfl d_P_learn_19 ?_
  refine lv_aload_n hx hb d_P_learn_22 rfl (lv_at hl 1 rfl) ?_
  refine va_get (D := (dC, dI)) (ci := 1) (v := .ref u3) (C := R_L) (T := F_L) (N := 10) hx hb hT i_L hown hK hP 0 rfl rfl 2 (by decide) (hT _ kw_28) (fun _ h9 => h9) rfl d_P_learn_23 ?_
  refine lv_iload_n hx hb d_P_learn_26 rfl (lv_at hl 2 rfl) ?_
  refine va_iald hx hb hK hP 3 0 rfl rfl (ti_vp (by omega) (by omega)) d_P_learn_27 ?_
  refine va_mmax hx hb (hml.trans hl.1.symm) hown (hT _ kw_170) (hT _ kw_171) (hT _ kw_7) (hT _ kw_172) (Nat.le_of_ble_eq_true rfl) (Nat.le_of_ble_eq_true rfl) (Nat.zero_le _) (Nat.zero_le _) d_P_learn_28 ?_
  refine va_put (D := (dC, dI)) (ci := 2) (v := .int (if P.2.2.2.1 < (L.2.2.1 x2.toNatClampNeg) then (L.2.2.1 x2.toNatClampNeg) else P.2.2.2.1)) (ty := .int) (C := R_P) (T := F_P) (N := 5) hx hb hT i_P tt_P tt_P_ok n_P hown hK hP hD hS 9 rfl rfl 3 (by decide) (hT _ kw_118) (fun _ h9 => h9) rfl (by decide +kernel) rfl rfl (Nat.le_of_ble_eq_true rfl) d_P_learn_31 (fun H locs hP hD hS => ?_)
  have hP : va_P (dC, dI) classes (wL cI cZ u0 u1 u2 u3 u4 u5 u6 u7 u8 L ++ wP cI cZ p0 p1 h0 a1 a2 a3 a4 (upd P.1 x2.toNatClampNeg 1, P.2.1, P.2.2.1 + 1, if P.2.2.2.1 < (L.2.2.1 x2.toNatClampNeg) then (L.2.2.1 x2.toNatClampNeg) else P.2.2.2.1, P.2.2.2.2)) H := vz_reP (hW_P_learn_31 cI cZ cQ u0 u1 u2 u3 u4 u5 u6 u7 u8 p0 p1 h0 a1 a2 a3 a4 L (upd P.1 x2.toNatClampNeg 1, P.2.1, P.2.2.1 + 1, P.2.2.2.1, P.2.2.2.2) (if P.2.2.2.1 < (L.2.2.1 x2.toNatClampNeg) then (L.2.2.1 x2.toNatClampNeg) else P.2.2.2.1)) hP
  have hD : va_D (vz_A (wL cI cZ u0 u1 u2 u3 u4 u5 u6 u7 u8 L ++ wP cI cZ p0 p1 h0 a1 a2 a3 a4 P)) (wL cI cZ u0 u1 u2 u3 u4 u5 u6 u7 u8 L ++ wP cI cZ p0 p1 h0 a1 a2 a3 a4 (upd P.1 x2.toNatClampNeg 1, P.2.1, P.2.2.1 + 1, if P.2.2.2.1 < (L.2.2.1 x2.toNatClampNeg) then (L.2.2.1 x2.toNatClampNeg) else P.2.2.2.1, P.2.2.2.2)) := vz_reD (hW_P_learn_31 cI cZ cQ u0 u1 u2 u3 u4 u5 u6 u7 u8 p0 p1 h0 a1 a2 a3 a4 L (upd P.1 x2.toNatClampNeg 1, P.2.1, P.2.2.1 + 1, P.2.2.2.1, P.2.2.2.2) (if P.2.2.2.1 < (L.2.2.1 x2.toNatClampNeg) then (L.2.2.1 x2.toNatClampNeg) else P.2.2.2.1)) hD
  refine lv_aload_n hx hb d_P_learn_34 rfl (lv_at hl 0 rfl) ?_
  refine lv_aload_n hx hb d_P_learn_35 rfl (lv_at hl 0 rfl) ?_
  refine lv_aload_n hx hb d_P_learn_36 rfl (lv_at hl 1 rfl) ?_
  refine lv_aload_n hx hb d_P_learn_37 rfl (lv_at hl 1 rfl) ?_
  refine va_get (D := (dC, dI)) (ci := 1) (v := .ref u1) (C := R_L) (T := F_L) (N := 10) hx hb hT i_L hown hK hP 0 rfl rfl 0 (by decide) (hT _ kw_23) (fun _ h9 => h9) rfl d_P_learn_38 ?_
  refine lv_iload_n hx hb d_P_learn_41 rfl (lv_at hl 2 rfl) ?_
  refine va_iald hx hb hK hP 1 0 rfl rfl (ti_vp (by omega) (by omega)) d_P_learn_42 ?_
  refine lv_iconst (v := 4) hx hb d_P_learn_43 (by decide) ?_
  refine lv_icmp_ne (tgt := 56) hx hb d_P_learn_44 (by decide) (fun c_44 => ?_) (fun c_44 => ?_)
  · have z_44 := mt Int32.toInt_inj.mp c_44
    refine lv_iload_n hx hb d_P_learn_56 rfl (lv_at hl 2 rfl) ?_
    have hc := c_P_countFrom l dC dI cI cZ cQ u0 u1 u2 u3 u4 u5 u6 u7 u8 L p0 p1 h0 a1 a2 a3 a4 (upd P.1 x2.toNatClampNeg 1, P.2.1, P.2.2.1 + 1, if P.2.2.2.1 < (L.2.2.1 x2.toNatClampNeg) then (L.2.2.1 x2.toNatClampNeg) else P.2.2.2.1, P.2.2.2.2) x2 (hcnt) (hord) (by first | exact h2 | exact hsub c_44)
    generalize hg_57 : (m_P_countFrom L (upd P.1 x2.toNatClampNeg 1, P.2.1, P.2.2.1 + 1, if P.2.2.2.1 < (L.2.2.1 x2.toNatClampNeg) then (L.2.2.1 x2.toNatClampNeg) else P.2.2.2.1, P.2.2.2.2) x2) = g_57 at hc
    refine vz_callV (As := [.ref u0, .int x2]) (rest := [.ref p0]) ⟨hx, hb, hml, hown, hT⟩ hc (vz_goodV kw_173 kw_175 ks_4 kw_3 kw_176) ⟨rfl, hd_P_countFrom⟩ ⟨⟨rfl, rfl⟩, Nat.le_of_ble_eq_true rfl, Nat.le_of_ble_eq_true rfl⟩ hK hP hD hS [0, 1, 2, 3, 4, 5, 6, 7, 8, 9, 10, 11, 12, 13, 14, 15] rfl (hC_P_learn_57 cI cZ cQ u0 u1 u2 u3 u4 u5 u6 u7 u8 p0 p1 h0 a1 a2 a3 a4 L (upd P.1 x2.toNatClampNeg 1, P.2.1, P.2.2.1 + 1, if P.2.2.2.1 < (L.2.2.1 x2.toNatClampNeg) then (L.2.2.1 x2.toNatClampNeg) else P.2.2.2.1, P.2.2.2.2)) (hF_P_countFrom cI cZ cQ _ _ _ _) 9 2 rfl rfl rfl rfl hl.1 rfl (Nat.le_of_ble_eq_true rfl) ⟨Nat.zero_le _, Nat.zero_le _⟩ d_P_learn_57 (fun H locs hP hD hS => ?_)
    have hP : va_P (dC, dI) classes (wL cI cZ u0 u1 u2 u3 u4 u5 u6 u7 u8 L ++ wP cI cZ p0 p1 h0 a1 a2 a3 a4 (upd P.1 x2.toNatClampNeg 1, P.2.1, P.2.2.1 + 1, if P.2.2.2.1 < (L.2.2.1 x2.toNatClampNeg) then (L.2.2.1 x2.toNatClampNeg) else P.2.2.2.1, P.2.2.2.2)) H := vz_reP (hU_P_learn_57 cI cZ cQ u0 u1 u2 u3 u4 u5 u6 u7 u8 p0 p1 h0 a1 a2 a3 a4 L (upd P.1 x2.toNatClampNeg 1, P.2.1, P.2.2.1 + 1, if P.2.2.2.1 < (L.2.2.1 x2.toNatClampNeg) then (L.2.2.1 x2.toNatClampNeg) else P.2.2.2.1, P.2.2.2.2) ) hP
    have hD : va_D (vz_A (wL cI cZ u0 u1 u2 u3 u4 u5 u6 u7 u8 L ++ wP cI cZ p0 p1 h0 a1 a2 a3 a4 P)) (wL cI cZ u0 u1 u2 u3 u4 u5 u6 u7 u8 L ++ wP cI cZ p0 p1 h0 a1 a2 a3 a4 (upd P.1 x2.toNatClampNeg 1, P.2.1, P.2.2.1 + 1, if P.2.2.2.1 < (L.2.2.1 x2.toNatClampNeg) then (L.2.2.1 x2.toNatClampNeg) else P.2.2.2.1, P.2.2.2.2)) := vz_reD (hU_P_learn_57 cI cZ cQ u0 u1 u2 u3 u4 u5 u6 u7 u8 p0 p1 h0 a1 a2 a3 a4 L (upd P.1 x2.toNatClampNeg 1, P.2.1, P.2.2.1 + 1, if P.2.2.2.1 < (L.2.2.1 x2.toNatClampNeg) then (L.2.2.1 x2.toNatClampNeg) else P.2.2.2.1, P.2.2.2.2) ) hD
    refine W.eq (g2 := F0 m 60 ls [.int g_57, .ref p0]) rfl ?_
    refine va_put (D := (dC, dI)) (ci := 2) (v := .int g_57) (ty := .int) (C := R_P) (T := F_P) (N := 5) hx hb hT i_P tt_P tt_P_ok n_P hown hK hP hD hS 9 rfl rfl 4 (by decide) (hT _ kw_119) (fun _ h9 => h9) rfl (by decide +kernel) rfl rfl (Nat.le_of_ble_eq_true rfl) d_P_learn_60 (fun H locs hP hD hS => ?_)
    have hP : va_P (dC, dI) classes (wL cI cZ u0 u1 u2 u3 u4 u5 u6 u7 u8 L ++ wP cI cZ p0 p1 h0 a1 a2 a3 a4 (upd P.1 x2.toNatClampNeg 1, P.2.1, P.2.2.1 + 1, if P.2.2.2.1 < (L.2.2.1 x2.toNatClampNeg) then (L.2.2.1 x2.toNatClampNeg) else P.2.2.2.1, g_57)) H := vz_reP (hW_P_learn_60 cI cZ cQ u0 u1 u2 u3 u4 u5 u6 u7 u8 p0 p1 h0 a1 a2 a3 a4 L (upd P.1 x2.toNatClampNeg 1, P.2.1, P.2.2.1 + 1, if P.2.2.2.1 < (L.2.2.1 x2.toNatClampNeg) then (L.2.2.1 x2.toNatClampNeg) else P.2.2.2.1, P.2.2.2.2) g_57) hP
    have hD : va_D (vz_A (wL cI cZ u0 u1 u2 u3 u4 u5 u6 u7 u8 L ++ wP cI cZ p0 p1 h0 a1 a2 a3 a4 P)) (wL cI cZ u0 u1 u2 u3 u4 u5 u6 u7 u8 L ++ wP cI cZ p0 p1 h0 a1 a2 a3 a4 (upd P.1 x2.toNatClampNeg 1, P.2.1, P.2.2.1 + 1, if P.2.2.2.1 < (L.2.2.1 x2.toNatClampNeg) then (L.2.2.1 x2.toNatClampNeg) else P.2.2.2.1, g_57)) := vz_reD (hW_P_learn_60 cI cZ cQ u0 u1 u2 u3 u4 u5 u6 u7 u8 p0 p1 h0 a1 a2 a3 a4 L (upd P.1 x2.toNatClampNeg 1, P.2.1, P.2.2.1 + 1, if P.2.2.2.1 < (L.2.2.1 x2.toNatClampNeg) then (L.2.2.1 x2.toNatClampNeg) else P.2.2.2.1, P.2.2.2.2) g_57) hD
    rw [m_P_learn, if_neg c_44] at hres
    try rw [hg_57] at hres
    subst hres
    subst hQ
    exact vz_vret hx hb hr hlocks d_P_learn_63 hS rfl hP
  · have z_44 := congrArg Int32.toInt c_44
    refine lv_aload_n hx hb d_P_learn_47 rfl (lv_at hl 1 rfl) ?_
    refine va_get (D := (dC, dI)) (ci := 1) (v := .ref u4) (C := R_L) (T := F_L) (N := 10) hx hb hT i_L hown hK hP 0 rfl rfl 3 (by decide) (hT _ kw_31) (fun _ h9 => h9) rfl d_P_learn_48 ?_
    refine lv_iload_n hx hb d_P_learn_51 rfl (lv_at hl 2 rfl) ?_
    refine va_iald hx hb hK hP 4 0 rfl rfl (ti_vp (by omega) (by omega)) d_P_learn_52 ?_
    refine lv_goto (tgt := 57) hx hb d_P_learn_53 (by decide) ?_
    have hc := c_P_countFrom l dC dI cI cZ cQ u0 u1 u2 u3 u4 u5 u6 u7 u8 L p0 p1 h0 a1 a2 a3 a4 (upd P.1 x2.toNatClampNeg 1, P.2.1, P.2.2.1 + 1, if P.2.2.2.1 < (L.2.2.1 x2.toNatClampNeg) then (L.2.2.1 x2.toNatClampNeg) else P.2.2.2.1, P.2.2.2.2) (L.2.2.2.1 x2.toNatClampNeg) (hcnt) (hord) (by first | exact h2 | exact hsub c_44)
    generalize hg_57 : (m_P_countFrom L (upd P.1 x2.toNatClampNeg 1, P.2.1, P.2.2.1 + 1, if P.2.2.2.1 < (L.2.2.1 x2.toNatClampNeg) then (L.2.2.1 x2.toNatClampNeg) else P.2.2.2.1, P.2.2.2.2) (L.2.2.2.1 x2.toNatClampNeg)) = g_57 at hc
    refine vz_callV (As := [.ref u0, .int (L.2.2.2.1 x2.toNatClampNeg)]) (rest := [.ref p0]) ⟨hx, hb, hml, hown, hT⟩ hc (vz_goodV kw_173 kw_175 ks_4 kw_3 kw_176) ⟨rfl, hd_P_countFrom⟩ ⟨⟨rfl, rfl⟩, Nat.le_of_ble_eq_true rfl, Nat.le_of_ble_eq_true rfl⟩ hK hP hD hS [0, 1, 2, 3, 4, 5, 6, 7, 8, 9, 10, 11, 12, 13, 14, 15] rfl (hC_P_learn_57 cI cZ cQ u0 u1 u2 u3 u4 u5 u6 u7 u8 p0 p1 h0 a1 a2 a3 a4 L (upd P.1 x2.toNatClampNeg 1, P.2.1, P.2.2.1 + 1, if P.2.2.2.1 < (L.2.2.1 x2.toNatClampNeg) then (L.2.2.1 x2.toNatClampNeg) else P.2.2.2.1, P.2.2.2.2)) (hF_P_countFrom cI cZ cQ _ _ _ _) 9 2 rfl rfl rfl rfl hl.1 rfl (Nat.le_of_ble_eq_true rfl) ⟨Nat.zero_le _, Nat.zero_le _⟩ d_P_learn_57 (fun H locs hP hD hS => ?_)
    have hP : va_P (dC, dI) classes (wL cI cZ u0 u1 u2 u3 u4 u5 u6 u7 u8 L ++ wP cI cZ p0 p1 h0 a1 a2 a3 a4 (upd P.1 x2.toNatClampNeg 1, P.2.1, P.2.2.1 + 1, if P.2.2.2.1 < (L.2.2.1 x2.toNatClampNeg) then (L.2.2.1 x2.toNatClampNeg) else P.2.2.2.1, P.2.2.2.2)) H := vz_reP (hU_P_learn_57 cI cZ cQ u0 u1 u2 u3 u4 u5 u6 u7 u8 p0 p1 h0 a1 a2 a3 a4 L (upd P.1 x2.toNatClampNeg 1, P.2.1, P.2.2.1 + 1, if P.2.2.2.1 < (L.2.2.1 x2.toNatClampNeg) then (L.2.2.1 x2.toNatClampNeg) else P.2.2.2.1, P.2.2.2.2) ) hP
    have hD : va_D (vz_A (wL cI cZ u0 u1 u2 u3 u4 u5 u6 u7 u8 L ++ wP cI cZ p0 p1 h0 a1 a2 a3 a4 P)) (wL cI cZ u0 u1 u2 u3 u4 u5 u6 u7 u8 L ++ wP cI cZ p0 p1 h0 a1 a2 a3 a4 (upd P.1 x2.toNatClampNeg 1, P.2.1, P.2.2.1 + 1, if P.2.2.2.1 < (L.2.2.1 x2.toNatClampNeg) then (L.2.2.1 x2.toNatClampNeg) else P.2.2.2.1, P.2.2.2.2)) := vz_reD (hU_P_learn_57 cI cZ cQ u0 u1 u2 u3 u4 u5 u6 u7 u8 p0 p1 h0 a1 a2 a3 a4 L (upd P.1 x2.toNatClampNeg 1, P.2.1, P.2.2.1 + 1, if P.2.2.2.1 < (L.2.2.1 x2.toNatClampNeg) then (L.2.2.1 x2.toNatClampNeg) else P.2.2.2.1, P.2.2.2.2) ) hD
    refine W.eq (g2 := F0 m 60 ls [.int g_57, .ref p0]) rfl ?_
    refine va_put (D := (dC, dI)) (ci := 2) (v := .int g_57) (ty := .int) (C := R_P) (T := F_P) (N := 5) hx hb hT i_P tt_P tt_P_ok n_P hown hK hP hD hS 9 rfl rfl 4 (by decide) (hT _ kw_119) (fun _ h9 => h9) rfl (by decide +kernel) rfl rfl (Nat.le_of_ble_eq_true rfl) d_P_learn_60 (fun H locs hP hD hS => ?_)
    have hP : va_P (dC, dI) classes (wL cI cZ u0 u1 u2 u3 u4 u5 u6 u7 u8 L ++ wP cI cZ p0 p1 h0 a1 a2 a3 a4 (upd P.1 x2.toNatClampNeg 1, P.2.1, P.2.2.1 + 1, if P.2.2.2.1 < (L.2.2.1 x2.toNatClampNeg) then (L.2.2.1 x2.toNatClampNeg) else P.2.2.2.1, g_57)) H := vz_reP (hW_P_learn_60 cI cZ cQ u0 u1 u2 u3 u4 u5 u6 u7 u8 p0 p1 h0 a1 a2 a3 a4 L (upd P.1 x2.toNatClampNeg 1, P.2.1, P.2.2.1 + 1, if P.2.2.2.1 < (L.2.2.1 x2.toNatClampNeg) then (L.2.2.1 x2.toNatClampNeg) else P.2.2.2.1, P.2.2.2.2) g_57) hP
    have hD : va_D (vz_A (wL cI cZ u0 u1 u2 u3 u4 u5 u6 u7 u8 L ++ wP cI cZ p0 p1 h0 a1 a2 a3 a4 P)) (wL cI cZ u0 u1 u2 u3 u4 u5 u6 u7 u8 L ++ wP cI cZ p0 p1 h0 a1 a2 a3 a4 (upd P.1 x2.toNatClampNeg 1, P.2.1, P.2.2.1 + 1, if P.2.2.2.1 < (L.2.2.1 x2.toNatClampNeg) then (L.2.2.1 x2.toNatClampNeg) else P.2.2.2.1, g_57)) := vz_reD (hW_P_learn_60 cI cZ cQ u0 u1 u2 u3 u4 u5 u6 u7 u8 p0 p1 h0 a1 a2 a3 a4 L (upd P.1 x2.toNatClampNeg 1, P.2.1, P.2.2.1 + 1, if P.2.2.2.1 < (L.2.2.1 x2.toNatClampNeg) then (L.2.2.1 x2.toNatClampNeg) else P.2.2.2.1, P.2.2.2.2) g_57) hD
    rw [m_P_learn, if_pos c_44] at hres
    try rw [hg_57] at hres
    subst hres
    subst hQ
    exact vz_vret hx hb hr hlocks d_P_learn_63 hS rfl hP
end
section
theorem d_P_judge_0 : decode b_P_judge 0 = .ok (.aload_n 1, 1) := by decide +kernel
theorem d_P_judge_1 : decode b_P_judge 1 = .ok (.getfield 39, 3) := by decide +kernel
theorem d_P_judge_4 : decode b_P_judge 4 = .ok (.iload_n 2, 1) := by decide +kernel
theorem d_P_judge_5 : decode b_P_judge 5 = .ok (.iaload, 1) := by decide +kernel
theorem d_P_judge_6 : decode b_P_judge 6 = .ok (.iconst 4, 1) := by decide +kernel
theorem d_P_judge_7 : decode b_P_judge 7 = .ok (.if_icmp .eq 24, 3) := by decide +kernel
theorem d_P_judge_10 : decode b_P_judge 10 = .ok (.aload_n 0, 1) := by decide +kernel
theorem d_P_judge_11 : decode b_P_judge 11 = .ok (.aload_n 1, 1) := by decide +kernel
theorem d_P_judge_12 : decode b_P_judge 12 = .ok (.getfield 69, 3) := by decide +kernel
theorem d_P_judge_15 : decode b_P_judge 15 = .ok (.iload_n 2, 1) := by decide +kernel
theorem d_P_judge_16 : decode b_P_judge 16 = .ok (.iaload, 1) := by decide +kernel
theorem d_P_judge_17 : decode b_P_judge 17 = .ok (.invokevirtual 52, 3) := by decide +kernel
theorem d_P_judge_20 : decode b_P_judge 20 = .ok (.ifCond .eq 11, 3) := by decide +kernel
theorem d_P_judge_23 : decode b_P_judge 23 = .ok (.aload_n 0, 1) := by decide +kernel
theorem d_P_judge_24 : decode b_P_judge 24 = .ok (.getfield 9, 3) := by decide +kernel
theorem d_P_judge_27 : decode b_P_judge 27 = .ok (.iload_n 2, 1) := by decide +kernel
theorem d_P_judge_28 : decode b_P_judge 28 = .ok (.iconst 3, 1) := by decide +kernel
theorem d_P_judge_29 : decode b_P_judge 29 = .ok (.iastore, 1) := by decide +kernel
theorem d_P_judge_30 : decode b_P_judge 30 = .ok (.return_, 1) := by decide +kernel
theorem d_P_judge_31 : decode b_P_judge 31 = .ok (.iconst 1, 1) := by decide +kernel
theorem d_P_judge_32 : decode b_P_judge 32 = .ok (.istore_n 3, 1) := by decide +kernel
theorem d_P_judge_33 : decode b_P_judge 33 = .ok (.aload_n 1, 1) := by decide +kernel
theorem d_P_judge_34 : decode b_P_judge 34 = .ok (.getfield 42, 3) := by decide +kernel
theorem d_P_judge_37 : decode b_P_judge 37 = .ok (.iload_n 2, 1) := by decide +kernel
theorem d_P_judge_38 : decode b_P_judge 38 = .ok (.iaload, 1) := by decide +kernel
theorem d_P_judge_39 : decode b_P_judge 39 = .ok (.istore 4, 2) := by decide +kernel
theorem d_P_judge_41 : decode b_P_judge 41 = .ok (.aload_n 1, 1) := by decide +kernel
theorem d_P_judge_42 : decode b_P_judge 42 = .ok (.getfield 39, 3) := by decide +kernel
theorem d_P_judge_45 : decode b_P_judge 45 = .ok (.iload_n 2, 1) := by decide +kernel
theorem d_P_judge_46 : decode b_P_judge 46 = .ok (.iaload, 1) := by decide +kernel
theorem d_P_judge_47 : decode b_P_judge 47 = .ok (.tableswitch 92 0 3 #[29, 41, 66, 79], 29) := by decide +kernel
theorem d_P_judge_76 : decode b_P_judge 76 = .ok (.aload_n 0, 1) := by decide +kernel
theorem d_P_judge_77 : decode b_P_judge 77 = .ok (.getfield 18, 3) := by decide +kernel
theorem d_P_judge_80 : decode b_P_judge 80 = .ok (.iload 4, 2) := by decide +kernel
theorem d_P_judge_82 : decode b_P_judge 82 = .ok (.invokevirtual 72, 3) := by decide +kernel
theorem d_P_judge_85 : decode b_P_judge 85 = .ok (.goto 54, 3) := by decide +kernel
theorem d_P_judge_88 : decode b_P_judge 88 = .ok (.aload_n 0, 1) := by decide +kernel
theorem d_P_judge_89 : decode b_P_judge 89 = .ok (.getfield 18, 3) := by decide +kernel
theorem d_P_judge_92 : decode b_P_judge 92 = .ok (.iload 4, 2) := by decide +kernel
theorem d_P_judge_94 : decode b_P_judge 94 = .ok (.aload_n 1, 1) := by decide +kernel
theorem d_P_judge_95 : decode b_P_judge 95 = .ok (.getfield 76, 3) := by decide +kernel
theorem d_P_judge_98 : decode b_P_judge 98 = .ok (.iload_n 2, 1) := by decide +kernel
theorem d_P_judge_99 : decode b_P_judge 99 = .ok (.iaload, 1) := by decide +kernel
theorem d_P_judge_100 : decode b_P_judge 100 = .ok (.aload_n 1, 1) := by decide +kernel
theorem d_P_judge_101 : decode b_P_judge 101 = .ok (.getfield 79, 3) := by decide +kernel
theorem d_P_judge_104 : decode b_P_judge 104 = .ok (.iload_n 2, 1) := by decide +kernel
theorem d_P_judge_105 : decode b_P_judge 105 = .ok (.iaload, 1) := by decide +kernel
theorem d_P_judge_106 : decode b_P_judge 106 = .ok (.invokevirtual 82, 3) := by decide +kernel
theorem d_P_judge_109 : decode b_P_judge 109 = .ok (.istore_n 3, 1) := by decide +kernel
theorem d_P_judge_110 : decode b_P_judge 110 = .ok (.goto 29, 3) := by decide +kernel
theorem d_P_judge_113 : decode b_P_judge 113 = .ok (.aload_n 0, 1) := by decide +kernel
theorem d_P_judge_114 : decode b_P_judge 114 = .ok (.getfield 18, 3) := by decide +kernel
theorem d_P_judge_117 : decode b_P_judge 117 = .ok (.iload 4, 2) := by decide +kernel
theorem d_P_judge_119 : decode b_P_judge 119 = .ok (.invokevirtual 86, 3) := by decide +kernel
theorem d_P_judge_122 : decode b_P_judge 122 = .ok (.istore_n 3, 1) := by decide +kernel
theorem d_P_judge_123 : decode b_P_judge 123 = .ok (.goto 16, 3) := by decide +kernel
theorem d_P_judge_126 : decode b_P_judge 126 = .ok (.aload_n 0, 1) := by decide +kernel
theorem d_P_judge_127 : decode b_P_judge 127 = .ok (.getfield 18, 3) := by decide +kernel
theorem d_P_judge_130 : decode b_P_judge 130 = .ok (.iload 4, 2) := by decide +kernel
theorem d_P_judge_132 : decode b_P_judge 132 = .ok (.invokevirtual 89, 3) := by decide +kernel
theorem d_P_judge_135 : decode b_P_judge 135 = .ok (.istore_n 3, 1) := by decide +kernel
theorem d_P_judge_136 : decode b_P_judge 136 = .ok (.goto 3, 3) := by decide +kernel
theorem d_P_judge_139 : decode b_P_judge 139 = .ok (.aload_n 0, 1) := by decide +kernel
theorem d_P_judge_140 : decode b_P_judge 140 = .ok (.getfield 9, 3) := by decide +kernel
theorem d_P_judge_143 : decode b_P_judge 143 = .ok (.iload_n 2, 1) := by decide +kernel
theorem d_P_judge_144 : decode b_P_judge 144 = .ok (.iload_n 3, 1) := by decide +kernel
theorem d_P_judge_145 : decode b_P_judge 145 = .ok (.ifCond .eq 7, 3) := by decide +kernel
theorem d_P_judge_148 : decode b_P_judge 148 = .ok (.iconst 1, 1) := by decide +kernel
theorem d_P_judge_149 : decode b_P_judge 149 = .ok (.goto 4, 3) := by decide +kernel
theorem d_P_judge_152 : decode b_P_judge 152 = .ok (.iconst 2, 1) := by decide +kernel
theorem d_P_judge_153 : decode b_P_judge 153 = .ok (.iastore, 1) := by decide +kernel
theorem d_P_judge_154 : decode b_P_judge 154 = .ok (.return_, 1) := by decide +kernel
theorem hC_P_judge_82 (cI cZ cQ : ClassId) (q0 q1 q2 q3 q4 q5 q6 q7 q8 q9 q10 q11 q12 q13 q14 q15 : Nat) (S0 : cL) (S1 : cP) : ([11, 12, 13, 14, 15] : List Nat).map (fun i => (wL cI cZ q0 q1 q2 q3 q4 q5 q6 q7 q8 S0 ++ wP cI cZ q9 q10 q11 q12 q13 q14 q15 S1 : va_W)[i]?) = (wT cI cZ q11 q12 q13 q14 q15 S1.2.1 : va_W).map some := rfl
theorem hF_T_bringIn (cI cZ cQ : ClassId) {h0 a1 a2 a3 a4 : Nat} (S0 R0 : cT) : (wT cI cZ h0 a1 a2 a3 a4 R0 : va_W).map Prod.fst = (wT cI cZ h0 a1 a2 a3 a4 S0 : va_W).map Prod.fst := rfl
theorem hU_P_judge_82 (cI cZ cQ : ClassId) (q0 q1 q2 q3 q4 q5 q6 q7 q8 q9 q10 q11 q12 q13 q14 q15 : Nat) (S0 : cL) (S1 : cP) (R0 : cT) : vz_put (wL cI cZ q0 q1 q2 q3 q4 q5 q6 q7 q8 S0 ++ wP cI cZ q9 q10 q11 q12 q13 q14 q15 S1 : va_W) [11, 12, 13, 14, 15] (wT cI cZ q11 q12 q13 q14 q15 R0 : va_W) = wL cI cZ q0 q1 q2 q3 q4 q5 q6 q7 q8 S0 ++ wP cI cZ q9 q10 q11 q12 q13 q14 q15 (S1.1, R0, S1.2.2.1, S1.2.2.2.1, S1.2.2.2.2) := (show vz_put ([(q0, .inr (1, [.ref q1, .ref q2, .ref q3, .ref q4, .ref q5, .ref q6, .ref q7, .ref q8, .int S0.2.2.2.2.2.2.2.2.1, .int S0.2.2.2.2.2.2.2.2.2])), (q1, .inl (cI, 301, .inl S0.1)), (q2, .inl (cI, 301, .inl S0.2.1)), (q3, .inl (cI, 301, .inl S0.2.2.1)), (q4, .inl (cI, 301, .inl S0.2.2.2.1)), (q5, .inl (cI, 301, .inl S0.2.2.2.2.1)), (q6, .inl (cI, 301, .inl S0.2.2.2.2.2.1)), (q7, .inl (cI, 301, .inl S0.2.2.2.2.2.2.1)), (q8, .inl (cI, 300, .inl S0.2.2.2.2.2.2.2.1)), (q9, .inr (2, [.ref q10, .ref q11, .int S1.2.2.1, .int S1.2.2.2.1, .int S1.2.2.2.2])), (q10, .inl (cI, 301, .inl S1.1)), (q11, .inr (0, [.ref q12, .ref q13, .ref q14, .ref q15, .int S1.2.1.2.2.2.2])), (q12, .inl (cZ, 40, .inl S1.2.1.1)), (q13, .inl (cI, 40, .inl S1.2.1.2.1)), (q14, .inl (cI, 40, .inl S1.2.1.2.2.1)), (q15, .inl (cI, 40, .inl S1.2.1.2.2.2.1))] : va_W) [11, 12, 13, 14, 15] ([(q11, .inr (0, [.ref q12, .ref q13, .ref q14, .ref q15, .int R0.2.2.2.2])), (q12, .inl (cZ, 40, .inl R0.1)), (q13, .inl (cI, 40, .inl R0.2.1)), (q14, .inl (cI, 40, .inl R0.2.2.1)), (q15, .inl (cI, 40, .inl R0.2.2.2.1))] : va_W) = [(q0, .inr (1, [.ref q1, .ref q2, .ref q3, .ref q4, .ref q5, .ref q6, .ref q7, .ref q8, .int S0.2.2.2.2.2.2.2.2.1, .int S0.2.2.2.2.2.2.2.2.2])), (q1, .inl (cI, 301, .inl S0.1)), (q2, .inl (cI, 301, .inl S0.2.1)), (q3, .inl (cI, 301, .inl S0.2.2.1)), (q4, .inl (cI, 301, .inl S0.2.2.2.1)), (q5, .inl (cI, 301, .inl S0.2.2.2.2.1)), (q6, .inl (cI, 301, .inl S0.2.2.2.2.2.1)), (q7, .inl (cI, 301, .inl S0.2.2.2.2.2.2.1)), (q8, .inl (cI, 300, .inl S0.2.2.2.2.2.2.2.1)), (q9, .inr (2, [.ref q10, .ref q11, .int S1.2.2.1, .int S1.2.2.2.1, .int S1.2.2.2.2])), (q10, .inl (cI, 301, .inl S1.1)), (q11, .inr (0, [.ref q12, .ref q13, .ref q14, .ref q15, .int R0.2.2.2.2])), (q12, .inl (cZ, 40, .inl R0.1)), (q13, .inl (cI, 40, .inl R0.2.1)), (q14, .inl (cI, 40, .inl R0.2.2.1)), (q15, .inl (cI, 40, .inl R0.2.2.2.1))] from rfl).trans rfl
theorem hW_P_judge_153 (cI cZ cQ : ClassId) (q0 q1 q2 q3 q4 q5 q6 q7 q8 q9 q10 q11 q12 q13 q14 q15 : Nat) (S0 : cL) (S1 : cP) (v : cA) : (wL cI cZ q0 q1 q2 q3 q4 q5 q6 q7 q8 S0 ++ wP cI cZ q9 q10 q11 q12 q13 q14 q15 S1 : va_W).set 10 (q10, .inl (cI, 301, .inl v)) = wL cI cZ q0 q1 q2 q3 q4 q5 q6 q7 q8 S0 ++ wP cI cZ q9 q10 q11 q12 q13 q14 q15 (v, S1.2.1, S1.2.2.1, S1.2.2.2.1, S1.2.2.2.2) := rfl
theorem hC_P_judge_106 (cI cZ cQ : ClassId) (q0 q1 q2 q3 q4 q5 q6 q7 q8 q9 q10 q11 q12 q13 q14 q15 : Nat) (S0 : cL) (S1 : cP) : ([11, 12, 13, 14, 15] : List Nat).map (fun i => (wL cI cZ q0 q1 q2 q3 q4 q5 q6 q7 q8 S0 ++ wP cI cZ q9 q10 q11 q12 q13 q14 q15 S1 : va_W)[i]?) = (wT cI cZ q11 q12 q13 q14 q15 S1.2.1 : va_W).map some := rfl
theorem hF_T_moveTo (cI cZ cQ : ClassId) {h0 a1 a2 a3 a4 : Nat} (S0 R0 : cT) : (wT cI cZ h0 a1 a2 a3 a4 R0 : va_W).map Prod.fst = (wT cI cZ h0 a1 a2 a3 a4 S0 : va_W).map Prod.fst := rfl
theorem hU_P_judge_106 (cI cZ cQ : ClassId) (q0 q1 q2 q3 q4 q5 q6 q7 q8 q9 q10 q11 q12 q13 q14 q15 : Nat) (S0 : cL) (S1 : cP) (R0 : cT) : vz_put (wL cI cZ q0 q1 q2 q3 q4 q5 q6 q7 q8 S0 ++ wP cI cZ q9 q10 q11 q12 q13 q14 q15 S1 : va_W) [11, 12, 13, 14, 15] (wT cI cZ q11 q12 q13 q14 q15 R0 : va_W) = wL cI cZ q0 q1 q2 q3 q4 q5 q6 q7 q8 S0 ++ wP cI cZ q9 q10 q11 q12 q13 q14 q15 (S1.1, R0, S1.2.2.1, S1.2.2.2.1, S1.2.2.2.2) := (show vz_put ([(q0, .inr (1, [.ref q1, .ref q2, .ref q3, .ref q4, .ref q5, .ref q6, .ref q7, .ref q8, .int S0.2.2.2.2.2.2.2.2.1, .int S0.2.2.2.2.2.2.2.2.2])), (q1, .inl (cI, 301, .inl S0.1)), (q2, .inl (cI, 301, .inl S0.2.1)), (q3, .inl (cI, 301, .inl S0.2.2.1)), (q4, .inl (cI, 301, .inl S0.2.2.2.1)), (q5, .inl (cI, 301, .inl S0.2.2.2.2.1)), (q6, .inl (cI, 301, .inl S0.2.2.2.2.2.1)), (q7, .inl (cI, 301, .inl S0.2.2.2.2.2.2.1)), (q8, .inl (cI, 300, .inl S0.2.2.2.2.2.2.2.1)), (q9, .inr (2, [.ref q10, .ref q11, .int S1.2.2.1, .int S1.2.2.2.1, .int S1.2.2.2.2])), (q10, .inl (cI, 301, .inl S1.1)), (q11, .inr (0, [.ref q12, .ref q13, .ref q14, .ref q15, .int S1.2.1.2.2.2.2])), (q12, .inl (cZ, 40, .inl S1.2.1.1)), (q13, .inl (cI, 40, .inl S1.2.1.2.1)), (q14, .inl (cI, 40, .inl S1.2.1.2.2.1)), (q15, .inl (cI, 40, .inl S1.2.1.2.2.2.1))] : va_W) [11, 12, 13, 14, 15] ([(q11, .inr (0, [.ref q12, .ref q13, .ref q14, .ref q15, .int R0.2.2.2.2])), (q12, .inl (cZ, 40, .inl R0.1)), (q13, .inl (cI, 40, .inl R0.2.1)), (q14, .inl (cI, 40, .inl R0.2.2.1)), (q15, .inl (cI, 40, .inl R0.2.2.2.1))] : va_W) = [(q0, .inr (1, [.ref q1, .ref q2, .ref q3, .ref q4, .ref q5, .ref q6, .ref q7, .ref q8, .int S0.2.2.2.2.2.2.2.2.1, .int S0.2.2.2.2.2.2.2.2.2])), (q1, .inl (cI, 301, .inl S0.1)), (q2, .inl (cI, 301, .inl S0.2.1)), (q3, .inl (cI, 301, .inl S0.2.2.1)), (q4, .inl (cI, 301, .inl S0.2.2.2.1)), (q5, .inl (cI, 301, .inl S0.2.2.2.2.1)), (q6, .inl (cI, 301, .inl S0.2.2.2.2.2.1)), (q7, .inl (cI, 301, .inl S0.2.2.2.2.2.2.1)), (q8, .inl (cI, 300, .inl S0.2.2.2.2.2.2.2.1)), (q9, .inr (2, [.ref q10, .ref q11, .int S1.2.2.1, .int S1.2.2.2.1, .int S1.2.2.2.2])), (q10, .inl (cI, 301, .inl S1.1)), (q11, .inr (0, [.ref q12, .ref q13, .ref q14, .ref q15, .int R0.2.2.2.2])), (q12, .inl (cZ, 40, .inl R0.1)), (q13, .inl (cI, 40, .inl R0.2.1)), (q14, .inl (cI, 40, .inl R0.2.2.1)), (q15, .inl (cI, 40, .inl R0.2.2.2.1))] from rfl).trans rfl
theorem hC_P_judge_119 (cI cZ cQ : ClassId) (q0 q1 q2 q3 q4 q5 q6 q7 q8 q9 q10 q11 q12 q13 q14 q15 : Nat) (S0 : cL) (S1 : cP) : ([11, 12, 13, 14, 15] : List Nat).map (fun i => (wL cI cZ q0 q1 q2 q3 q4 q5 q6 q7 q8 S0 ++ wP cI cZ q9 q10 q11 q12 q13 q14 q15 S1 : va_W)[i]?) = (wT cI cZ q11 q12 q13 q14 q15 S1.2.1 : va_W).map some := rfl
theorem hF_T_throwAway (cI cZ cQ : ClassId) {h0 a1 a2 a3 a4 : Nat} (S0 R0 : cT) : (wT cI cZ h0 a1 a2 a3 a4 R0 : va_W).map Prod.fst = (wT cI cZ h0 a1 a2 a3 a4 S0 : va_W).map Prod.fst := rfl
theorem hU_P_judge_119 (cI cZ cQ : ClassId) (q0 q1 q2 q3 q4 q5 q6 q7 q8 q9 q10 q11 q12 q13 q14 q15 : Nat) (S0 : cL) (S1 : cP) (R0 : cT) : vz_put (wL cI cZ q0 q1 q2 q3 q4 q5 q6 q7 q8 S0 ++ wP cI cZ q9 q10 q11 q12 q13 q14 q15 S1 : va_W) [11, 12, 13, 14, 15] (wT cI cZ q11 q12 q13 q14 q15 R0 : va_W) = wL cI cZ q0 q1 q2 q3 q4 q5 q6 q7 q8 S0 ++ wP cI cZ q9 q10 q11 q12 q13 q14 q15 (S1.1, R0, S1.2.2.1, S1.2.2.2.1, S1.2.2.2.2) := (show vz_put ([(q0, .inr (1, [.ref q1, .ref q2, .ref q3, .ref q4, .ref q5, .ref q6, .ref q7, .ref q8, .int S0.2.2.2.2.2.2.2.2.1, .int S0.2.2.2.2.2.2.2.2.2])), (q1, .inl (cI, 301, .inl S0.1)), (q2, .inl (cI, 301, .inl S0.2.1)), (q3, .inl (cI, 301, .inl S0.2.2.1)), (q4, .inl (cI, 301, .inl S0.2.2.2.1)), (q5, .inl (cI, 301, .inl S0.2.2.2.2.1)), (q6, .inl (cI, 301, .inl S0.2.2.2.2.2.1)), (q7, .inl (cI, 301, .inl S0.2.2.2.2.2.2.1)), (q8, .inl (cI, 300, .inl S0.2.2.2.2.2.2.2.1)), (q9, .inr (2, [.ref q10, .ref q11, .int S1.2.2.1, .int S1.2.2.2.1, .int S1.2.2.2.2])), (q10, .inl (cI, 301, .inl S1.1)), (q11, .inr (0, [.ref q12, .ref q13, .ref q14, .ref q15, .int S1.2.1.2.2.2.2])), (q12, .inl (cZ, 40, .inl S1.2.1.1)), (q13, .inl (cI, 40, .inl S1.2.1.2.1)), (q14, .inl (cI, 40, .inl S1.2.1.2.2.1)), (q15, .inl (cI, 40, .inl S1.2.1.2.2.2.1))] : va_W) [11, 12, 13, 14, 15] ([(q11, .inr (0, [.ref q12, .ref q13, .ref q14, .ref q15, .int R0.2.2.2.2])), (q12, .inl (cZ, 40, .inl R0.1)), (q13, .inl (cI, 40, .inl R0.2.1)), (q14, .inl (cI, 40, .inl R0.2.2.1)), (q15, .inl (cI, 40, .inl R0.2.2.2.1))] : va_W) = [(q0, .inr (1, [.ref q1, .ref q2, .ref q3, .ref q4, .ref q5, .ref q6, .ref q7, .ref q8, .int S0.2.2.2.2.2.2.2.2.1, .int S0.2.2.2.2.2.2.2.2.2])), (q1, .inl (cI, 301, .inl S0.1)), (q2, .inl (cI, 301, .inl S0.2.1)), (q3, .inl (cI, 301, .inl S0.2.2.1)), (q4, .inl (cI, 301, .inl S0.2.2.2.1)), (q5, .inl (cI, 301, .inl S0.2.2.2.2.1)), (q6, .inl (cI, 301, .inl S0.2.2.2.2.2.1)), (q7, .inl (cI, 301, .inl S0.2.2.2.2.2.2.1)), (q8, .inl (cI, 300, .inl S0.2.2.2.2.2.2.2.1)), (q9, .inr (2, [.ref q10, .ref q11, .int S1.2.2.1, .int S1.2.2.2.1, .int S1.2.2.2.2])), (q10, .inl (cI, 301, .inl S1.1)), (q11, .inr (0, [.ref q12, .ref q13, .ref q14, .ref q15, .int R0.2.2.2.2])), (q12, .inl (cZ, 40, .inl R0.1)), (q13, .inl (cI, 40, .inl R0.2.1)), (q14, .inl (cI, 40, .inl R0.2.2.1)), (q15, .inl (cI, 40, .inl R0.2.2.2.1))] from rfl).trans rfl
theorem hC_P_judge_132 (cI cZ cQ : ClassId) (q0 q1 q2 q3 q4 q5 q6 q7 q8 q9 q10 q11 q12 q13 q14 q15 : Nat) (S0 : cL) (S1 : cP) : ([11, 12, 13, 14, 15] : List Nat).map (fun i => (wL cI cZ q0 q1 q2 q3 q4 q5 q6 q7 q8 S0 ++ wP cI cZ q9 q10 q11 q12 q13 q14 q15 S1 : va_W)[i]?) = (wT cI cZ q11 q12 q13 q14 q15 S1.2.1 : va_W).map some := rfl
theorem hF_T_bringBack (cI cZ cQ : ClassId) {h0 a1 a2 a3 a4 : Nat} (S0 R0 : cT) : (wT cI cZ h0 a1 a2 a3 a4 R0 : va_W).map Prod.fst = (wT cI cZ h0 a1 a2 a3 a4 S0 : va_W).map Prod.fst := rfl
theorem hU_P_judge_132 (cI cZ cQ : ClassId) (q0 q1 q2 q3 q4 q5 q6 q7 q8 q9 q10 q11 q12 q13 q14 q15 : Nat) (S0 : cL) (S1 : cP) (R0 : cT) : vz_put (wL cI cZ q0 q1 q2 q3 q4 q5 q6 q7 q8 S0 ++ wP cI cZ q9 q10 q11 q12 q13 q14 q15 S1 : va_W) [11, 12, 13, 14, 15] (wT cI cZ q11 q12 q13 q14 q15 R0 : va_W) = wL cI cZ q0 q1 q2 q3 q4 q5 q6 q7 q8 S0 ++ wP cI cZ q9 q10 q11 q12 q13 q14 q15 (S1.1, R0, S1.2.2.1, S1.2.2.2.1, S1.2.2.2.2) := (show vz_put ([(q0, .inr (1, [.ref q1, .ref q2, .ref q3, .ref q4, .ref q5, .ref q6, .ref q7, .ref q8, .int S0.2.2.2.2.2.2.2.2.1, .int S0.2.2.2.2.2.2.2.2.2])), (q1, .inl (cI, 301, .inl S0.1)), (q2, .inl (cI, 301, .inl S0.2.1)), (q3, .inl (cI, 301, .inl S0.2.2.1)), (q4, .inl (cI, 301, .inl S0.2.2.2.1)), (q5, .inl (cI, 301, .inl S0.2.2.2.2.1)), (q6, .inl (cI, 301, .inl S0.2.2.2.2.2.1)), (q7, .inl (cI, 301, .inl S0.2.2.2.2.2.2.1)), (q8, .inl (cI, 300, .inl S0.2.2.2.2.2.2.2.1)), (q9, .inr (2, [.ref q10, .ref q11, .int S1.2.2.1, .int S1.2.2.2.1, .int S1.2.2.2.2])), (q10, .inl (cI, 301, .inl S1.1)), (q11, .inr (0, [.ref q12, .ref q13, .ref q14, .ref q15, .int S1.2.1.2.2.2.2])), (q12, .inl (cZ, 40, .inl S1.2.1.1)), (q13, .inl (cI, 40, .inl S1.2.1.2.1)), (q14, .inl (cI, 40, .inl S1.2.1.2.2.1)), (q15, .inl (cI, 40, .inl S1.2.1.2.2.2.1))] : va_W) [11, 12, 13, 14, 15] ([(q11, .inr (0, [.ref q12, .ref q13, .ref q14, .ref q15, .int R0.2.2.2.2])), (q12, .inl (cZ, 40, .inl R0.1)), (q13, .inl (cI, 40, .inl R0.2.1)), (q14, .inl (cI, 40, .inl R0.2.2.1)), (q15, .inl (cI, 40, .inl R0.2.2.2.1))] : va_W) = [(q0, .inr (1, [.ref q1, .ref q2, .ref q3, .ref q4, .ref q5, .ref q6, .ref q7, .ref q8, .int S0.2.2.2.2.2.2.2.2.1, .int S0.2.2.2.2.2.2.2.2.2])), (q1, .inl (cI, 301, .inl S0.1)), (q2, .inl (cI, 301, .inl S0.2.1)), (q3, .inl (cI, 301, .inl S0.2.2.1)), (q4, .inl (cI, 301, .inl S0.2.2.2.1)), (q5, .inl (cI, 301, .inl S0.2.2.2.2.1)), (q6, .inl (cI, 301, .inl S0.2.2.2.2.2.1)), (q7, .inl (cI, 301, .inl S0.2.2.2.2.2.2.1)), (q8, .inl (cI, 300, .inl S0.2.2.2.2.2.2.2.1)), (q9, .inr (2, [.ref q10, .ref q11, .int S1.2.2.1, .int S1.2.2.2.1, .int S1.2.2.2.2])), (q10, .inl (cI, 301, .inl S1.1)), (q11, .inr (0, [.ref q12, .ref q13, .ref q14, .ref q15, .int R0.2.2.2.2])), (q12, .inl (cZ, 40, .inl R0.1)), (q13, .inl (cI, 40, .inl R0.2.1)), (q14, .inl (cI, 40, .inl R0.2.2.1)), (q15, .inl (cI, 40, .inl R0.2.2.2.1))] from rfl).trans rfl
theorem hC_P_judge_17 (cI cZ cQ : ClassId) (q0 q1 q2 q3 q4 q5 q6 q7 q8 q9 q10 q11 q12 q13 q14 q15 : Nat) (S0 : cL) (S1 : cP) : ([9, 10, 11, 12, 13, 14, 15] : List Nat).map (fun i => (wL cI cZ q0 q1 q2 q3 q4 q5 q6 q7 q8 S0 ++ wP cI cZ q9 q10 q11 q12 q13 q14 q15 S1 : va_W)[i]?) = (wP cI cZ q9 q10 q11 q12 q13 q14 q15 S1 : va_W).map some := rfl
theorem hU_P_judge_17 (cI cZ cQ : ClassId) (q0 q1 q2 q3 q4 q5 q6 q7 q8 q9 q10 q11 q12 q13 q14 q15 : Nat) (S0 : cL) (S1 : cP)  : vz_put (wL cI cZ q0 q1 q2 q3 q4 q5 q6 q7 q8 S0 ++ wP cI cZ q9 q10 q11 q12 q13 q14 q15 S1 : va_W) [9, 10, 11, 12, 13, 14, 15] (wP cI cZ q9 q10 q11 q12 q13 q14 q15 S1 : va_W) = wL cI cZ q0 q1 q2 q3 q4 q5 q6 q7 q8 S0 ++ wP cI cZ q9 q10 q11 q12 q13 q14 q15 S1 := (show vz_put ([(q0, .inr (1, [.ref q1, .ref q2, .ref q3, .ref q4, .ref q5, .ref q6, .ref q7, .ref q8, .int S0.2.2.2.2.2.2.2.2.1, .int S0.2.2.2.2.2.2.2.2.2])), (q1, .inl (cI, 301, .inl S0.1)), (q2, .inl (cI, 301, .inl S0.2.1)), (q3, .inl (cI, 301, .inl S0.2.2.1)), (q4, .inl (cI, 301, .inl S0.2.2.2.1)), (q5, .inl (cI, 301, .inl S0.2.2.2.2.1)), (q6, .inl (cI, 301, .inl S0.2.2.2.2.2.1)), (q7, .inl (cI, 301, .inl S0.2.2.2.2.2.2.1)), (q8, .inl (cI, 300, .inl S0.2.2.2.2.2.2.2.1)), (q9, .inr (2, [.ref q10, .ref q11, .int S1.2.2.1, .int S1.2.2.2.1, .int S1.2.2.2.2])), (q10, .inl (cI, 301, .inl S1.1)), (q11, .inr (0, [.ref q12, .ref q13, .ref q14, .ref q15, .int S1.2.1.2.2.2.2])), (q12, .inl (cZ, 40, .inl S1.2.1.1)), (q13, .inl (cI, 40, .inl S1.2.1.2.1)), (q14, .inl (cI, 40, .inl S1.2.1.2.2.1)), (q15, .inl (cI, 40, .inl S1.2.1.2.2.2.1))] : va_W) [9, 10, 11, 12, 13, 14, 15] ([(q9, .inr (2, [.ref q10, .ref q11, .int S1.2.2.1, .int S1.2.2.2.1, .int S1.2.2.2.2])), (q10, .inl (cI, 301, .inl S1.1)), (q11, .inr (0, [.ref q12, .ref q13, .ref q14, .ref q15, .int S1.2.1.2.2.2.2])), (q12, .inl (cZ, 40, .inl S1.2.1.1)), (q13, .inl (cI, 40, .inl S1.2.1.2.1)), (q14, .inl (cI, 40, .inl S1.2.1.2.2.1)), (q15, .inl (cI, 40, .inl S1.2.1.2.2.2.1))] : va_W) = [(q0, .inr (1, [.ref q1, .ref q2, .ref q3, .ref q4, .ref q5, .ref q6, .ref q7, .ref q8, .int S0.2.2.2.2.2.2.2.2.1, .int S0.2.2.2.2.2.2.2.2.2])), (q1, .inl (cI, 301, .inl S0.1)), (q2, .inl (cI, 301, .inl S0.2.1)), (q3, .inl (cI, 301, .inl S0.2.2.1)), (q4, .inl (cI, 301, .inl S0.2.2.2.1)), (q5, .inl (cI, 301, .inl S0.2.2.2.2.1)), (q6, .inl (cI, 301, .inl S0.2.2.2.2.2.1)), (q7, .inl (cI, 301, .inl S0.2.2.2.2.2.2.1)), (q8, .inl (cI, 300, .inl S0.2.2.2.2.2.2.2.1)), (q9, .inr (2, [.ref q10, .ref q11, .int S1.2.2.1, .int S1.2.2.2.1, .int S1.2.2.2.2])), (q10, .inl (cI, 301, .inl S1.1)), (q11, .inr (0, [.ref q12, .ref q13, .ref q14, .ref q15, .int S1.2.1.2.2.2.2])), (q12, .inl (cZ, 40, .inl S1.2.1.1)), (q13, .inl (cI, 40, .inl S1.2.1.2.1)), (q14, .inl (cI, 40, .inl S1.2.1.2.2.1)), (q15, .inl (cI, 40, .inl S1.2.1.2.2.2.1))] from rfl).trans rfl
theorem hW_P_judge_29 (cI cZ cQ : ClassId) (q0 q1 q2 q3 q4 q5 q6 q7 q8 q9 q10 q11 q12 q13 q14 q15 : Nat) (S0 : cL) (S1 : cP) (v : cA) : (wL cI cZ q0 q1 q2 q3 q4 q5 q6 q7 q8 S0 ++ wP cI cZ q9 q10 q11 q12 q13 q14 q15 S1 : va_W).set 10 (q10, .inl (cI, 301, .inl v)) = wL cI cZ q0 q1 q2 q3 q4 q5 q6 q7 q8 S0 ++ wP cI cZ q9 q10 q11 q12 q13 q14 q15 (v, S1.2.1, S1.2.2.1, S1.2.2.2.1, S1.2.2.2.2) := rfl
def m_P_judge (L : cL) (P : cP) (x2 : Int32) : cP := (if (L.1 x2.toNatClampNeg) = 4 then (if (L.1 x2.toNatClampNeg) = 0 then (if (1 : Int32) = 0 then (upd P.1 x2.toNatClampNeg 2, (m_T_bringIn P.2.1 (L.2.2.2.1 x2.toNatClampNeg)), P.2.2.1, P.2.2.2.1, P.2.2.2.2) else (upd P.1 x2.toNatClampNeg 1, (m_T_bringIn P.2.1 (L.2.2.2.1 x2.toNatClampNeg)), P.2.2.1, P.2.2.2.1, P.2.2.2.2)) else (if (L.1 x2.toNatClampNeg) = 1 then (if (m_T_moveTo P.2.1 (L.2.2.2.1 x2.toNatClampNeg) (L.2.2.2.2.1 x2.toNatClampNeg) (L.2.2.2.2.2.1 x2.toNatClampNeg)).1 = 0 then (upd P.1 x2.toNatClampNeg 2, (m_T_moveTo P.2.1 (L.2.2.2.1 x2.toNatClampNeg) (L.2.2.2.2.1 x2.toNatClampNeg) (L.2.2.2.2.2.1 x2.toNatClampNeg)).2, P.2.2.1, P.2.2.2.1, P.2.2.2.2) else (upd P.1 x2.toNatClampNeg 1, (m_T_moveTo P.2.1 (L.2.2.2.1 x2.toNatClampNeg) (L.2.2.2.2.1 x2.toNatClampNeg) (L.2.2.2.2.2.1 x2.toNatClampNeg)).2, P.2.2.1, P.2.2.2.1, P.2.2.2.2)) else (if (L.1 x2.toNatClampNeg) = 2 then (if (m_T_throwAway P.2.1 (L.2.2.2.1 x2.toNatClampNeg)).1 = 0 then (upd P.1 x2.toNatClampNeg 2, (m_T_throwAway P.2.1 (L.2.2.2.1 x2.toNatClampNeg)).2, P.2.2.1, P.2.2.2.1, P.2.2.2.2) else (upd P.1 x2.toNatClampNeg 1, (m_T_throwAway P.2.1 (L.2.2.2.1 x2.toNatClampNeg)).2, P.2.2.1, P.2.2.2.1, P.2.2.2.2)) else (if (L.1 x2.toNatClampNeg) = 3 then (if (m_T_bringBack P.2.1 (L.2.2.2.1 x2.toNatClampNeg)).1 = 0 then (upd P.1 x2.toNatClampNeg 2, (m_T_bringBack P.2.1 (L.2.2.2.1 x2.toNatClampNeg)).2, P.2.2.1, P.2.2.2.1, P.2.2.2.2) else (upd P.1 x2.toNatClampNeg 1, (m_T_bringBack P.2.1 (L.2.2.2.1 x2.toNatClampNeg)).2, P.2.2.1, P.2.2.2.1, P.2.2.2.2)) else (if (1 : Int32) = 0 then (upd P.1 x2.toNatClampNeg 2, P.2.1, P.2.2.1, P.2.2.2.1, P.2.2.2.2) else (upd P.1 x2.toNatClampNeg 1, P.2.1, P.2.2.1, P.2.2.2.1, P.2.2.2.2)))))) else (if (m_P_knows P (L.2.2.2.2.2.2.1 x2.toNatClampNeg)) = 0 then (if (L.1 x2.toNatClampNeg) = 0 then (if (1 : Int32) = 0 then (upd P.1 x2.toNatClampNeg 2, (m_T_bringIn P.2.1 (L.2.2.2.1 x2.toNatClampNeg)), P.2.2.1, P.2.2.2.1, P.2.2.2.2) else (upd P.1 x2.toNatClampNeg 1, (m_T_bringIn P.2.1 (L.2.2.2.1 x2.toNatClampNeg)), P.2.2.1, P.2.2.2.1, P.2.2.2.2)) else (if (L.1 x2.toNatClampNeg) = 1 then (if (m_T_moveTo P.2.1 (L.2.2.2.1 x2.toNatClampNeg) (L.2.2.2.2.1 x2.toNatClampNeg) (L.2.2.2.2.2.1 x2.toNatClampNeg)).1 = 0 then (upd P.1 x2.toNatClampNeg 2, (m_T_moveTo P.2.1 (L.2.2.2.1 x2.toNatClampNeg) (L.2.2.2.2.1 x2.toNatClampNeg) (L.2.2.2.2.2.1 x2.toNatClampNeg)).2, P.2.2.1, P.2.2.2.1, P.2.2.2.2) else (upd P.1 x2.toNatClampNeg 1, (m_T_moveTo P.2.1 (L.2.2.2.1 x2.toNatClampNeg) (L.2.2.2.2.1 x2.toNatClampNeg) (L.2.2.2.2.2.1 x2.toNatClampNeg)).2, P.2.2.1, P.2.2.2.1, P.2.2.2.2)) else (if (L.1 x2.toNatClampNeg) = 2 then (if (m_T_throwAway P.2.1 (L.2.2.2.1 x2.toNatClampNeg)).1 = 0 then (upd P.1 x2.toNatClampNeg 2, (m_T_throwAway P.2.1 (L.2.2.2.1 x2.toNatClampNeg)).2, P.2.2.1, P.2.2.2.1, P.2.2.2.2) else (upd P.1 x2.toNatClampNeg 1, (m_T_throwAway P.2.1 (L.2.2.2.1 x2.toNatClampNeg)).2, P.2.2.1, P.2.2.2.1, P.2.2.2.2)) else (if (L.1 x2.toNatClampNeg) = 3 then (if (m_T_bringBack P.2.1 (L.2.2.2.1 x2.toNatClampNeg)).1 = 0 then (upd P.1 x2.toNatClampNeg 2, (m_T_bringBack P.2.1 (L.2.2.2.1 x2.toNatClampNeg)).2, P.2.2.1, P.2.2.2.1, P.2.2.2.2) else (upd P.1 x2.toNatClampNeg 1, (m_T_bringBack P.2.1 (L.2.2.2.1 x2.toNatClampNeg)).2, P.2.2.1, P.2.2.2.1, P.2.2.2.2)) else (if (1 : Int32) = 0 then (upd P.1 x2.toNatClampNeg 2, P.2.1, P.2.2.1, P.2.2.2.1, P.2.2.2.2) else (upd P.1 x2.toNatClampNeg 1, P.2.1, P.2.2.1, P.2.2.2.1, P.2.2.2.2)))))) else (upd P.1 x2.toNatClampNeg 3, P.2.1, P.2.2.1, P.2.2.2.1, P.2.2.2.2)))
set_option maxHeartbeats 1000000 in
set_option maxRecDepth 100000 in
theorem c_P_judge (l : Launch) (dC : Nat → ClassId) (dI : Nat → Nat → Nat) (cI cZ cQ : ClassId) (u0 : Nat) (u1 : Nat) (u2 : Nat) (u3 : Nat) (u4 : Nat) (u5 : Nat) (u6 : Nat) (u7 : Nat) (u8 : Nat) (L : cL) (p0 : Nat) (p1 : Nat) (h0 : Nat) (a1 : Nat) (a2 : Nat) (a3 : Nat) (a4 : Nat) (P : cP) (x2 : Int32) (hok : okT P.2.1) (hrow : okR L x2) : vz_C l (dC, dI) classes [(cI, .int), (cZ, .boolean), (cQ, .object "BinTrees$Person")] y_P_judge (Cond.code y_P_judge b_P_judge 5 none :: vz_tbl) ({ frames := 3, cells := 0, slots := 0, locals := 72 }) [.ref p0, .ref u0, .int x2] (wL cI cZ u0 u1 u2 u3 u4 u5 u6 u7 u8 L ++ wP cI cZ p0 p1 h0 a1 a2 a3 a4 P) (none) (wL cI cZ u0 u1 u2 u3 u4 u5 u6 u7 u8 L ++ wP cI cZ p0 p1 h0 a1 a2 a3 a4 (m_P_judge L P x2)) := by
  generalize hres : (m_P_judge L P x2) = RES
  refine vz_C.of (by decide) (Nat.le_of_ble_eq_true rfl) ?_
  intro p e s m below meth c ls E hl hK hP hD hS
  obtain ⟨hx, hb, hr, hml, hown, hT, hlocks⟩ := E
  obtain ⟨Q, hQ⟩ : ∃ Q, Q = MQ below (vz_Q (dC, dI) classes (wL cI cZ u0 u1 u2 u3 u4 u5 u6 u7 u8 L ++ wP cI cZ p0 p1 h0 a1 a2 a3 a4 P) (none) (wL cI cZ u0 u1 u2 u3 u4 u5 u6 u7 u8 L ++ wP cI cZ p0 p1 h0 a1 a2 a3 a4 RES)) ([.ref p0, .ref u0, .int x2] : List Value).toArray s 0 0 (vz_A (wL cI cZ u0 u1 u2 u3 u4 u5 u6 u7 u8 L ++ wP cI cZ p0 p1 h0 a1 a2 a3 a4 P)) := ⟨_, rfl⟩
  rw [← hQ]
  have hl : lv_has ls 5 [(0, .ref p0), (1, .ref u0), (2, .int x2)] := hl
  have T0 := ti_0
  have T1 := ti_1
  have Tm := ti_m1
  have T8 := ti_8
  have T39 := ti_39
  have T40 := ti_40
  have T4 := ti_4
  have T300 := ti_300
  have h2 := hrow.1
  have hS0 := hS
  refine lv_aload_n hx hb d_P_judge_0 rfl (lv_at hl 1 rfl) ?_
  refine va_get (D := (dC, dI)) (ci := 1) (v := .ref u1) (C := R_L) (T := F_L) (N := 10) hx hb hT i_L hown hK hP 0 rfl rfl 0 (by decide) (hT _ kw_23) (fun _ h9 => h9) rfl d_P_judge_1 ?_
  refine lv_iload_n hx hb d_P_judge_4 rfl (lv_at hl 2 rfl) ?_
  refine va_iald hx hb hK hP 1 0 rfl rfl (ti_vp (by omega) (by omega)) d_P_judge_5 ?_
  refine lv_iconst (v := 4) hx hb d_P_judge_6 (by decide) ?_
  refine lv_icmp_eq (tgt := 31) hx hb d_P_judge_7 (by decide) (fun c_7 => ?_) (fun c_7 => ?_)
  · have z_7 := congrArg Int32.toInt c_7
    refine lv_iconst (v := 1) hx hb d_P_judge_31 (by decide) ?_
    refine lv_istore_n (lv' := [(3, .int 1), (0, .ref p0), (1, .ref u0), (2, .int x2)]) hx hb d_P_judge_32 rfl hl (by decide) rfl (fun ls hl => ?_)
    refine lv_aload_n hx hb d_P_judge_33 rfl (lv_at hl 2 rfl) ?_
    refine va_get (D := (dC, dI)) (ci := 1) (v := .ref u4) (C := R_L) (T := F_L) (N := 10) hx hb hT i_L hown hK hP 0 rfl rfl 3 (by decide) (hT _ kw_31) (fun _ h9 => h9) rfl d_P_judge_34 ?_
    refine lv_iload_n hx hb d_P_judge_37 rfl (lv_at hl 3 rfl) ?_
    refine va_iald hx hb hK hP 4 0 rfl rfl (ti_vp (by omega) (by omega)) d_P_judge_38 ?_
    refine lv_istore (lv' := [(4, .int (L.2.2.2.1 x2.toNatClampNeg)), (3, .int 1), (0, .ref p0), (1, .ref u0), (2, .int x2)]) hx hb d_P_judge_39 hl (by decide) rfl (fun ls hl => ?_)
    refine lv_aload_n hx hb d_P_judge_41 rfl (lv_at hl 3 rfl) ?_
    refine va_get (D := (dC, dI)) (ci := 1) (v := .ref u1) (C := R_L) (T := F_L) (N := 10) hx hb hT i_L hown hK hP 0 rfl rfl 0 (by decide) (hT _ kw_23) (fun _ h9 => h9) rfl d_P_judge_42 ?_
    refine lv_iload_n hx hb d_P_judge_45 rfl (lv_at hl 4 rfl) ?_
    refine va_iald hx hb hK hP 1 0 rfl rfl (ti_vp (by omega) (by omega)) d_P_judge_46 ?_
    by_cases c_47_0 : (L.1 x2.toNatClampNeg) = 0
    · refine lv_tableIn (off := 29) (tgt := 76) hx hb d_P_judge_47 (by rw [c_47_0]; decide) (by rw [c_47_0]; decide) (by rw [c_47_0]; decide) (by decide) ?_
      refine lv_aload_n hx hb d_P_judge_76 rfl (lv_at hl 2 rfl) ?_
      refine va_get (D := (dC, dI)) (ci := 2) (v := .ref h0) (C := R_P) (T := F_P) (N := 5) hx hb hT i_P hown hK hP 9 rfl rfl 1 (by decide) (hT _ kw_113) (fun _ h9 => h9) rfl d_P_judge_77 ?_
      refine lv_iload hx hb d_P_judge_80 (lv_at hl 0 rfl) ?_
      have hc := c_T_bringIn l dC dI cI cZ cQ h0 a1 a2 a3 a4 P.2.1 (L.2.2.2.1 x2.toNatClampNeg) (hok) (by have := hrow.2.2.1 (by rw [c_47_0]; decide); omega)
      generalize hg_82 : (m_T_bringIn P.2.1 (L.2.2.2.1 x2.toNatClampNeg)) = g_82 at hc
      refine vz_callV (As := [.int (L.2.2.2.1 x2.toNatClampNeg)]) (rest := []) ⟨hx, hb, hml, hown, hT⟩ hc (vz_goodV kw_185 kw_186 kw_187 kw_4 kw_188) ⟨rfl, hd_T_bringIn⟩ ⟨⟨rfl, rfl⟩, Nat.le_of_ble_eq_true rfl, Nat.le_of_ble_eq_true rfl⟩ hK hP hD hS [11, 12, 13, 14, 15] rfl (hC_P_judge_82 cI cZ cQ u0 u1 u2 u3 u4 u5 u6 u7 u8 p0 p1 h0 a1 a2 a3 a4 L P) (hF_T_bringIn cI cZ cQ _ _) 0 0 rfl rfl rfl rfl hl.1 rfl (Nat.le_of_ble_eq_true rfl) ⟨Nat.zero_le _, Nat.zero_le _⟩ d_P_judge_82 (fun H locs hP hD hS => ?_)
      have hP : va_P (dC, dI) classes (wL cI cZ u0 u1 u2 u3 u4 u5 u6 u7 u8 L ++ wP cI cZ p0 p1 h0 a1 a2 a3 a4 (P.1, g_82, P.2.2.1, P.2.2.2.1, P.2.2.2.2)) H := vz_reP (hU_P_judge_82 cI cZ cQ u0 u1 u2 u3 u4 u5 u6 u7 u8 p0 p1 h0 a1 a2 a3 a4 L P g_82) hP
      have hD : va_D (vz_A (wL cI cZ u0 u1 u2 u3 u4 u5 u6 u7 u8 L ++ wP cI cZ p0 p1 h0 a1 a2 a3 a4 P)) (wL cI cZ u0 u1 u2 u3 u4 u5 u6 u7 u8 L ++ wP cI cZ p0 p1 h0 a1 a2 a3 a4 (P.1, g_82, P.2.2.1, P.2.2.2.1, P.2.2.2.2)) := vz_reD (hU_P_judge_82 cI cZ cQ u0 u1 u2 u3 u4 u5 u6 u7 u8 p0 p1 h0 a1 a2 a3 a4 L P g_82) hD
      refine W.eq (g2 := F0 m 85 ls []) rfl ?_
      refine lv_goto (tgt := 139) hx hb d_P_judge_85 (by decide) ?_
      refine lv_aload_n hx hb d_P_judge_139 rfl (lv_at hl 2 rfl) ?_
      refine va_get (D := (dC, dI)) (ci := 2) (v := .ref p1) (C := R_P) (T := F_P) (N := 5) hx hb hT i_P hown hK hP 9 rfl rfl 0 (by decide) (hT _ kw_111) (fun _ h9 => h9) rfl d_P_judge_140 ?_
      refine lv_iload_n hx hb d_P_judge_143 rfl (lv_at hl 4 rfl) ?_
      refine lv_iload_n hx hb d_P_judge_144 rfl (lv_at hl 1 rfl) ?_
      refine lv_if_eq (tgt := 152) hx hb d_P_judge_145 (by decide) (fun c_145 => ?_) (fun c_145 => ?_)
      · have z_145 := congrArg Int32.toInt c_145
        refine lv_iconst (v := 2) hx hb d_P_judge_152 (by decide) ?_
        refine va_iast hx hb hK hP hD hS 10 0 rfl rfl (ti_vp (by omega) (by omega)) d_P_judge_153 (fun H locs hP hD hS => ?_)
        have hP : va_P (dC, dI) classes (wL cI cZ u0 u1 u2 u3 u4 u5 u6 u7 u8 L ++ wP cI cZ p0 p1 h0 a1 a2 a3 a4 (upd P.1 x2.toNatClampNeg 2, g_82, P.2.2.1, P.2.2.2.1, P.2.2.2.2)) H := vz_reP (hW_P_judge_153 cI cZ cQ u0 u1 u2 u3 u4 u5 u6 u7 u8 p0 p1 h0 a1 a2 a3 a4 L (P.1, g_82, P.2.2.1, P.2.2.2.1, P.2.2.2.2) (upd P.1 x2.toNatClampNeg 2)) hP
        have hD : va_D (vz_A (wL cI cZ u0 u1 u2 u3 u4 u5 u6 u7 u8 L ++ wP cI cZ p0 p1 h0 a1 a2 a3 a4 P)) (wL cI cZ u0 u1 u2 u3 u4 u5 u6 u7 u8 L ++ wP cI cZ p0 p1 h0 a1 a2 a3 a4 (upd P.1 x2.toNatClampNeg 2, g_82, P.2.2.1, P.2.2.2.1, P.2.2.2.2)) := vz_reD (hW_P_judge_153 cI cZ cQ u0 u1 u2 u3 u4 u5 u6 u7 u8 p0 p1 h0 a1 a2 a3 a4 L (P.1, g_82, P.2.2.1, P.2.2.2.1, P.2.2.2.2) (upd P.1 x2.toNatClampNeg 2)) hD
        rw [m_P_judge, if_pos c_7, if_pos c_47_0] at hres
        try rw [hg_82] at hres
        rw [if_pos c_145] at hres
        subst hres
        subst hQ
        exact vz_vret hx hb hr hlocks d_P_judge_154 hS rfl hP
      · have z_145 := mt Int32.toInt_inj.mp c_145
        refine lv_iconst (v := 1) hx hb d_P_judge_148 (by decide) ?_
        refine lv_goto (tgt := 153) hx hb d_P_judge_149 (by decide) ?_
        refine va_iast hx hb hK hP hD hS 10 0 rfl rfl (ti_vp (by omega) (by omega)) d_P_judge_153 (fun H locs hP hD hS => ?_)
        have hP : va_P (dC, dI) classes (wL cI cZ u0 u1 u2 u3 u4 u5 u6 u7 u8 L ++ wP cI cZ p0 p1 h0 a1 a2 a3 a4 (upd P.1 x2.toNatClampNeg 1, g_82, P.2.2.1, P.2.2.2.1, P.2.2.2.2)) H := vz_reP (hW_P_judge_153 cI cZ cQ u0 u1 u2 u3 u4 u5 u6 u7 u8 p0 p1 h0 a1 a2 a3 a4 L (P.1, g_82, P.2.2.1, P.2.2.2.1, P.2.2.2.2) (upd P.1 x2.toNatClampNeg 1)) hP
        have hD : va_D (vz_A (wL cI cZ u0 u1 u2 u3 u4 u5 u6 u7 u8 L ++ wP cI cZ p0 p1 h0 a1 a2 a3 a4 P)) (wL cI cZ u0 u1 u2 u3 u4 u5 u6 u7 u8 L ++ wP cI cZ p0 p1 h0 a1 a2 a3 a4 (upd P.1 x2.toNatClampNeg 1, g_82, P.2.2.1, P.2.2.2.1, P.2.2.2.2)) := vz_reD (hW_P_judge_153 cI cZ cQ u0 u1 u2 u3 u4 u5 u6 u7 u8 p0 p1 h0 a1 a2 a3 a4 L (P.1, g_82, P.2.2.1, P.2.2.2.1, P.2.2.2.2) (upd P.1 x2.toNatClampNeg 1)) hD
        rw [m_P_judge, if_pos c_7, if_pos c_47_0] at hres
        try rw [hg_82] at hres
        rw [if_neg c_145] at hres
        subst hres
        subst hQ
        exact vz_vret hx hb hr hlocks d_P_judge_154 hS rfl hP
    · by_cases c_47_1 : (L.1 x2.toNatClampNeg) = 1
      · refine lv_tableIn (off := 41) (tgt := 88) hx hb d_P_judge_47 (by rw [c_47_1]; decide) (by rw [c_47_1]; decide) (by rw [c_47_1]; decide) (by decide) ?_
        refine lv_aload_n hx hb d_P_judge_88 rfl (lv_at hl 2 rfl) ?_
        refine va_get (D := (dC, dI)) (ci := 2) (v := .ref h0) (C := R_P) (T := F_P) (N := 5) hx hb hT i_P hown hK hP 9 rfl rfl 1 (by decide) (hT _ kw_113) (fun _ h9 => h9) rfl d_P_judge_89 ?_
        refine lv_iload hx hb d_P_judge_92 (lv_at hl 0 rfl) ?_
        refine lv_aload_n hx hb d_P_judge_94 rfl (lv_at hl 3 rfl) ?_
        refine va_get (D := (dC, dI)) (ci := 1) (v := .ref u5) (C := R_L) (T := F_L) (N := 10) hx hb hT i_L hown hK hP 0 rfl rfl 4 (by decide) (hT _ kw_34) (fun _ h9 => h9) rfl d_P_judge_95 ?_
        refine lv_iload_n hx hb d_P_judge_98 rfl (lv_at hl 4 rfl) ?_
        refine va_iald hx hb hK hP 5 0 rfl rfl (ti_vp (by omega) (by omega)) d_P_judge_99 ?_
        refine lv_aload_n hx hb d_P_judge_100 rfl (lv_at hl 3 rfl) ?_
        refine va_get (D := (dC, dI)) (ci := 1) (v := .ref u6) (C := R_L) (T := F_L) (N := 10) hx hb hT i_L hown hK hP 0 rfl rfl 5 (by decide) (hT _ kw_37) (fun _ h9 => h9) rfl d_P_judge_101 ?_
        refine lv_iload_n hx hb d_P_judge_104 rfl (lv_at hl 4 rfl) ?_
        refine va_iald hx hb hK hP 6 0 rfl rfl (ti_vp (by omega) (by omega)) d_P_judge_105 ?_
        have hc := c_T_moveTo l dC dI cI cZ cQ h0 a1 a2 a3 a4 P.2.1 (L.2.2.2.1 x2.toNatClampNeg) (L.2.2.2.2.1 x2.toNatClampNeg) (L.2.2.2.2.2.1 x2.toNatClampNeg) (hok) (by have := hrow.2.2.1 (by rw [c_47_1]; decide); omega) (hrow.2.2.2.1 c_47_1)
        generalize hg_106 : (m_T_moveTo P.2.1 (L.2.2.2.1 x2.toNatClampNeg) (L.2.2.2.2.1 x2.toNatClampNeg) (L.2.2.2.2.2.1 x2.toNatClampNeg)) = g_106 at hc
        refine vz_callV (As := [.int (L.2.2.2.1 x2.toNatClampNeg), .int (L.2.2.2.2.1 x2.toNatClampNeg), .int (L.2.2.2.2.2.1 x2.toNatClampNeg)]) (rest := []) ⟨hx, hb, hml, hown, hT⟩ hc (vz_goodV kw_193 kw_194 kw_195 kw_4 kw_196) ⟨rfl, hd_T_moveTo⟩ ⟨⟨rfl, rfl⟩, Nat.le_of_ble_eq_true rfl, Nat.le_of_ble_eq_true rfl⟩ hK hP hD hS [11, 12, 13, 14, 15] rfl (hC_P_judge_106 cI cZ cQ u0 u1 u2 u3 u4 u5 u6 u7 u8 p0 p1 h0 a1 a2 a3 a4 L P) (hF_T_moveTo cI cZ cQ _ _) 0 0 rfl rfl rfl rfl hl.1 rfl (Nat.le_of_ble_eq_true rfl) ⟨Nat.zero_le _, Nat.zero_le _⟩ d_P_judge_106 (fun H locs hP hD hS => ?_)
        have hP : va_P (dC, dI) classes (wL cI cZ u0 u1 u2 u3 u4 u5 u6 u7 u8 L ++ wP cI cZ p0 p1 h0 a1 a2 a3 a4 (P.1, g_106.2, P.2.2.1, P.2.2.2.1, P.2.2.2.2)) H := vz_reP (hU_P_judge_106 cI cZ cQ u0 u1 u2 u3 u4 u5 u6 u7 u8 p0 p1 h0 a1 a2 a3 a4 L P g_106.2) hP
        have hD : va_D (vz_A (wL cI cZ u0 u1 u2 u3 u4 u5 u6 u7 u8 L ++ wP cI cZ p0 p1 h0 a1 a2 a3 a4 P)) (wL cI cZ u0 u1 u2 u3 u4 u5 u6 u7 u8 L ++ wP cI cZ p0 p1 h0 a1 a2 a3 a4 (P.1, g_106.2, P.2.2.1, P.2.2.2.1, P.2.2.2.2)) := vz_reD (hU_P_judge_106 cI cZ cQ u0 u1 u2 u3 u4 u5 u6 u7 u8 p0 p1 h0 a1 a2 a3 a4 L P g_106.2) hD
        refine W.eq (g2 := F0 m 109 ls [.int g_106.1]) rfl ?_
        refine lv_istore_n (lv' := [(3, .int g_106.1), (4, .int (L.2.2.2.1 x2.toNatClampNeg)), (0, .ref p0), (1, .ref u0), (2, .int x2)]) hx hb d_P_judge_109 rfl hl (by decide) rfl (fun ls hl => ?_)
        refine lv_goto (tgt := 139) hx hb d_P_judge_110 (by decide) ?_
        refine lv_aload_n hx hb d_P_judge_139 rfl (lv_at hl 2 rfl) ?_
        refine va_get (D := (dC, dI)) (ci := 2) (v := .ref p1) (C := R_P) (T := F_P) (N := 5) hx hb hT i_P hown hK hP 9 rfl rfl 0 (by decide) (hT _ kw_111) (fun _ h9 => h9) rfl d_P_judge_140 ?_
        refine lv_iload_n hx hb d_P_judge_143 rfl (lv_at hl 4 rfl) ?_
        refine lv_iload_n hx hb d_P_judge_144 rfl (lv_at hl 0 rfl) ?_
        refine lv_if_eq (tgt := 152) hx hb d_P_judge_145 (by decide) (fun c_145 => ?_) (fun c_145 => ?_)
        · have z_145 := congrArg Int32.toInt c_145
          refine lv_iconst (v := 2) hx hb d_P_judge_152 (by decide) ?_
          refine va_iast hx hb hK hP hD hS 10 0 rfl rfl (ti_vp (by omega) (by omega)) d_P_judge_153 (fun H locs hP hD hS => ?_)
          have hP : va_P (dC, dI) classes (wL cI cZ u0 u1 u2 u3 u4 u5 u6 u7 u8 L ++ wP cI cZ p0 p1 h0 a1 a2 a3 a4 (upd P.1 x2.toNatClampNeg 2, g_106.2, P.2.2.1, P.2.2.2.1, P.2.2.2.2)) H := vz_reP (hW_P_judge_153 cI cZ cQ u0 u1 u2 u3 u4 u5 u6 u7 u8 p0 p1 h0 a1 a2 a3 a4 L (P.1, g_106.2, P.2.2.1, P.2.2.2.1, P.2.2.2.2) (upd P.1 x2.toNatClampNeg 2)) hP
          have hD : va_D (vz_A (wL cI cZ u0 u1 u2 u3 u4 u5 u6 u7 u8 L ++ wP cI cZ p0 p1 h0 a1 a2 a3 a4 P)) (wL cI cZ u0 u1 u2 u3 u4 u5 u6 u7 u8 L ++ wP cI cZ p0 p1 h0 a1 a2 a3 a4 (upd P.1 x2.toNatClampNeg 2, g_106.2, P.2.2.1, P.2.2.2.1, P.2.2.2.2)) := vz_reD (hW_P_judge_153 cI cZ cQ u0 u1 u2 u3 u4 u5 u6 u7 u8 p0 p1 h0 a1 a2 a3 a4 L (P.1, g_106.2, P.2.2.1, P.2.2.2.1, P.2.2.2.2) (upd P.1 x2.toNatClampNeg 2)) hD
          rw [m_P_judge, if_pos c_7, if_neg c_47_0, if_pos c_47_1] at hres
          try rw [hg_106] at hres
          rw [if_pos c_145] at hres
          subst hres
          subst hQ
          exact vz_vret hx hb hr hlocks d_P_judge_154 hS rfl hP
        · have z_145 := mt Int32.toInt_inj.mp c_145
          refine lv_iconst (v := 1) hx hb d_P_judge_148 (by decide) ?_
          refine lv_goto (tgt := 153) hx hb d_P_judge_149 (by decide) ?_
          refine va_iast hx hb hK hP hD hS 10 0 rfl rfl (ti_vp (by omega) (by omega)) d_P_judge_153 (fun H locs hP hD hS => ?_)
          have hP : va_P (dC, dI) classes (wL cI cZ u0 u1 u2 u3 u4 u5 u6 u7 u8 L ++ wP cI cZ p0 p1 h0 a1 a2 a3 a4 (upd P.1 x2.toNatClampNeg 1, g_106.2, P.2.2.1, P.2.2.2.1, P.2.2.2.2)) H := vz_reP (hW_P_judge_153 cI cZ cQ u0 u1 u2 u3 u4 u5 u6 u7 u8 p0 p1 h0 a1 a2 a3 a4 L (P.1, g_106.2, P.2.2.1, P.2.2.2.1, P.2.2.2.2) (upd P.1 x2.toNatClampNeg 1)) hP
          have hD : va_D (vz_A (wL cI cZ u0 u1 u2 u3 u4 u5 u6 u7 u8 L ++ wP cI cZ p0 p1 h0 a1 a2 a3 a4 P)) (wL cI cZ u0 u1 u2 u3 u4 u5 u6 u7 u8 L ++ wP cI cZ p0 p1 h0 a1 a2 a3 a4 (upd P.1 x2.toNatClampNeg 1, g_106.2, P.2.2.1, P.2.2.2.1, P.2.2.2.2)) := vz_reD (hW_P_judge_153 cI cZ cQ u0 u1 u2 u3 u4 u5 u6 u7 u8 p0 p1 h0 a1 a2 a3 a4 L (P.1, g_106.2, P.2.2.1, P.2.2.2.1, P.2.2.2.2) (upd P.1 x2.toNatClampNeg 1)) hD
          rw [m_P_judge, if_pos c_7, if_neg c_47_0, if_pos c_47_1] at hres
          try rw [hg_106] at hres
          rw [if_neg c_145] at hres
          subst hres
          subst hQ
          exact vz_vret hx hb hr hlocks d_P_judge_154 hS rfl hP
      · by_cases c_47_2 : (L.1 x2.toNatClampNeg) = 2
        · refine lv_tableIn (off := 66) (tgt := 113) hx hb d_P_judge_47 (by rw [c_47_2]; decide) (by rw [c_47_2]; decide) (by rw [c_47_2]; decide) (by decide) ?_
          refine lv_aload_n hx hb d_P_judge_113 rfl (lv_at hl 2 rfl) ?_
          refine va_get (D := (dC, dI)) (ci := 2) (v := .ref h0) (C := R_P) (T := F_P) (N := 5) hx hb hT i_P hown hK hP 9 rfl rfl 1 (by decide) (hT _ kw_113) (fun _ h9 => h9) rfl d_P_judge_114 ?_
          refine lv_iload hx hb d_P_judge_117 (lv_at hl 0 rfl) ?_
          have hc := c_T_throwAway l dC dI cI cZ cQ h0 a1 a2 a3 a4 P.2.1 (L.2.2.2.1 x2.toNatClampNeg) (hok) (by have := hrow.2.2.1 (by rw [c_47_2]; decide); omega)
          generalize hg_119 : (m_T_throwAway P.2.1 (L.2.2.2.1 x2.toNatClampNeg)) = g_119 at hc
          refine vz_callV (As := [.int (L.2.2.2.1 x2.toNatClampNeg)]) (rest := []) ⟨hx, hb, hml, hown, hT⟩ hc (vz_goodV kw_213 kw_214 kw_215 kw_4 kw_216) ⟨rfl, hd_T_throwAway⟩ ⟨⟨rfl, rfl⟩, Nat.le_of_ble_eq_true rfl, Nat.le_of_ble_eq_true rfl⟩ hK hP hD hS [11, 12, 13, 14, 15] rfl (hC_P_judge_119 cI cZ cQ u0 u1 u2 u3 u4 u5 u6 u7 u8 p0 p1 h0 a1 a2 a3 a4 L P) (hF_T_throwAway cI cZ cQ _ _) 0 0 rfl rfl rfl rfl hl.1 rfl (Nat.le_of_ble_eq_true rfl) ⟨Nat.zero_le _, Nat.zero_le _⟩ d_P_judge_119 (fun H locs hP hD hS => ?_)
          have hP : va_P (dC, dI) classes (wL cI cZ u0 u1 u2 u3 u4 u5 u6 u7 u8 L ++ wP cI cZ p0 p1 h0 a1 a2 a3 a4 (P.1, g_119.2, P.2.2.1, P.2.2.2.1, P.2.2.2.2)) H := vz_reP (hU_P_judge_119 cI cZ cQ u0 u1 u2 u3 u4 u5 u6 u7 u8 p0 p1 h0 a1 a2 a3 a4 L P g_119.2) hP
          have hD : va_D (vz_A (wL cI cZ u0 u1 u2 u3 u4 u5 u6 u7 u8 L ++ wP cI cZ p0 p1 h0 a1 a2 a3 a4 P)) (wL cI cZ u0 u1 u2 u3 u4 u5 u6 u7 u8 L ++ wP cI cZ p0 p1 h0 a1 a2 a3 a4 (P.1, g_119.2, P.2.2.1, P.2.2.2.1, P.2.2.2.2)) := vz_reD (hU_P_judge_119 cI cZ cQ u0 u1 u2 u3 u4 u5 u6 u7 u8 p0 p1 h0 a1 a2 a3 a4 L P g_119.2) hD
          refine W.eq (g2 := F0 m 122 ls [.int g_119.1]) rfl ?_
          refine lv_istore_n (lv' := [(3, .int g_119.1), (4, .int (L.2.2.2.1 x2.toNatClampNeg)), (0, .ref p0), (1, .ref u0), (2, .int x2)]) hx hb d_P_judge_122 rfl hl (by decide) rfl (fun ls hl => ?_)
          refine lv_goto (tgt := 139) hx hb d_P_judge_123 (by decide) ?_
          refine lv_aload_n hx hb d_P_judge_139 rfl (lv_at hl 2 rfl) ?_
          refine va_get (D := (dC, dI)) (ci := 2) (v := .ref p1) (C := R_P) (T := F_P) (N := 5) hx hb hT i_P hown hK hP 9 rfl rfl 0 (by decide) (hT _ kw_111) (fun _ h9 => h9) rfl d_P_judge_140 ?_
          refine lv_iload_n hx hb d_P_judge_143 rfl (lv_at hl 4 rfl) ?_
          refine lv_iload_n hx hb d_P_judge_144 rfl (lv_at hl 0 rfl) ?_
          refine lv_if_eq (tgt := 152) hx hb d_P_judge_145 (by decide) (fun c_145 => ?_) (fun c_145 => ?_)
          · have z_145 := congrArg Int32.toInt c_145
            refine lv_iconst (v := 2) hx hb d_P_judge_152 (by decide) ?_
            refine va_iast hx hb hK hP hD hS 10 0 rfl rfl (ti_vp (by omega) (by omega)) d_P_judge_153 (fun H locs hP hD hS => ?_)
            have hP : va_P (dC, dI) classes (wL cI cZ u0 u1 u2 u3 u4 u5 u6 u7 u8 L ++ wP cI cZ p0 p1 h0 a1 a2 a3 a4 (upd P.1 x2.toNatClampNeg 2, g_119.2, P.2.2.1, P.2.2.2.1, P.2.2.2.2)) H := vz_reP (hW_P_judge_153 cI cZ cQ u0 u1 u2 u3 u4 u5 u6 u7 u8 p0 p1 h0 a1 a2 a3 a4 L (P.1, g_119.2, P.2.2.1, P.2.2.2.1, P.2.2.2.2) (upd P.1 x2.toNatClampNeg 2)) hP
            have hD : va_D (vz_A (wL cI cZ u0 u1 u2 u3 u4 u5 u6 u7 u8 L ++ wP cI cZ p0 p1 h0 a1 a2 a3 a4 P)) (wL cI cZ u0 u1 u2 u3 u4 u5 u6 u7 u8 L ++ wP cI cZ p0 p1 h0 a1 a2 a3 a4 (upd P.1 x2.toNatClampNeg 2, g_119.2, P.2.2.1, P.2.2.2.1, P.2.2.2.2)) := vz_reD (hW_P_judge_153 cI cZ cQ u0 u1 u2 u3 u4 u5 u6 u7 u8 p0 p1 h0 a1 a2 a3 a4 L (P.1, g_119.2, P.2.2.1, P.2.2.2.1, P.2.2.2.2) (upd P.1 x2.toNatClampNeg 2)) hD
            rw [m_P_judge, if_pos c_7, if_neg c_47_0, if_neg c_47_1, if_pos c_47_2] at hres
            try rw [hg_119] at hres
            rw [if_pos c_145] at hres
            subst hres
            subst hQ
            exact vz_vret hx hb hr hlocks d_P_judge_154 hS rfl hP
          · have z_145 := mt Int32.toInt_inj.mp c_145
            refine lv_iconst (v := 1) hx hb d_P_judge_148 (by decide) ?_
            refine lv_goto (tgt := 153) hx hb d_P_judge_149 (by decide) ?_
            refine va_iast hx hb hK hP hD hS 10 0 rfl rfl (ti_vp (by omega) (by omega)) d_P_judge_153 (fun H locs hP hD hS => ?_)
            have hP : va_P (dC, dI) classes (wL cI cZ u0 u1 u2 u3 u4 u5 u6 u7 u8 L ++ wP cI cZ p0 p1 h0 a1 a2 a3 a4 (upd P.1 x2.toNatClampNeg 1, g_119.2, P.2.2.1, P.2.2.2.1, P.2.2.2.2)) H := vz_reP (hW_P_judge_153 cI cZ cQ u0 u1 u2 u3 u4 u5 u6 u7 u8 p0 p1 h0 a1 a2 a3 a4 L (P.1, g_119.2, P.2.2.1, P.2.2.2.1, P.2.2.2.2) (upd P.1 x2.toNatClampNeg 1)) hP
            have hD : va_D (vz_A (wL cI cZ u0 u1 u2 u3 u4 u5 u6 u7 u8 L ++ wP cI cZ p0 p1 h0 a1 a2 a3 a4 P)) (wL cI cZ u0 u1 u2 u3 u4 u5 u6 u7 u8 L ++ wP cI cZ p0 p1 h0 a1 a2 a3 a4 (upd P.1 x2.toNatClampNeg 1, g_119.2, P.2.2.1, P.2.2.2.1, P.2.2.2.2)) := vz_reD (hW_P_judge_153 cI cZ cQ u0 u1 u2 u3 u4 u5 u6 u7 u8 p0 p1 h0 a1 a2 a3 a4 L (P.1, g_119.2, P.2.2.1, P.2.2.2.1, P.2.2.2.2) (upd P.1 x2.toNatClampNeg 1)) hD
            rw [m_P_judge, if_pos c_7, if_neg c_47_0, if_neg c_47_1, if_pos c_47_2] at hres
            try rw [hg_119] at hres
            rw [if_neg c_145] at hres
            subst hres
            subst hQ
            exact vz_vret hx hb hr hlocks d_P_judge_154 hS rfl hP
        · by_cases c_47_3 : (L.1 x2.toNatClampNeg) = 3
          · refine lv_tableIn (off := 79) (tgt := 126) hx hb d_P_judge_47 (by rw [c_47_3]; decide) (by rw [c_47_3]; decide) (by rw [c_47_3]; decide) (by decide) ?_
            refine lv_aload_n hx hb d_P_judge_126 rfl (lv_at hl 2 rfl) ?_
            refine va_get (D := (dC, dI)) (ci := 2) (v := .ref h0) (C := R_P) (T := F_P) (N := 5) hx hb hT i_P hown hK hP 9 rfl rfl 1 (by decide) (hT _ kw_113) (fun _ h9 => h9) rfl d_P_judge_127 ?_
            refine lv_iload hx hb d_P_judge_130 (lv_at hl 0 rfl) ?_
            have hc := c_T_bringBack l dC dI cI cZ cQ h0 a1 a2 a3 a4 P.2.1 (L.2.2.2.1 x2.toNatClampNeg) (hok) (by have := hrow.2.2.1 (by rw [c_47_3]; decide); omega)
            generalize hg_132 : (m_T_bringBack P.2.1 (L.2.2.2.1 x2.toNatClampNeg)) = g_132 at hc
            refine vz_callV (As := [.int (L.2.2.2.1 x2.toNatClampNeg)]) (rest := []) ⟨hx, hb, hml, hown, hT⟩ hc (vz_goodV kw_217 kw_218 kw_219 kw_4 kw_220) ⟨rfl, hd_T_bringBack⟩ ⟨⟨rfl, rfl⟩, Nat.le_of_ble_eq_true rfl, Nat.le_of_ble_eq_true rfl⟩ hK hP hD hS [11, 12, 13, 14, 15] rfl (hC_P_judge_132 cI cZ cQ u0 u1 u2 u3 u4 u5 u6 u7 u8 p0 p1 h0 a1 a2 a3 a4 L P) (hF_T_bringBack cI cZ cQ _ _) 0 0 rfl rfl rfl rfl hl.1 rfl (Nat.le_of_ble_eq_true rfl) ⟨Nat.zero_le _, Nat.zero_le _⟩ d_P_judge_132 (fun H locs hP hD hS => ?_)
            have hP : va_P (dC, dI) classes (wL cI cZ u0 u1 u2 u3 u4 u5 u6 u7 u8 L ++ wP cI cZ p0 p1 h0 a1 a2 a3 a4 (P.1, g_132.2, P.2.2.1, P.2.2.2.1, P.2.2.2.2)) H := vz_reP (hU_P_judge_132 cI cZ cQ u0 u1 u2 u3 u4 u5 u6 u7 u8 p0 p1 h0 a1 a2 a3 a4 L P g_132.2) hP
            have hD : va_D (vz_A (wL cI cZ u0 u1 u2 u3 u4 u5 u6 u7 u8 L ++ wP cI cZ p0 p1 h0 a1 a2 a3 a4 P)) (wL cI cZ u0 u1 u2 u3 u4 u5 u6 u7 u8 L ++ wP cI cZ p0 p1 h0 a1 a2 a3 a4 (P.1, g_132.2, P.2.2.1, P.2.2.2.1, P.2.2.2.2)) := vz_reD (hU_P_judge_132 cI cZ cQ u0 u1 u2 u3 u4 u5 u6 u7 u8 p0 p1 h0 a1 a2 a3 a4 L P g_132.2) hD
            refine W.eq (g2 := F0 m 135 ls [.int g_132.1]) rfl ?_
            refine lv_istore_n (lv' := [(3, .int g_132.1), (4, .int (L.2.2.2.1 x2.toNatClampNeg)), (0, .ref p0), (1, .ref u0), (2, .int x2)]) hx hb d_P_judge_135 rfl hl (by decide) rfl (fun ls hl => ?_)
            refine lv_goto (tgt := 139) hx hb d_P_judge_136 (by decide) ?_
            refine lv_aload_n hx hb d_P_judge_139 rfl (lv_at hl 2 rfl) ?_
            refine va_get (D := (dC, dI)) (ci := 2) (v := .ref p1) (C := R_P) (T := F_P) (N := 5) hx hb hT i_P hown hK hP 9 rfl rfl 0 (by decide) (hT _ kw_111) (fun _ h9 => h9) rfl d_P_judge_140 ?_
            refine lv_iload_n hx hb d_P_judge_143 rfl (lv_at hl 4 rfl) ?_
            refine lv_iload_n hx hb d_P_judge_144 rfl (lv_at hl 0 rfl) ?_
            refine lv_if_eq (tgt := 152) hx hb d_P_judge_145 (by decide) (fun c_145 => ?_) (fun c_145 => ?_)
            · have z_145 := congrArg Int32.toInt c_145
              refine lv_iconst (v := 2) hx hb d_P_judge_152 (by decide) ?_
              refine va_iast hx hb hK hP hD hS 10 0 rfl rfl (ti_vp (by omega) (by omega)) d_P_judge_153 (fun H locs hP hD hS => ?_)
              have hP : va_P (dC, dI) classes (wL cI cZ u0 u1 u2 u3 u4 u5 u6 u7 u8 L ++ wP cI cZ p0 p1 h0 a1 a2 a3 a4 (upd P.1 x2.toNatClampNeg 2, g_132.2, P.2.2.1, P.2.2.2.1, P.2.2.2.2)) H := vz_reP (hW_P_judge_153 cI cZ cQ u0 u1 u2 u3 u4 u5 u6 u7 u8 p0 p1 h0 a1 a2 a3 a4 L (P.1, g_132.2, P.2.2.1, P.2.2.2.1, P.2.2.2.2) (upd P.1 x2.toNatClampNeg 2)) hP
              have hD : va_D (vz_A (wL cI cZ u0 u1 u2 u3 u4 u5 u6 u7 u8 L ++ wP cI cZ p0 p1 h0 a1 a2 a3 a4 P)) (wL cI cZ u0 u1 u2 u3 u4 u5 u6 u7 u8 L ++ wP cI cZ p0 p1 h0 a1 a2 a3 a4 (upd P.1 x2.toNatClampNeg 2, g_132.2, P.2.2.1, P.2.2.2.1, P.2.2.2.2)) := vz_reD (hW_P_judge_153 cI cZ cQ u0 u1 u2 u3 u4 u5 u6 u7 u8 p0 p1 h0 a1 a2 a3 a4 L (P.1, g_132.2, P.2.2.1, P.2.2.2.1, P.2.2.2.2) (upd P.1 x2.toNatClampNeg 2)) hD
              rw [m_P_judge, if_pos c_7, if_neg c_47_0, if_neg c_47_1, if_neg c_47_2, if_pos c_47_3] at hres
              try rw [hg_132] at hres
              rw [if_pos c_145] at hres
              subst hres
              subst hQ
              exact vz_vret hx hb hr hlocks d_P_judge_154 hS rfl hP
            · have z_145 := mt Int32.toInt_inj.mp c_145
              refine lv_iconst (v := 1) hx hb d_P_judge_148 (by decide) ?_
              refine lv_goto (tgt := 153) hx hb d_P_judge_149 (by decide) ?_
              refine va_iast hx hb hK hP hD hS 10 0 rfl rfl (ti_vp (by omega) (by omega)) d_P_judge_153 (fun H locs hP hD hS => ?_)
              have hP : va_P (dC, dI) classes (wL cI cZ u0 u1 u2 u3 u4 u5 u6 u7 u8 L ++ wP cI cZ p0 p1 h0 a1 a2 a3 a4 (upd P.1 x2.toNatClampNeg 1, g_132.2, P.2.2.1, P.2.2.2.1, P.2.2.2.2)) H := vz_reP (hW_P_judge_153 cI cZ cQ u0 u1 u2 u3 u4 u5 u6 u7 u8 p0 p1 h0 a1 a2 a3 a4 L (P.1, g_132.2, P.2.2.1, P.2.2.2.1, P.2.2.2.2) (upd P.1 x2.toNatClampNeg 1)) hP
              have hD : va_D (vz_A (wL cI cZ u0 u1 u2 u3 u4 u5 u6 u7 u8 L ++ wP cI cZ p0 p1 h0 a1 a2 a3 a4 P)) (wL cI cZ u0 u1 u2 u3 u4 u5 u6 u7 u8 L ++ wP cI cZ p0 p1 h0 a1 a2 a3 a4 (upd P.1 x2.toNatClampNeg 1, g_132.2, P.2.2.1, P.2.2.2.1, P.2.2.2.2)) := vz_reD (hW_P_judge_153 cI cZ cQ u0 u1 u2 u3 u4 u5 u6 u7 u8 p0 p1 h0 a1 a2 a3 a4 L (P.1, g_132.2, P.2.2.1, P.2.2.2.1, P.2.2.2.2) (upd P.1 x2.toNatClampNeg 1)) hD
              rw [m_P_judge, if_pos c_7, if_neg c_47_0, if_neg c_47_1, if_neg c_47_2, if_pos c_47_3] at hres
              try rw [hg_132] at hres
              rw [if_neg c_145] at hres
              subst hres
              subst hQ
              exact vz_vret hx hb hr hlocks d_P_judge_154 hS rfl hP
          · refine lv_tableOut (tgt := 139) hx hb d_P_judge_47 (by have h0 := lv_neT c_47_0 (by decide : (0 : Int32).toInt = 0); have h1 := lv_neT c_47_1 (by decide : (1 : Int32).toInt = 1); have h2 := lv_neT c_47_2 (by decide : (2 : Int32).toInt = 2); have h3 := lv_neT c_47_3 (by decide : (3 : Int32).toInt = 3); omega) (by decide) ?_
            refine lv_aload_n hx hb d_P_judge_139 rfl (lv_at hl 2 rfl) ?_
            refine va_get (D := (dC, dI)) (ci := 2) (v := .ref p1) (C := R_P) (T := F_P) (N := 5) hx hb hT i_P hown hK hP 9 rfl rfl 0 (by decide) (hT _ kw_111) (fun _ h9 => h9) rfl d_P_judge_140 ?_
            refine lv_iload_n hx hb d_P_judge_143 rfl (lv_at hl 4 rfl) ?_
            refine lv_iload_n hx hb d_P_judge_144 rfl (lv_at hl 1 rfl) ?_
            refine lv_if_eq (tgt := 152) hx hb d_P_judge_145 (by decide) (fun c_145 => ?_) (fun c_145 => ?_)
            · have z_145 := congrArg Int32.toInt c_145
              refine lv_iconst (v := 2) hx hb d_P_judge_152 (by decide) ?_
              refine va_iast hx hb hK hP hD hS 10 0 rfl rfl (ti_vp (by omega) (by omega)) d_P_judge_153 (fun H locs hP hD hS => ?_)
              have hP : va_P (dC, dI) classes (wL cI cZ u0 u1 u2 u3 u4 u5 u6 u7 u8 L ++ wP cI cZ p0 p1 h0 a1 a2 a3 a4 (upd P.1 x2.toNatClampNeg 2, P.2.1, P.2.2.1, P.2.2.2.1, P.2.2.2.2)) H := vz_reP (hW_P_judge_153 cI cZ cQ u0 u1 u2 u3 u4 u5 u6 u7 u8 p0 p1 h0 a1 a2 a3 a4 L P (upd P.1 x2.toNatClampNeg 2)) hP
              have hD : va_D (vz_A (wL cI cZ u0 u1 u2 u3 u4 u5 u6 u7 u8 L ++ wP cI cZ p0 p1 h0 a1 a2 a3 a4 P)) (wL cI cZ u0 u1 u2 u3 u4 u5 u6 u7 u8 L ++ wP cI cZ p0 p1 h0 a1 a2 a3 a4 (upd P.1 x2.toNatClampNeg 2, P.2.1, P.2.2.1, P.2.2.2.1, P.2.2.2.2)) := vz_reD (hW_P_judge_153 cI cZ cQ u0 u1 u2 u3 u4 u5 u6 u7 u8 p0 p1 h0 a1 a2 a3 a4 L P (upd P.1 x2.toNatClampNeg 2)) hD
              rw [m_P_judge, if_pos c_7, if_neg c_47_0, if_neg c_47_1, if_neg c_47_2, if_neg c_47_3, if_pos c_145] at hres
              subst hres
              subst hQ
              exact vz_vret hx hb hr hlocks d_P_judge_154 hS rfl hP
            · have z_145 := mt Int32.toInt_inj.mp c_145
              refine lv_iconst (v := 1) hx hb d_P_judge_148 (by decide) ?_
              refine lv_goto (tgt := 153) hx hb d_P_judge_149 (by decide) ?_
              refine va_iast hx hb hK hP hD hS 10 0 rfl rfl (ti_vp (by omega) (by omega)) d_P_judge_153 (fun H locs hP hD hS => ?_)
              have hP : va_P (dC, dI) classes (wL cI cZ u0 u1 u2 u3 u4 u5 u6 u7 u8 L ++ wP cI cZ p0 p1 h0 a1 a2 a3 a4 (upd P.1 x2.toNatClampNeg 1, P.2.1, P.2.2.1, P.2.2.2.1, P.2.2.2.2)) H := vz_reP (hW_P_judge_153 cI cZ cQ u0 u1 u2 u3 u4 u5 u6 u7 u8 p0 p1 h0 a1 a2 a3 a4 L P (upd P.1 x2.toNatClampNeg 1)) hP
              have hD : va_D (vz_A (wL cI cZ u0 u1 u2 u3 u4 u5 u6 u7 u8 L ++ wP cI cZ p0 p1 h0 a1 a2 a3 a4 P)) (wL cI cZ u0 u1 u2 u3 u4 u5 u6 u7 u8 L ++ wP cI cZ p0 p1 h0 a1 a2 a3 a4 (upd P.1 x2.toNatClampNeg 1, P.2.1, P.2.2.1, P.2.2.2.1, P.2.2.2.2)) := vz_reD (hW_P_judge_153 cI cZ cQ u0 u1 u2 u3 u4 u5 u6 u7 u8 p0 p1 h0 a1 a2 a3 a4 L P (upd P.1 x2.toNatClampNeg 1)) hD
              rw [m_P_judge, if_pos c_7, if_neg c_47_0, if_neg c_47_1, if_neg c_47_2, if_neg c_47_3, if_neg c_145] at hres
              subst hres
              subst hQ
              exact vz_vret hx hb hr hlocks d_P_judge_154 hS rfl hP
  · have z_7 := mt Int32.toInt_inj.mp c_7
    refine lv_aload_n hx hb d_P_judge_10 rfl (lv_at hl 0 rfl) ?_
    refine lv_aload_n hx hb d_P_judge_11 rfl (lv_at hl 1 rfl) ?_
    refine va_get (D := (dC, dI)) (ci := 1) (v := .ref u7) (C := R_L) (T := F_L) (N := 10) hx hb hT i_L hown hK hP 0 rfl rfl 6 (by decide) (hT _ kw_40) (fun _ h9 => h9) rfl d_P_judge_12 ?_
    refine lv_iload_n hx hb d_P_judge_15 rfl (lv_at hl 2 rfl) ?_
    refine va_iald hx hb hK hP 7 0 rfl rfl (ti_vp (by omega) (by omega)) d_P_judge_16 ?_
    have hc := c_P_knows l dC dI cI cZ cQ p0 p1 h0 a1 a2 a3 a4 P (L.2.2.2.2.2.2.1 x2.toNatClampNeg) (hrow.2.1)
    generalize hg_17 : (m_P_knows P (L.2.2.2.2.2.2.1 x2.toNatClampNeg)) = g_17 at hc
    refine vz_callV (As := [.int (L.2.2.2.2.2.2.1 x2.toNatClampNeg)]) (rest := []) ⟨hx, hb, hml, hown, hT⟩ hc (vz_goodV kw_177 kw_178 kw_179 kw_3 kw_180) ⟨rfl, hd_P_knows⟩ ⟨⟨rfl, rfl⟩, Nat.le_of_ble_eq_true rfl, Nat.le_of_ble_eq_true rfl⟩ hK hP hD hS [9, 10, 11, 12, 13, 14, 15] rfl (hC_P_judge_17 cI cZ cQ u0 u1 u2 u3 u4 u5 u6 u7 u8 p0 p1 h0 a1 a2 a3 a4 L P) (hF_P_knows cI cZ cQ _ _) 0 2 rfl rfl rfl rfl hl.1 rfl (Nat.le_of_ble_eq_true rfl) ⟨Nat.zero_le _, Nat.zero_le _⟩ d_P_judge_17 (fun H locs hP hD hS => ?_)
    have hP : va_P (dC, dI) classes (wL cI cZ u0 u1 u2 u3 u4 u5 u6 u7 u8 L ++ wP cI cZ p0 p1 h0 a1 a2 a3 a4 P) H := vz_reP (hU_P_judge_17 cI cZ cQ u0 u1 u2 u3 u4 u5 u6 u7 u8 p0 p1 h0 a1 a2 a3 a4 L P ) hP
    have hD : va_D (vz_A (wL cI cZ u0 u1 u2 u3 u4 u5 u6 u7 u8 L ++ wP cI cZ p0 p1 h0 a1 a2 a3 a4 P)) (wL cI cZ u0 u1 u2 u3 u4 u5 u6 u7 u8 L ++ wP cI cZ p0 p1 h0 a1 a2 a3 a4 P) := vz_reD (hU_P_judge_17 cI cZ cQ u0 u1 u2 u3 u4 u5 u6 u7 u8 p0 p1 h0 a1 a2 a3 a4 L P ) hD
    refine W.eq (g2 := F0 m 20 ls [.int g_17]) rfl ?_
    refine lv_if_eq (tgt := 31) hx hb d_P_judge_20 (by decide) (fun c_20 => ?_) (fun c_20 => ?_)
    · have z_20 := congrArg Int32.toInt c_20
      refine lv_iconst (v := 1) hx hb d_P_judge_31 (by decide) ?_
      refine lv_istore_n (lv' := [(3, .int 1), (0, .ref p0), (1, .ref u0), (2, .int x2)]) hx hb d_P_judge_32 rfl hl (by decide) rfl (fun ls hl => ?_)
      refine lv_aload_n hx hb d_P_judge_33 rfl (lv_at hl 2 rfl) ?_
      refine va_get (D := (dC, dI)) (ci := 1) (v := .ref u4) (C := R_L) (T := F_L) (N := 10) hx hb hT i_L hown hK hP 0 rfl rfl 3 (by decide) (hT _ kw_31) (fun _ h9 => h9) rfl d_P_judge_34 ?_
      refine lv_iload_n hx hb d_P_judge_37 rfl (lv_at hl 3 rfl) ?_
      refine va_iald hx hb hK hP 4 0 rfl rfl (ti_vp (by omega) (by omega)) d_P_judge_38 ?_
      refine lv_istore (lv' := [(4, .int (L.2.2.2.1 x2.toNatClampNeg)), (3, .int 1), (0, .ref p0), (1, .ref u0), (2, .int x2)]) hx hb d_P_judge_39 hl (by decide) rfl (fun ls hl => ?_)
      refine lv_aload_n hx hb d_P_judge_41 rfl (lv_at hl 3 rfl) ?_
      refine va_get (D := (dC, dI)) (ci := 1) (v := .ref u1) (C := R_L) (T := F_L) (N := 10) hx hb hT i_L hown hK hP 0 rfl rfl 0 (by decide) (hT _ kw_23) (fun _ h9 => h9) rfl d_P_judge_42 ?_
      refine lv_iload_n hx hb d_P_judge_45 rfl (lv_at hl 4 rfl) ?_
      refine va_iald hx hb hK hP 1 0 rfl rfl (ti_vp (by omega) (by omega)) d_P_judge_46 ?_
      by_cases c_47_0 : (L.1 x2.toNatClampNeg) = 0
      · refine lv_tableIn (off := 29) (tgt := 76) hx hb d_P_judge_47 (by rw [c_47_0]; decide) (by rw [c_47_0]; decide) (by rw [c_47_0]; decide) (by decide) ?_
        refine lv_aload_n hx hb d_P_judge_76 rfl (lv_at hl 2 rfl) ?_
        refine va_get (D := (dC, dI)) (ci := 2) (v := .ref h0) (C := R_P) (T := F_P) (N := 5) hx hb hT i_P hown hK hP 9 rfl rfl 1 (by decide) (hT _ kw_113) (fun _ h9 => h9) rfl d_P_judge_77 ?_
        refine lv_iload hx hb d_P_judge_80 (lv_at hl 0 rfl) ?_
        have hc := c_T_bringIn l dC dI cI cZ cQ h0 a1 a2 a3 a4 P.2.1 (L.2.2.2.1 x2.toNatClampNeg) (hok) (by have := hrow.2.2.1 (by rw [c_47_0]; decide); omega)
        generalize hg_82 : (m_T_bringIn P.2.1 (L.2.2.2.1 x2.toNatClampNeg)) = g_82 at hc
        refine vz_callV (As := [.int (L.2.2.2.1 x2.toNatClampNeg)]) (rest := []) ⟨hx, hb, hml, hown, hT⟩ hc (vz_goodV kw_185 kw_186 kw_187 kw_4 kw_188) ⟨rfl, hd_T_bringIn⟩ ⟨⟨rfl, rfl⟩, Nat.le_of_ble_eq_true rfl, Nat.le_of_ble_eq_true rfl⟩ hK hP hD hS [11, 12, 13, 14, 15] rfl (hC_P_judge_82 cI cZ cQ u0 u1 u2 u3 u4 u5 u6 u7 u8 p0 p1 h0 a1 a2 a3 a4 L P) (hF_T_bringIn cI cZ cQ _ _) 0 0 rfl rfl rfl rfl hl.1 rfl (Nat.le_of_ble_eq_true rfl) ⟨Nat.zero_le _, Nat.zero_le _⟩ d_P_judge_82 (fun H locs hP hD hS => ?_)
        have hP : va_P (dC, dI) classes (wL cI cZ u0 u1 u2 u3 u4 u5 u6 u7 u8 L ++ wP cI cZ p0 p1 h0 a1 a2 a3 a4 (P.1, g_82, P.2.2.1, P.2.2.2.1, P.2.2.2.2)) H := vz_reP (hU_P_judge_82 cI cZ cQ u0 u1 u2 u3 u4 u5 u6 u7 u8 p0 p1 h0 a1 a2 a3 a4 L P g_82) hP
        have hD : va_D (vz_A (wL cI cZ u0 u1 u2 u3 u4 u5 u6 u7 u8 L ++ wP cI cZ p0 p1 h0 a1 a2 a3 a4 P)) (wL cI cZ u0 u1 u2 u3 u4 u5 u6 u7 u8 L ++ wP cI cZ p0 p1 h0 a1 a2 a3 a4 (P.1, g_82, P.2.2.1, P.2.2.2.1, P.2.2.2.2)) := vz_reD (hU_P_judge_82 cI cZ cQ u0 u1 u2 u3 u4 u5 u6 u7 u8 p0 p1 h0 a1 a2 a3 a4 L P g_82) hD
        refine W.eq (g2 := F0 m 85 ls []) rfl ?_
        refine lv_goto (tgt := 139) hx hb d_P_judge_85 (by decide) ?_
        refine lv_aload_n hx hb d_P_judge_139 rfl (lv_at hl 2 rfl) ?_
        refine va_get (D := (dC, dI)) (ci := 2) (v := .ref p1) (C := R_P) (T := F_P) (N := 5) hx hb hT i_P hown hK hP 9 rfl rfl 0 (by decide) (hT _ kw_111) (fun _ h9 => h9) rfl d_P_judge_140 ?_
        refine lv_iload_n hx hb d_P_judge_143 rfl (lv_at hl 4 rfl) ?_
        refine lv_iload_n hx hb d_P_judge_144 rfl (lv_at hl 1 rfl) ?_
        refine lv_if_eq (tgt := 152) hx hb d_P_judge_145 (by decide) (fun c_145 => ?_) (fun c_145 => ?_)
        · have z_145 := congrArg Int32.toInt c_145
          refine lv_iconst (v := 2) hx hb d_P_judge_152 (by decide) ?_
          refine va_iast hx hb hK hP hD hS 10 0 rfl rfl (ti_vp (by omega) (by omega)) d_P_judge_153 (fun H locs hP hD hS => ?_)
          have hP : va_P (dC, dI) classes (wL cI cZ u0 u1 u2 u3 u4 u5 u6 u7 u8 L ++ wP cI cZ p0 p1 h0 a1 a2 a3 a4 (upd P.1 x2.toNatClampNeg 2, g_82, P.2.2.1, P.2.2.2.1, P.2.2.2.2)) H := vz_reP (hW_P_judge_153 cI cZ cQ u0 u1 u2 u3 u4 u5 u6 u7 u8 p0 p1 h0 a1 a2 a3 a4 L (P.1, g_82, P.2.2.1, P.2.2.2.1, P.2.2.2.2) (upd P.1 x2.toNatClampNeg 2)) hP
          have hD : va_D (vz_A (wL cI cZ u0 u1 u2 u3 u4 u5 u6 u7 u8 L ++ wP cI cZ p0 p1 h0 a1 a2 a3 a4 P)) (wL cI cZ u0 u1 u2 u3 u4 u5 u6 u7 u8 L ++ wP cI cZ p0 p1 h0 a1 a2 a3 a4 (upd P.1 x2.toNatClampNeg 2, g_82, P.2.2.1, P.2.2.2.1, P.2.2.2.2)) := vz_reD (hW_P_judge_153 cI cZ cQ u0 u1 u2 u3 u4 u5 u6 u7 u8 p0 p1 h0 a1 a2 a3 a4 L (P.1, g_82, P.2.2.1, P.2.2.2.1, P.2.2.2.2) (upd P.1 x2.toNatClampNeg 2)) hD
          rw [m_P_judge, if_neg c_7] at hres
          try rw [hg_17] at hres
          rw [if_pos c_20, if_pos c_47_0] at hres
          try rw [hg_82] at hres
          rw [if_pos c_145] at hres
          subst hres
          subst hQ
          exact vz_vret hx hb hr hlocks d_P_judge_154 hS rfl hP
        · have z_145 := mt Int32.toInt_inj.mp c_145
          refine lv_iconst (v := 1) hx hb d_P_judge_148 (by decide) ?_
          refine lv_goto (tgt := 153) hx hb d_P_judge_149 (by decide) ?_
          refine va_iast hx hb hK hP hD hS 10 0 rfl rfl (ti_vp (by omega) (by omega)) d_P_judge_153 (fun H locs hP hD hS => ?_)
          have hP : va_P (dC, dI) classes (wL cI cZ u0 u1 u2 u3 u4 u5 u6 u7 u8 L ++ wP cI cZ p0 p1 h0 a1 a2 a3 a4 (upd P.1 x2.toNatClampNeg 1, g_82, P.2.2.1, P.2.2.2.1, P.2.2.2.2)) H := vz_reP (hW_P_judge_153 cI cZ cQ u0 u1 u2 u3 u4 u5 u6 u7 u8 p0 p1 h0 a1 a2 a3 a4 L (P.1, g_82, P.2.2.1, P.2.2.2.1, P.2.2.2.2) (upd P.1 x2.toNatClampNeg 1)) hP
          have hD : va_D (vz_A (wL cI cZ u0 u1 u2 u3 u4 u5 u6 u7 u8 L ++ wP cI cZ p0 p1 h0 a1 a2 a3 a4 P)) (wL cI cZ u0 u1 u2 u3 u4 u5 u6 u7 u8 L ++ wP cI cZ p0 p1 h0 a1 a2 a3 a4 (upd P.1 x2.toNatClampNeg 1, g_82, P.2.2.1, P.2.2.2.1, P.2.2.2.2)) := vz_reD (hW_P_judge_153 cI cZ cQ u0 u1 u2 u3 u4 u5 u6 u7 u8 p0 p1 h0 a1 a2 a3 a4 L (P.1, g_82, P.2.2.1, P.2.2.2.1, P.2.2.2.2) (upd P.1 x2.toNatClampNeg 1)) hD
          rw [m_P_judge, if_neg c_7] at hres
          try rw [hg_17] at hres
          rw [if_pos c_20, if_pos c_47_0] at hres
          try rw [hg_82] at hres
          rw [if_neg c_145] at hres
          subst hres
          subst hQ
          exact vz_vret hx hb hr hlocks d_P_judge_154 hS rfl hP
      · by_cases c_47_1 : (L.1 x2.toNatClampNeg) = 1
        · refine lv_tableIn (off := 41) (tgt := 88) hx hb d_P_judge_47 (by rw [c_47_1]; decide) (by rw [c_47_1]; decide) (by rw [c_47_1]; decide) (by decide) ?_
          refine lv_aload_n hx hb d_P_judge_88 rfl (lv_at hl 2 rfl) ?_
          refine va_get (D := (dC, dI)) (ci := 2) (v := .ref h0) (C := R_P) (T := F_P) (N := 5) hx hb hT i_P hown hK hP 9 rfl rfl 1 (by decide) (hT _ kw_113) (fun _ h9 => h9) rfl d_P_judge_89 ?_
          refine lv_iload hx hb d_P_judge_92 (lv_at hl 0 rfl) ?_
          refine lv_aload_n hx hb d_P_judge_94 rfl (lv_at hl 3 rfl) ?_
          refine va_get (D := (dC, dI)) (ci := 1) (v := .ref u5) (C := R_L) (T := F_L) (N := 10) hx hb hT i_L hown hK hP 0 rfl rfl 4 (by decide) (hT _ kw_34) (fun _ h9 => h9) rfl d_P_judge_95 ?_
          refine lv_iload_n hx hb d_P_judge_98 rfl (lv_at hl 4 rfl) ?_
          refine va_iald hx hb hK hP 5 0 rfl rfl (ti_vp (by omega) (by omega)) d_P_judge_99 ?_
          refine lv_aload_n hx hb d_P_judge_100 rfl (lv_at hl 3 rfl) ?_
          refine va_get (D := (dC, dI)) (ci := 1) (v := .ref u6) (C := R_L) (T := F_L) (N := 10) hx hb hT i_L hown hK hP 0 rfl rfl 5 (by decide) (hT _ kw_37) (fun _ h9 => h9) rfl d_P_judge_101 ?_
          refine lv_iload_n hx hb d_P_judge_104 rfl (lv_at hl 4 rfl) ?_
          refine va_iald hx hb hK hP 6 0 rfl rfl (ti_vp (by omega) (by omega)) d_P_judge_105 ?_
          have hc := c_T_moveTo l dC dI cI cZ cQ h0 a1 a2 a3 a4 P.2.1 (L.2.2.2.1 x2.toNatClampNeg) (L.2.2.2.2.1 x2.toNatClampNeg) (L.2.2.2.2.2.1 x2.toNatClampNeg) (hok) (by have := hrow.2.2.1 (by rw [c_47_1]; decide); omega) (hrow.2.2.2.1 c_47_1)
          generalize hg_106 : (m_T_moveTo P.2.1 (L.2.2.2.1 x2.toNatClampNeg) (L.2.2.2.2.1 x2.toNatClampNeg) (L.2.2.2.2.2.1 x2.toNatClampNeg)) = g_106 at hc
          refine vz_callV (As := [.int (L.2.2.2.1 x2.toNatClampNeg), .int (L.2.2.2.2.1 x2.toNatClampNeg), .int (L.2.2.2.2.2.1 x2.toNatClampNeg)]) (rest := []) ⟨hx, hb, hml, hown, hT⟩ hc (vz_goodV kw_193 kw_194 kw_195 kw_4 kw_196) ⟨rfl, hd_T_moveTo⟩ ⟨⟨rfl, rfl⟩, Nat.le_of_ble_eq_true rfl, Nat.le_of_ble_eq_true rfl⟩ hK hP hD hS [11, 12, 13, 14, 15] rfl (hC_P_judge_106 cI cZ cQ u0 u1 u2 u3 u4 u5 u6 u7 u8 p0 p1 h0 a1 a2 a3 a4 L P) (hF_T_moveTo cI cZ cQ _ _) 0 0 rfl rfl rfl rfl hl.1 rfl (Nat.le_of_ble_eq_true rfl) ⟨Nat.zero_le _, Nat.zero_le _⟩ d_P_judge_106 (fun H locs hP hD hS => ?_)
          have hP : va_P (dC, dI) classes (wL cI cZ u0 u1 u2 u3 u4 u5 u6 u7 u8 L ++ wP cI cZ p0 p1 h0 a1 a2 a3 a4 (P.1, g_106.2, P.2.2.1, P.2.2.2.1, P.2.2.2.2)) H := vz_reP (hU_P_judge_106 cI cZ cQ u0 u1 u2 u3 u4 u5 u6 u7 u8 p0 p1 h0 a1 a2 a3 a4 L P g_106.2) hP
          have hD : va_D (vz_A (wL cI cZ u0 u1 u2 u3 u4 u5 u6 u7 u8 L ++ wP cI cZ p0 p1 h0 a1 a2 a3 a4 P)) (wL cI cZ u0 u1 u2 u3 u4 u5 u6 u7 u8 L ++ wP cI cZ p0 p1 h0 a1 a2 a3 a4 (P.1, g_106.2, P.2.2.1, P.2.2.2.1, P.2.2.2.2)) := vz_reD (hU_P_judge_106 cI cZ cQ u0 u1 u2 u3 u4 u5 u6 u7 u8 p0 p1 h0 a1 a2 a3 a4 L P g_106.2) hD
          refine W.eq (g2 := F0 m 109 ls [.int g_106.1]) rfl ?_
          refine lv_istore_n (lv' := [(3, .int g_106.1), (4, .int (L.2.2.2.1 x2.toNatClampNeg)), (0, .ref p0), (1, .ref u0), (2, .int x2)]) hx hb d_P_judge_109 rfl hl (by decide) rfl (fun ls hl => ?_)
          refine lv_goto (tgt := 139) hx hb d_P_judge_110 (by decide) ?_
          refine lv_aload_n hx hb d_P_judge_139 rfl (lv_at hl 2 rfl) ?_
          refine va_get (D := (dC, dI)) (ci := 2) (v := .ref p1) (C := R_P) (T := F_P) (N := 5) hx hb hT i_P hown hK hP 9 rfl rfl 0 (by decide) (hT _ kw_111) (fun _ h9 => h9) rfl d_P_judge_140 ?_
          refine lv_iload_n hx hb d_P_judge_143 rfl (lv_at hl 4 rfl) ?_
          refine lv_iload_n hx hb d_P_judge_144 rfl (lv_at hl 0 rfl) ?_
          refine lv_if_eq (tgt := 152) hx hb d_P_judge_145 (by decide) (fun c_145 => ?_) (fun c_145 => ?_)
          · have z_145 := congrArg Int32.toInt c_145
            refine lv_iconst (v := 2) hx hb d_P_judge_152 (by decide) ?_
            refine va_iast hx hb hK hP hD hS 10 0 rfl rfl (ti_vp (by omega) (by omega)) d_P_judge_153 (fun H locs hP hD hS => ?_)
            have hP : va_P (dC, dI) classes (wL cI cZ u0 u1 u2 u3 u4 u5 u6 u7 u8 L ++ wP cI cZ p0 p1 h0 a1 a2 a3 a4 (upd P.1 x2.toNatClampNeg 2, g_106.2, P.2.2.1, P.2.2.2.1, P.2.2.2.2)) H := vz_reP (hW_P_judge_153 cI cZ cQ u0 u1 u2 u3 u4 u5 u6 u7 u8 p0 p1 h0 a1 a2 a3 a4 L (P.1, g_106.2, P.2.2.1, P.2.2.2.1, P.2.2.2.2) (upd P.1 x2.toNatClampNeg 2)) hP
            have hD : va_D (vz_A (wL cI cZ u0 u1 u2 u3 u4 u5 u6 u7 u8 L ++ wP cI cZ p0 p1 h0 a1 a2 a3 a4 P)) (wL cI cZ u0 u1 u2 u3 u4 u5 u6 u7 u8 L ++ wP cI cZ p0 p1 h0 a1 a2 a3 a4 (upd P.1 x2.toNatClampNeg 2, g_106.2, P.2.2.1, P.2.2.2.1, P.2.2.2.2)) := vz_reD (hW_P_judge_153 cI cZ cQ u0 u1 u2 u3 u4 u5 u6 u7 u8 p0 p1 h0 a1 a2 a3 a4 L (P.1, g_106.2, P.2.2.1, P.2.2.2.1, P.2.2.2.2) (upd P.1 x2.toNatClampNeg 2)) hD
            rw [m_P_judge, if_neg c_7] at hres
            try rw [hg_17] at hres
            rw [if_pos c_20, if_neg c_47_0, if_pos c_47_1] at hres
            try rw [hg_106] at hres
            rw [if_pos c_145] at hres
            subst hres
            subst hQ
            exact vz_vret hx hb hr hlocks d_P_judge_154 hS rfl hP
          · have z_145 := mt Int32.toInt_inj.mp c_145
            refine lv_iconst (v := 1) hx hb d_P_judge_148 (by decide) ?_
            refine lv_goto (tgt := 153) hx hb d_P_judge_149 (by decide) ?_
            refine va_iast hx hb hK hP hD hS 10 0 rfl rfl (ti_vp (by omega) (by omega)) d_P_judge_153 (fun H locs hP hD hS => ?_)
            have hP : va_P (dC, dI) classes (wL cI cZ u0 u1 u2 u3 u4 u5 u6 u7 u8 L ++ wP cI cZ p0 p1 h0 a1 a2 a3 a4 (upd P.1 x2.toNatClampNeg 1, g_106.2, P.2.2.1, P.2.2.2.1, P.2.2.2.2)) H := vz_reP (hW_P_judge_153 cI cZ cQ u0 u1 u2 u3 u4 u5 u6 u7 u8 p0 p1 h0 a1 a2 a3 a4 L (P.1, g_106.2, P.2.2.1, P.2.2.2.1, P.2.2.2.2) (upd P.1 x2.toNatClampNeg 1)) hP
            have hD : va_D (vz_A (wL cI cZ u0 u1 u2 u3 u4 u5 u6 u7 u8 L ++ wP cI cZ p0 p1 h0 a1 a2 a3 a4 P)) (wL cI cZ u0 u1 u2 u3 u4 u5 u6 u7 u8 L ++ wP cI cZ p0 p1 h0 a1 a2 a3 a4 (upd P.1 x2.toNatClampNeg 1, g_106.2, P.2.2.1, P.2.2.2.1, P.2.2.2.2)) := vz_reD (hW_P_judge_153 cI cZ cQ u0 u1 u2 u3 u4 u5 u6 u7 u8 p0 p1 h0 a1 a2 a3 a4 L (P.1, g_106.2, P.2.2.1, P.2.2.2.1, P.2.2.2.2) (upd P.1 x2.toNatClampNeg 1)) hD
            rw [m_P_judge, if_neg c_7] at hres
            try rw [hg_17] at hres
            rw [if_pos c_20, if_neg c_47_0, if_pos c_47_1] at hres
            try rw [hg_106] at hres
            rw [if_neg c_145] at hres
            subst hres
            subst hQ
            exact vz_vret hx hb hr hlocks d_P_judge_154 hS rfl hP
        · by_cases c_47_2 : (L.1 x2.toNatClampNeg) = 2
          · refine lv_tableIn (off := 66) (tgt := 113) hx hb d_P_judge_47 (by rw [c_47_2]; decide) (by rw [c_47_2]; decide) (by rw [c_47_2]; decide) (by decide) ?_
            refine lv_aload_n hx hb d_P_judge_113 rfl (lv_at hl 2 rfl) ?_
            refine va_get (D := (dC, dI)) (ci := 2) (v := .ref h0) (C := R_P) (T := F_P) (N := 5) hx hb hT i_P hown hK hP 9 rfl rfl 1 (by decide) (hT _ kw_113) (fun _ h9 => h9) rfl d_P_judge_114 ?_
            refine lv_iload hx hb d_P_judge_117 (lv_at hl 0 rfl) ?_
            have hc := c_T_throwAway l dC dI cI cZ cQ h0 a1 a2 a3 a4 P.2.1 (L.2.2.2.1 x2.toNatClampNeg) (hok) (by have := hrow.2.2.1 (by rw [c_47_2]; decide); omega)
            generalize hg_119 : (m_T_throwAway P.2.1 (L.2.2.2.1 x2.toNatClampNeg)) = g_119 at hc
            refine vz_callV (As := [.int (L.2.2.2.1 x2.toNatClampNeg)]) (rest := []) ⟨hx, hb, hml, hown, hT⟩ hc (vz_goodV kw_213 kw_214 kw_215 kw_4 kw_216) ⟨rfl, hd_T_throwAway⟩ ⟨⟨rfl, rfl⟩, Nat.le_of_ble_eq_true rfl, Nat.le_of_ble_eq_true rfl⟩ hK hP hD hS [11, 12, 13, 14, 15] rfl (hC_P_judge_119 cI cZ cQ u0 u1 u2 u3 u4 u5 u6 u7 u8 p0 p1 h0 a1 a2 a3 a4 L P) (hF_T_throwAway cI cZ cQ _ _) 0 0 rfl rfl rfl rfl hl.1 rfl (Nat.le_of_ble_eq_true rfl) ⟨Nat.zero_le _, Nat.zero_le _⟩ d_P_judge_119 (fun H locs hP hD hS => ?_)
            have hP : va_P (dC, dI) classes (wL cI cZ u0 u1 u2 u3 u4 u5 u6 u7 u8 L ++ wP cI cZ p0 p1 h0 a1 a2 a3 a4 (P.1, g_119.2, P.2.2.1, P.2.2.2.1, P.2.2.2.2)) H := vz_reP (hU_P_judge_119 cI cZ cQ u0 u1 u2 u3 u4 u5 u6 u7 u8 p0 p1 h0 a1 a2 a3 a4 L P g_119.2) hP
            have hD : va_D (vz_A (wL cI cZ u0 u1 u2 u3 u4 u5 u6 u7 u8 L ++ wP cI cZ p0 p1 h0 a1 a2 a3 a4 P)) (wL cI cZ u0 u1 u2 u3 u4 u5 u6 u7 u8 L ++ wP cI cZ p0 p1 h0 a1 a2 a3 a4 (P.1, g_119.2, P.2.2.1, P.2.2.2.1, P.2.2.2.2)) := vz_reD (hU_P_judge_119 cI cZ cQ u0 u1 u2 u3 u4 u5 u6 u7 u8 p0 p1 h0 a1 a2 a3 a4 L P g_119.2) hD
            refine W.eq (g2 := F0 m 122 ls [.int g_119.1]) rfl ?_
            refine lv_istore_n (lv' := [(3, .int g_119.1), (4, .int (L.2.2.2.1 x2.toNatClampNeg)), (0, .ref p0), (1, .ref u0), (2, .int x2)]) hx hb d_P_judge_122 rfl hl (by decide) rfl (fun ls hl => ?_)
            refine lv_goto (tgt := 139) hx hb d_P_judge_123 (by decide) ?_
            refine lv_aload_n hx hb d_P_judge_139 rfl (lv_at hl 2 rfl) ?_
            refine va_get (D := (dC, dI)) (ci := 2) (v := .ref p1) (C := R_P) (T := F_P) (N := 5) hx hb hT i_P hown hK hP 9 rfl rfl 0 (by decide) (hT _ kw_111) (fun _ h9 => h9) rfl d_P_judge_140 ?_
            refine lv_iload_n hx hb d_P_judge_143 rfl (lv_at hl 4 rfl) ?_
            refine lv_iload_n hx hb d_P_judge_144 rfl (lv_at hl 0 rfl) ?_
            refine lv_if_eq (tgt := 152) hx hb d_P_judge_145 (by decide) (fun c_145 => ?_) (fun c_145 => ?_)
            · have z_145 := congrArg Int32.toInt c_145
              refine lv_iconst (v := 2) hx hb d_P_judge_152 (by decide) ?_
              refine va_iast hx hb hK hP hD hS 10 0 rfl rfl (ti_vp (by omega) (by omega)) d_P_judge_153 (fun H locs hP hD hS => ?_)
              have hP : va_P (dC, dI) classes (wL cI cZ u0 u1 u2 u3 u4 u5 u6 u7 u8 L ++ wP cI cZ p0 p1 h0 a1 a2 a3 a4 (upd P.1 x2.toNatClampNeg 2, g_119.2, P.2.2.1, P.2.2.2.1, P.2.2.2.2)) H := vz_reP (hW_P_judge_153 cI cZ cQ u0 u1 u2 u3 u4 u5 u6 u7 u8 p0 p1 h0 a1 a2 a3 a4 L (P.1, g_119.2, P.2.2.1, P.2.2.2.1, P.2.2.2.2) (upd P.1 x2.toNatClampNeg 2)) hP
              have hD : va_D (vz_A (wL cI cZ u0 u1 u2 u3 u4 u5 u6 u7 u8 L ++ wP cI cZ p0 p1 h0 a1 a2 a3 a4 P)) (wL cI cZ u0 u1 u2 u3 u4 u5 u6 u7 u8 L ++ wP cI cZ p0 p1 h0 a1 a2 a3 a4 (upd P.1 x2.toNatClampNeg 2, g_119.2, P.2.2.1, P.2.2.2.1, P.2.2.2.2)) := vz_reD (hW_P_judge_153 cI cZ cQ u0 u1 u2 u3 u4 u5 u6 u7 u8 p0 p1 h0 a1 a2 a3 a4 L (P.1, g_119.2, P.2.2.1, P.2.2.2.1, P.2.2.2.2) (upd P.1 x2.toNatClampNeg 2)) hD
              rw [m_P_judge, if_neg c_7] at hres
              try rw [hg_17] at hres
              rw [if_pos c_20, if_neg c_47_0, if_neg c_47_1, if_pos c_47_2] at hres
              try rw [hg_119] at hres
              rw [if_pos c_145] at hres
              subst hres
              subst hQ
              exact vz_vret hx hb hr hlocks d_P_judge_154 hS rfl hP
            · have z_145 := mt Int32.toInt_inj.mp c_145
              refine lv_iconst (v := 1) hx hb d_P_judge_148 (by decide) ?_
              refine lv_goto (tgt := 153) hx hb d_P_judge_149 (by decide) ?_
              refine va_iast hx hb hK hP hD hS 10 0 rfl rfl (ti_vp (by omega) (by omega)) d_P_judge_153 (fun H locs hP hD hS => ?_)
              have hP : va_P (dC, dI) classes (wL cI cZ u0 u1 u2 u3 u4 u5 u6 u7 u8 L ++ wP cI cZ p0 p1 h0 a1 a2 a3 a4 (upd P.1 x2.toNatClampNeg 1, g_119.2, P.2.2.1, P.2.2.2.1, P.2.2.2.2)) H := vz_reP (hW_P_judge_153 cI cZ cQ u0 u1 u2 u3 u4 u5 u6 u7 u8 p0 p1 h0 a1 a2 a3 a4 L (P.1, g_119.2, P.2.2.1, P.2.2.2.1, P.2.2.2.2) (upd P.1 x2.toNatClampNeg 1)) hP
              have hD : va_D (vz_A (wL cI cZ u0 u1 u2 u3 u4 u5 u6 u7 u8 L ++ wP cI cZ p0 p1 h0 a1 a2 a3 a4 P)) (wL cI cZ u0 u1 u2 u3 u4 u5 u6 u7 u8 L ++ wP cI cZ p0 p1 h0 a1 a2 a3 a4 (upd P.1 x2.toNatClampNeg 1, g_119.2, P.2.2.1, P.2.2.2.1, P.2.2.2.2)) := vz_reD (hW_P_judge_153 cI cZ cQ u0 u1 u2 u3 u4 u5 u6 u7 u8 p0 p1 h0 a1 a2 a3 a4 L (P.1, g_119.2, P.2.2.1, P.2.2.2.1, P.2.2.2.2) (upd P.1 x2.toNatClampNeg 1)) hD
              rw [m_P_judge, if_neg c_7] at hres
              try rw [hg_17] at hres
              rw [if_pos c_20, if_neg c_47_0, if_neg c_47_1, if_pos c_47_2] at hres
              try rw [hg_119] at hres
              rw [if_neg c_145] at hres
              subst hres
              subst hQ
              exact vz_vret hx hb hr hlocks d_P_judge_154 hS rfl hP
          · by_cases c_47_3 : (L.1 x2.toNatClampNeg) = 3
            · refine lv_tableIn (off := 79) (tgt := 126) hx hb d_P_judge_47 (by rw [c_47_3]; decide) (by rw [c_47_3]; decide) (by rw [c_47_3]; decide) (by decide) ?_
              refine lv_aload_n hx hb d_P_judge_126 rfl (lv_at hl 2 rfl) ?_
              refine va_get (D := (dC, dI)) (ci := 2) (v := .ref h0) (C := R_P) (T := F_P) (N := 5) hx hb hT i_P hown hK hP 9 rfl rfl 1 (by decide) (hT _ kw_113) (fun _ h9 => h9) rfl d_P_judge_127 ?_
              refine lv_iload hx hb d_P_judge_130 (lv_at hl 0 rfl) ?_
              have hc := c_T_bringBack l dC dI cI cZ cQ h0 a1 a2 a3 a4 P.2.1 (L.2.2.2.1 x2.toNatClampNeg) (hok) (by have := hrow.2.2.1 (by rw [c_47_3]; decide); omega)
              generalize hg_132 : (m_T_bringBack P.2.1 (L.2.2.2.1 x2.toNatClampNeg)) = g_132 at hc
              refine vz_callV (As := [.int (L.2.2.2.1 x2.toNatClampNeg)]) (rest := []) ⟨hx, hb, hml, hown, hT⟩ hc (vz_goodV kw_217 kw_218 kw_219 kw_4 kw_220) ⟨rfl, hd_T_bringBack⟩ ⟨⟨rfl, rfl⟩, Nat.le_of_ble_eq_true rfl, Nat.le_of_ble_eq_true rfl⟩ hK hP hD hS [11, 12, 13, 14, 15] rfl (hC_P_judge_132 cI cZ cQ u0 u1 u2 u3 u4 u5 u6 u7 u8 p0 p1 h0 a1 a2 a3 a4 L P) (hF_T_bringBack cI cZ cQ _ _) 0 0 rfl rfl rfl rfl hl.1 rfl (Nat.le_of_ble_eq_true rfl) ⟨Nat.zero_le _, Nat.zero_le _⟩ d_P_judge_132 (fun H locs hP hD hS => ?_)
              have hP : va_P (dC, dI) classes (wL cI cZ u0 u1 u2 u3 u4 u5 u6 u7 u8 L ++ wP cI cZ p0 p1 h0 a1 a2 a3 a4 (P.1, g_132.2, P.2.2.1, P.2.2.2.1, P.2.2.2.2)) H := vz_reP (hU_P_judge_132 cI cZ cQ u0 u1 u2 u3 u4 u5 u6 u7 u8 p0 p1 h0 a1 a2 a3 a4 L P g_132.2) hP
              have hD : va_D (vz_A (wL cI cZ u0 u1 u2 u3 u4 u5 u6 u7 u8 L ++ wP cI cZ p0 p1 h0 a1 a2 a3 a4 P)) (wL cI cZ u0 u1 u2 u3 u4 u5 u6 u7 u8 L ++ wP cI cZ p0 p1 h0 a1 a2 a3 a4 (P.1, g_132.2, P.2.2.1, P.2.2.2.1, P.2.2.2.2)) := vz_reD (hU_P_judge_132 cI cZ cQ u0 u1 u2 u3 u4 u5 u6 u7 u8 p0 p1 h0 a1 a2 a3 a4 L P g_132.2) hD
              refine W.eq (g2 := F0 m 135 ls [.int g_132.1]) rfl ?_
              refine lv_istore_n (lv' := [(3, .int g_132.1), (4, .int (L.2.2.2.1 x2.toNatClampNeg)), (0, .ref p0), (1, .ref u0), (2, .int x2)]) hx hb d_P_judge_135 rfl hl (by decide) rfl (fun ls hl => ?_)
              refine lv_goto (tgt := 139) hx hb d_P_judge_136 (by decide) ?_
              refine lv_aload_n hx hb d_P_judge_139 rfl (lv_at hl 2 rfl) ?_
              refine va_get (D := (dC, dI)) (ci := 2) (v := .ref p1) (C := R_P) (T := F_P) (N := 5) hx hb hT i_P hown hK hP 9 rfl rfl 0 (by decide) (hT _ kw_111) (fun _ h9 => h9) rfl d_P_judge_140 ?_
              refine lv_iload_n hx hb d_P_judge_143 rfl (lv_at hl 4 rfl) ?_
              refine lv_iload_n hx hb d_P_judge_144 rfl (lv_at hl 0 rfl) ?_
              refine lv_if_eq (tgt := 152) hx hb d_P_judge_145 (by decide) (fun c_145 => ?_) (fun c_145 => ?_)
              · have z_145 := congrArg Int32.toInt c_145
                refine lv_iconst (v := 2) hx hb d_P_judge_152 (by decide) ?_
                refine va_iast hx hb hK hP hD hS 10 0 rfl rfl (ti_vp (by omega) (by omega)) d_P_judge_153 (fun H locs hP hD hS => ?_)
                have hP : va_P (dC, dI) classes (wL cI cZ u0 u1 u2 u3 u4 u5 u6 u7 u8 L ++ wP cI cZ p0 p1 h0 a1 a2 a3 a4 (upd P.1 x2.toNatClampNeg 2, g_132.2, P.2.2.1, P.2.2.2.1, P.2.2.2.2)) H := vz_reP (hW_P_judge_153 cI cZ cQ u0 u1 u2 u3 u4 u5 u6 u7 u8 p0 p1 h0 a1 a2 a3 a4 L (P.1, g_132.2, P.2.2.1, P.2.2.2.1, P.2.2.2.2) (upd P.1 x2.toNatClampNeg 2)) hP
                have hD : va_D (vz_A (wL cI cZ u0 u1 u2 u3 u4 u5 u6 u7 u8 L ++ wP cI cZ p0 p1 h0 a1 a2 a3 a4 P)) (wL cI cZ u0 u1 u2 u3 u4 u5 u6 u7 u8 L ++ wP cI cZ p0 p1 h0 a1 a2 a3 a4 (upd P.1 x2.toNatClampNeg 2, g_132.2, P.2.2.1, P.2.2.2.1, P.2.2.2.2)) := vz_reD (hW_P_judge_153 cI cZ cQ u0 u1 u2 u3 u4 u5 u6 u7 u8 p0 p1 h0 a1 a2 a3 a4 L (P.1, g_132.2, P.2.2.1, P.2.2.2.1, P.2.2.2.2) (upd P.1 x2.toNatClampNeg 2)) hD
                rw [m_P_judge, if_neg c_7] at hres
                try rw [hg_17] at hres
                rw [if_pos c_20, if_neg c_47_0, if_neg c_47_1, if_neg c_47_2, if_pos c_47_3] at hres
                try rw [hg_132] at hres
                rw [if_pos c_145] at hres
                subst hres
                subst hQ
                exact vz_vret hx hb hr hlocks d_P_judge_154 hS rfl hP
              · have z_145 := mt Int32.toInt_inj.mp c_145
                refine lv_iconst (v := 1) hx hb d_P_judge_148 (by decide) ?_
                refine lv_goto (tgt := 153) hx hb d_P_judge_149 (by decide) ?_
                refine va_iast hx hb hK hP hD hS 10 0 rfl rfl (ti_vp (by omega) (by omega)) d_P_judge_153 (fun H locs hP hD hS => ?_)
                have hP : va_P (dC, dI) classes (wL cI cZ u0 u1 u2 u3 u4 u5 u6 u7 u8 L ++ wP cI cZ p0 p1 h0 a1 a2 a3 a4 (upd P.1 x2.toNatClampNeg 1, g_132.2, P.2.2.1, P.2.2.2.1, P.2.2.2.2)) H := vz_reP (hW_P_judge_153 cI cZ cQ u0 u1 u2 u3 u4 u5 u6 u7 u8 p0 p1 h0 a1 a2 a3 a4 L (P.1, g_132.2, P.2.2.1, P.2.2.2.1, P.2.2.2.2) (upd P.1 x2.toNatClampNeg 1)) hP
                have hD : va_D (vz_A (wL cI cZ u0 u1 u2 u3 u4 u5 u6 u7 u8 L ++ wP cI cZ p0 p1 h0 a1 a2 a3 a4 P)) (wL cI cZ u0 u1 u2 u3 u4 u5 u6 u7 u8 L ++ wP cI cZ p0 p1 h0 a1 a2 a3 a4 (upd P.1 x2.toNatClampNeg 1, g_132.2, P.2.2.1, P.2.2.2.1, P.2.2.2.2)) := vz_reD (hW_P_judge_153 cI cZ cQ u0 u1 u2 u3 u4 u5 u6 u7 u8 p0 p1 h0 a1 a2 a3 a4 L (P.1, g_132.2, P.2.2.1, P.2.2.2.1, P.2.2.2.2) (upd P.1 x2.toNatClampNeg 1)) hD
                rw [m_P_judge, if_neg c_7] at hres
                try rw [hg_17] at hres
                rw [if_pos c_20, if_neg c_47_0, if_neg c_47_1, if_neg c_47_2, if_pos c_47_3] at hres
                try rw [hg_132] at hres
                rw [if_neg c_145] at hres
                subst hres
                subst hQ
                exact vz_vret hx hb hr hlocks d_P_judge_154 hS rfl hP
            · refine lv_tableOut (tgt := 139) hx hb d_P_judge_47 (by have h0 := lv_neT c_47_0 (by decide : (0 : Int32).toInt = 0); have h1 := lv_neT c_47_1 (by decide : (1 : Int32).toInt = 1); have h2 := lv_neT c_47_2 (by decide : (2 : Int32).toInt = 2); have h3 := lv_neT c_47_3 (by decide : (3 : Int32).toInt = 3); omega) (by decide) ?_
              refine lv_aload_n hx hb d_P_judge_139 rfl (lv_at hl 2 rfl) ?_
              refine va_get (D := (dC, dI)) (ci := 2) (v := .ref p1) (C := R_P) (T := F_P) (N := 5) hx hb hT i_P hown hK hP 9 rfl rfl 0 (by decide) (hT _ kw_111) (fun _ h9 => h9) rfl d_P_judge_140 ?_
              refine lv_iload_n hx hb d_P_judge_143 rfl (lv_at hl 4 rfl) ?_
              refine lv_iload_n hx hb d_P_judge_144 rfl (lv_at hl 1 rfl) ?_
              refine lv_if_eq (tgt := 152) hx hb d_P_judge_145 (by decide) (fun c_145 => ?_) (fun c_145 => ?_)
              · have z_145 := congrArg Int32.toInt c_145
                refine lv_iconst (v := 2) hx hb d_P_judge_152 (by decide) ?_
                refine va_iast hx hb hK hP hD hS 10 0 rfl rfl (ti_vp (by omega) (by omega)) d_P_judge_153 (fun H locs hP hD hS => ?_)
                have hP : va_P (dC, dI) classes (wL cI cZ u0 u1 u2 u3 u4 u5 u6 u7 u8 L ++ wP cI cZ p0 p1 h0 a1 a2 a3 a4 (upd P.1 x2.toNatClampNeg 2, P.2.1, P.2.2.1, P.2.2.2.1, P.2.2.2.2)) H := vz_reP (hW_P_judge_153 cI cZ cQ u0 u1 u2 u3 u4 u5 u6 u7 u8 p0 p1 h0 a1 a2 a3 a4 L P (upd P.1 x2.toNatClampNeg 2)) hP
                have hD : va_D (vz_A (wL cI cZ u0 u1 u2 u3 u4 u5 u6 u7 u8 L ++ wP cI cZ p0 p1 h0 a1 a2 a3 a4 P)) (wL cI cZ u0 u1 u2 u3 u4 u5 u6 u7 u8 L ++ wP cI cZ p0 p1 h0 a1 a2 a3 a4 (upd P.1 x2.toNatClampNeg 2, P.2.1, P.2.2.1, P.2.2.2.1, P.2.2.2.2)) := vz_reD (hW_P_judge_153 cI cZ cQ u0 u1 u2 u3 u4 u5 u6 u7 u8 p0 p1 h0 a1 a2 a3 a4 L P (upd P.1 x2.toNatClampNeg 2)) hD
                rw [m_P_judge, if_neg c_7] at hres
                try rw [hg_17] at hres
                rw [if_pos c_20, if_neg c_47_0, if_neg c_47_1, if_neg c_47_2, if_neg c_47_3, if_pos c_145] at hres
                subst hres
                subst hQ
                exact vz_vret hx hb hr hlocks d_P_judge_154 hS rfl hP
              · have z_145 := mt Int32.toInt_inj.mp c_145
                refine lv_iconst (v := 1) hx hb d_P_judge_148 (by decide) ?_
                refine lv_goto (tgt := 153) hx hb d_P_judge_149 (by decide) ?_
                refine va_iast hx hb hK hP hD hS 10 0 rfl rfl (ti_vp (by omega) (by omega)) d_P_judge_153 (fun H locs hP hD hS => ?_)
                have hP : va_P (dC, dI) classes (wL cI cZ u0 u1 u2 u3 u4 u5 u6 u7 u8 L ++ wP cI cZ p0 p1 h0 a1 a2 a3 a4 (upd P.1 x2.toNatClampNeg 1, P.2.1, P.2.2.1, P.2.2.2.1, P.2.2.2.2)) H := vz_reP (hW_P_judge_153 cI cZ cQ u0 u1 u2 u3 u4 u5 u6 u7 u8 p0 p1 h0 a1 a2 a3 a4 L P (upd P.1 x2.toNatClampNeg 1)) hP
                have hD : va_D (vz_A (wL cI cZ u0 u1 u2 u3 u4 u5 u6 u7 u8 L ++ wP cI cZ p0 p1 h0 a1 a2 a3 a4 P)) (wL cI cZ u0 u1 u2 u3 u4 u5 u6 u7 u8 L ++ wP cI cZ p0 p1 h0 a1 a2 a3 a4 (upd P.1 x2.toNatClampNeg 1, P.2.1, P.2.2.1, P.2.2.2.1, P.2.2.2.2)) := vz_reD (hW_P_judge_153 cI cZ cQ u0 u1 u2 u3 u4 u5 u6 u7 u8 p0 p1 h0 a1 a2 a3 a4 L P (upd P.1 x2.toNatClampNeg 1)) hD
                rw [m_P_judge, if_neg c_7] at hres
                try rw [hg_17] at hres
                rw [if_pos c_20, if_neg c_47_0, if_neg c_47_1, if_neg c_47_2, if_neg c_47_3, if_neg c_145] at hres
                subst hres
                subst hQ
                exact vz_vret hx hb hr hlocks d_P_judge_154 hS rfl hP
    · have z_20 := mt Int32.toInt_inj.mp c_20
      refine lv_aload_n hx hb d_P_judge_23 rfl (lv_at hl 0 rfl) ?_
      refine va_get (D := (dC, dI)) (ci := 2) (v := .ref p1) (C := R_P) (T := F_P) (N := 5) hx hb hT i_P hown hK hP 9 rfl rfl 0 (by decide) (hT _ kw_111) (fun _ h9 => h9) rfl d_P_judge_24 ?_
      refine lv_iload_n hx hb d_P_judge_27 rfl (lv_at hl 2 rfl) ?_
      refine lv_iconst (v := 3) hx hb d_P_judge_28 (by decide) ?_
      refine va_iast hx hb hK hP hD hS 10 0 rfl rfl (ti_vp (by omega) (by omega)) d_P_judge_29 (fun H locs hP hD hS => ?_)
      have hP : va_P (dC, dI) classes (wL cI cZ u0 u1 u2 u3 u4 u5 u6 u7 u8 L ++ wP cI cZ p0 p1 h0 a1 a2 a3 a4 (upd P.1 x2.toNatClampNeg 3, P.2.1, P.2.2.1, P.2.2.2.1, P.2.2.2.2)) H := vz_reP (hW_P_judge_29 cI cZ cQ u0 u1 u2 u3 u4 u5 u6 u7 u8 p0 p1 h0 a1 a2 a3 a4 L P (upd P.1 x2.toNatClampNeg 3)) hP
      have hD : va_D (vz_A (wL cI cZ u0 u1 u2 u3 u4 u5 u6 u7 u8 L ++ wP cI cZ p0 p1 h0 a1 a2 a3 a4 P)) (wL cI cZ u0 u1 u2 u3 u4 u5 u6 u7 u8 L ++ wP cI cZ p0 p1 h0 a1 a2 a3 a4 (upd P.1 x2.toNatClampNeg 3, P.2.1, P.2.2.1, P.2.2.2.1, P.2.2.2.2)) := vz_reD (hW_P_judge_29 cI cZ cQ u0 u1 u2 u3 u4 u5 u6 u7 u8 p0 p1 h0 a1 a2 a3 a4 L P (upd P.1 x2.toNatClampNeg 3)) hD
      rw [m_P_judge, if_neg c_7] at hres
      try rw [hg_17] at hres
      rw [if_neg c_20] at hres
      subst hres
      subst hQ
      exact vz_vret hx hb hr hlocks d_P_judge_30 hS rfl hP
end
section
theorem d_P_judgeAll_0 : decode b_P_judgeAll 0 = .ok (.aload_n 0, 1) := by decide +kernel
theorem d_P_judgeAll_1 : decode b_P_judgeAll 1 = .ok (.getfield 18, 3) := by decide +kernel
theorem d_P_judgeAll_4 : decode b_P_judgeAll 4 = .ok (.invokevirtual 62, 3) := by decide +kernel
theorem d_P_judgeAll_7 : decode b_P_judgeAll 7 = .ok (.iconst 0, 1) := by decide +kernel
theorem d_P_judgeAll_8 : decode b_P_judgeAll 8 = .ok (.istore_n 2, 1) := by decide +kernel
theorem d_P_judgeAll_9 : decode b_P_judgeAll 9 = .ok (.iload_n 2, 1) := by decide +kernel
theorem d_P_judgeAll_10 : decode b_P_judgeAll 10 = .ok (.aload_n 1, 1) := by decide +kernel
theorem d_P_judgeAll_11 : decode b_P_judgeAll 11 = .ok (.getfield 56, 3) := by decide +kernel
theorem d_P_judgeAll_14 : decode b_P_judgeAll 14 = .ok (.if_icmp .ge 33, 3) := by decide +kernel
theorem d_P_judgeAll_17 : decode b_P_judgeAll 17 = .ok (.aload_n 0, 1) := by decide +kernel
theorem d_P_judgeAll_18 : decode b_P_judgeAll 18 = .ok (.aload_n 1, 1) := by decide +kernel
theorem d_P_judgeAll_19 : decode b_P_judgeAll 19 = .ok (.getfield 59, 3) := by decide +kernel
theorem d_P_judgeAll_22 : decode b_P_judgeAll 22 = .ok (.iload_n 2, 1) := by decide +kernel
theorem d_P_judgeAll_23 : decode b_P_judgeAll 23 = .ok (.iaload, 1) := by decide +kernel
theorem d_P_judgeAll_24 : decode b_P_judgeAll 24 = .ok (.invokevirtual 52, 3) := by decide +kernel
theorem d_P_judgeAll_27 : decode b_P_judgeAll 27 = .ok (.ifCond .eq 14, 3) := by decide +kernel
theorem d_P_judgeAll_30 : decode b_P_judgeAll 30 = .ok (.aload_n 0, 1) := by decide +kernel
theorem d_P_judgeAll_31 : decode b_P_judgeAll 31 = .ok (.aload_n 1, 1) := by decide +kernel
theorem d_P_judgeAll_32 : decode b_P_judgeAll 32 = .ok (.aload_n 1, 1) := by decide +kernel
theorem d_P_judgeAll_33 : decode b_P_judgeAll 33 = .ok (.getfield 59, 3) := by decide +kernel
theorem d_P_judgeAll_36 : decode b_P_judgeAll 36 = .ok (.iload_n 2, 1) := by decide +kernel
theorem d_P_judgeAll_37 : decode b_P_judgeAll 37 = .ok (.iaload, 1) := by decide +kernel
theorem d_P_judgeAll_38 : decode b_P_judgeAll 38 = .ok (.invokevirtual 65, 3) := by decide +kernel
theorem d_P_judgeAll_41 : decode b_P_judgeAll 41 = .ok (.iinc 2 1, 3) := by decide +kernel
theorem d_P_judgeAll_44 : decode b_P_judgeAll 44 = .ok (.goto (-35), 3) := by decide +kernel
theorem d_P_judgeAll_47 : decode b_P_judgeAll 47 = .ok (.return_, 1) := by decide +kernel
theorem hC_P_judgeAll_24 (cI cZ cQ : ClassId) (q0 q1 q2 q3 q4 q5 q6 q7 q8 q9 q10 q11 q12 q13 q14 q15 : Nat) (S0 : cL) (S1 : cP) : ([9, 10, 11, 12, 13, 14, 15] : List Nat).map (fun i => (wL cI cZ q0 q1 q2 q3 q4 q5 q6 q7 q8 S0 ++ wP cI cZ q9 q10 q11 q12 q13 q14 q15 S1 : va_W)[i]?) = (wP cI cZ q9 q10 q11 q12 q13 q14 q15 S1 : va_W).map some := rfl
theorem hU_P_judgeAll_24 (cI cZ cQ : ClassId) (q0 q1 q2 q3 q4 q5 q6 q7 q8 q9 q10 q11 q12 q13 q14 q15 : Nat) (S0 : cL) (S1 : cP)  : vz_put (wL cI cZ q0 q1 q2 q3 q4 q5 q6 q7 q8 S0 ++ wP cI cZ q9 q10 q11 q12 q13 q14 q15 S1 : va_W) [9, 10, 11, 12, 13, 14, 15] (wP cI cZ q9 q10 q11 q12 q13 q14 q15 S1 : va_W) = wL cI cZ q0 q1 q2 q3 q4 q5 q6 q7 q8 S0 ++ wP cI cZ q9 q10 q11 q12 q13 q14 q15 S1 := (show vz_put ([(q0, .inr (1, [.ref q1, .ref q2, .ref q3, .ref q4, .ref q5, .ref q6, .ref q7, .ref q8, .int S0.2.2.2.2.2.2.2.2.1, .int S0.2.2.2.2.2.2.2.2.2])), (q1, .inl (cI, 301, .inl S0.1)), (q2, .inl (cI, 301, .inl S0.2.1)), (q3, .inl (cI, 301, .inl S0.2.2.1)), (q4, .inl (cI, 301, .inl S0.2.2.2.1)), (q5, .inl (cI, 301, .inl S0.2.2.2.2.1)), (q6, .inl (cI, 301, .inl S0.2.2.2.2.2.1)), (q7, .inl (cI, 301, .inl S0.2.2.2.2.2.2.1)), (q8, .inl (cI, 300, .inl S0.2.2.2.2.2.2.2.1)), (q9, .inr (2, [.ref q10, .ref q11, .int S1.2.2.1, .int S1.2.2.2.1, .int S1.2.2.2.2])), (q10, .inl (cI, 301, .inl S1.1)), (q11, .inr (0, [.ref q12, .ref q13, .ref q14, .ref q15, .int S1.2.1.2.2.2.2])), (q12, .inl (cZ, 40, .inl S1.2.1.1)), (q13, .inl (cI, 40, .inl S1.2.1.2.1)), (q14, .inl (cI, 40, .inl S1.2.1.2.2.1)), (q15, .inl (cI, 40, .inl S1.2.1.2.2.2.1))] : va_W) [9, 10, 11, 12, 13, 14, 15] ([(q9, .inr (2, [.ref q10, .ref q11, .int S1.2.2.1, .int S1.2.2.2.1, .int S1.2.2.2.2])), (q10, .inl (cI, 301, .inl S1.1)), (q11, .inr (0, [.ref q12, .ref q13, .ref q14, .ref q15, .int S1.2.1.2.2.2.2])), (q12, .inl (cZ, 40, .inl S1.2.1.1)), (q13, .inl (cI, 40, .inl S1.2.1.2.1)), (q14, .inl (cI, 40, .inl S1.2.1.2.2.1)), (q15, .inl (cI, 40, .inl S1.2.1.2.2.2.1))] : va_W) = [(q0, .inr (1, [.ref q1, .ref q2, .ref q3, .ref q4, .ref q5, .ref q6, .ref q7, .ref q8, .int S0.2.2.2.2.2.2.2.2.1, .int S0.2.2.2.2.2.2.2.2.2])), (q1, .inl (cI, 301, .inl S0.1)), (q2, .inl (cI, 301, .inl S0.2.1)), (q3, .inl (cI, 301, .inl S0.2.2.1)), (q4, .inl (cI, 301, .inl S0.2.2.2.1)), (q5, .inl (cI, 301, .inl S0.2.2.2.2.1)), (q6, .inl (cI, 301, .inl S0.2.2.2.2.2.1)), (q7, .inl (cI, 301, .inl S0.2.2.2.2.2.2.1)), (q8, .inl (cI, 300, .inl S0.2.2.2.2.2.2.2.1)), (q9, .inr (2, [.ref q10, .ref q11, .int S1.2.2.1, .int S1.2.2.2.1, .int S1.2.2.2.2])), (q10, .inl (cI, 301, .inl S1.1)), (q11, .inr (0, [.ref q12, .ref q13, .ref q14, .ref q15, .int S1.2.1.2.2.2.2])), (q12, .inl (cZ, 40, .inl S1.2.1.1)), (q13, .inl (cI, 40, .inl S1.2.1.2.1)), (q14, .inl (cI, 40, .inl S1.2.1.2.2.1)), (q15, .inl (cI, 40, .inl S1.2.1.2.2.2.1))] from rfl).trans rfl
theorem hC_P_judgeAll_38 (cI cZ cQ : ClassId) (q0 q1 q2 q3 q4 q5 q6 q7 q8 q9 q10 q11 q12 q13 q14 q15 : Nat) (S0 : cL) (S1 : cP) : ([0, 1, 2, 3, 4, 5, 6, 7, 8, 9, 10, 11, 12, 13, 14, 15] : List Nat).map (fun i => (wL cI cZ q0 q1 q2 q3 q4 q5 q6 q7 q8 S0 ++ wP cI cZ q9 q10 q11 q12 q13 q14 q15 S1 : va_W)[i]?) = (wL cI cZ q0 q1 q2 q3 q4 q5 q6 q7 q8 S0 ++ wP cI cZ q9 q10 q11 q12 q13 q14 q15 S1 : va_W).map some := rfl
theorem hF_P_judge (cI cZ cQ : ClassId) {u0 u1 u2 u3 u4 u5 u6 u7 u8 p0 p1 h0 a1 a2 a3 a4 : Nat} (S0 R0 : cL) (S1 R1 : cP) : (wL cI cZ u0 u1 u2 u3 u4 u5 u6 u7 u8 R0 ++ wP cI cZ p0 p1 h0 a1 a2 a3 a4 R1 : va_W).map Prod.fst = (wL cI cZ u0 u1 u2 u3 u4 u5 u6 u7 u8 S0 ++ wP cI cZ p0 p1 h0 a1 a2 a3 a4 S1 : va_W).map Prod.fst := rfl
theorem hU_P_judgeAll_38 (cI cZ cQ : ClassId) (q0 q1 q2 q3 q4 q5 q6 q7 q8 q9 q10 q11 q12 q13 q14 q15 : Nat) (S0 : cL) (S1 : cP) (R1 : cP) : vz_put (wL cI cZ q0 q1 q2 q3 q4 q5 q6 q7 q8 S0 ++ wP cI cZ q9 q10 q11 q12 q13 q14 q15 S1 : va_W) [0, 1, 2, 3, 4, 5, 6, 7, 8, 9, 10, 11, 12, 13, 14, 15] (wL cI cZ q0 q1 q2 q3 q4 q5 q6 q7 q8 S0 ++ wP cI cZ q9 q10 q11 q12 q13 q14 q15 R1 : va_W) = wL cI cZ q0 q1 q2 q3 q4 q5 q6 q7 q8 S0 ++ wP cI cZ q9 q10 q11 q12 q13 q14 q15 R1 := (show vz_put ([(q0, .inr (1, [.ref q1, .ref q2, .ref q3, .ref q4, .ref q5, .ref q6, .ref q7, .ref q8, .int S0.2.2.2.2.2.2.2.2.1, .int S0.2.2.2.2.2.2.2.2.2])), (q1, .inl (cI, 301, .inl S0.1)), (q2, .inl (cI, 301, .inl S0.2.1)), (q3, .inl (cI, 301, .inl S0.2.2.1)), (q4, .inl (cI, 301, .inl S0.2.2.2.1)), (q5, .inl (cI, 301, .inl S0.2.2.2.2.1)), (q6, .inl (cI, 301, .inl S0.2.2.2.2.2.1)), (q7, .inl (cI, 301, .inl S0.2.2.2.2.2.2.1)), (q8, .inl (cI, 300, .inl S0.2.2.2.2.2.2.2.1)), (q9, .inr (2, [.ref q10, .ref q11, .int S1.2.2.1, .int S1.2.2.2.1, .int S1.2.2.2.2])), (q10, .inl (cI, 301, .inl S1.1)), (q11, .inr (0, [.ref q12, .ref q13, .ref q14, .ref q15, .int S1.2.1.2.2.2.2])), (q12, .inl (cZ, 40, .inl S1.2.1.1)), (q13, .inl (cI, 40, .inl S1.2.1.2.1)), (q14, .inl (cI, 40, .inl S1.2.1.2.2.1)), (q15, .inl (cI, 40, .inl S1.2.1.2.2.2.1))] : va_W) [0, 1, 2, 3, 4, 5, 6, 7, 8, 9, 10, 11, 12, 13, 14, 15] ([(q0, .inr (1, [.ref q1, .ref q2, .ref q3, .ref q4, .ref q5, .ref q6, .ref q7, .ref q8, .int S0.2.2.2.2.2.2.2.2.1, .int S0.2.2.2.2.2.2.2.2.2])), (q1, .inl (cI, 301, .inl S0.1)), (q2, .inl (cI, 301, .inl S0.2.1)), (q3, .inl (cI, 301, .inl S0.2.2.1)), (q4, .inl (cI, 301, .inl S0.2.2.2.1)), (q5, .inl (cI, 301, .inl S0.2.2.2.2.1)), (q6, .inl (cI, 301, .inl S0.2.2.2.2.2.1)), (q7, .inl (cI, 301, .inl S0.2.2.2.2.2.2.1)), (q8, .inl (cI, 300, .inl S0.2.2.2.2.2.2.2.1)), (q9, .inr (2, [.ref q10, .ref q11, .int R1.2.2.1, .int R1.2.2.2.1, .int R1.2.2.2.2])), (q10, .inl (cI, 301, .inl R1.1)), (q11, .inr (0, [.ref q12, .ref q13, .ref q14, .ref q15, .int R1.2.1.2.2.2.2])), (q12, .inl (cZ, 40, .inl R1.2.1.1)), (q13, .inl (cI, 40, .inl R1.2.1.2.1)), (q14, .inl (cI, 40, .inl R1.2.1.2.2.1)), (q15, .inl (cI, 40, .inl R1.2.1.2.2.2.1))] : va_W) = [(q0, .inr (1, [.ref q1, .ref q2, .ref q3, .ref q4, .ref q5, .ref q6, .ref q7, .ref q8, .int S0.2.2.2.2.2.2.2.2.1, .int S0.2.2.2.2.2.2.2.2.2])), (q1, .inl (cI, 301, .inl S0.1)), (q2, .inl (cI, 301, .inl S0.2.1)), (q3, .inl (cI, 301, .inl S0.2.2.1)), (q4, .inl (cI, 301, .inl S0.2.2.2.1)), (q5, .inl (cI, 301, .inl S0.2.2.2.2.1)), (q6, .inl (cI, 301, .inl S0.2.2.2.2.2.1)), (q7, .inl (cI, 301, .inl S0.2.2.2.2.2.2.1)), (q8, .inl (cI, 300, .inl S0.2.2.2.2.2.2.2.1)), (q9, .inr (2, [.ref q10, .ref q11, .int R1.2.2.1, .int R1.2.2.2.1, .int R1.2.2.2.2])), (q10, .inl (cI, 301, .inl R1.1)), (q11, .inr (0, [.ref q12, .ref q13, .ref q14, .ref q15, .int R1.2.1.2.2.2.2])), (q12, .inl (cZ, 40, .inl R1.2.1.1)), (q13, .inl (cI, 40, .inl R1.2.1.2.1)), (q14, .inl (cI, 40, .inl R1.2.1.2.2.1)), (q15, .inl (cI, 40, .inl R1.2.1.2.2.2.1))] from rfl).trans rfl
theorem hC_P_judgeAll_4 (cI cZ cQ : ClassId) (q0 q1 q2 q3 q4 q5 q6 q7 q8 q9 q10 q11 q12 q13 q14 q15 : Nat) (S0 : cL) (S1 : cP) : ([11, 12, 13, 14, 15] : List Nat).map (fun i => (wL cI cZ q0 q1 q2 q3 q4 q5 q6 q7 q8 S0 ++ wP cI cZ q9 q10 q11 q12 q13 q14 q15 S1 : va_W)[i]?) = (wT cI cZ q11 q12 q13 q14 q15 S1.2.1 : va_W).map some := rfl
theorem hF_T_startAnew (cI cZ cQ : ClassId) {h0 a1 a2 a3 a4 : Nat} (S0 R0 : cT) : (wT cI cZ h0 a1 a2 a3 a4 R0 : va_W).map Prod.fst = (wT cI cZ h0 a1 a2 a3 a4 S0 : va_W).map Prod.fst := rfl
theorem hU_P_judgeAll_4 (cI cZ cQ : ClassId) (q0 q1 q2 q3 q4 q5 q6 q7 q8 q9 q10 q11 q12 q13 q14 q15 : Nat) (S0 : cL) (S1 : cP) (R0 : cT) : vz_put (wL cI cZ q0 q1 q2 q3 q4 q5 q6 q7 q8 S0 ++ wP cI cZ q9 q10 q11 q12 q13 q14 q15 S1 : va_W) [11, 12, 13, 14, 15] (wT cI cZ q11 q12 q13 q14 q15 R0 : va_W) = wL cI cZ q0 q1 q2 q3 q4 q5 q6 q7 q8 S0 ++ wP cI cZ q9 q10 q11 q12 q13 q14 q15 (S1.1, R0, S1.2.2.1, S1.2.2.2.1, S1.2.2.2.2) := (show vz_put ([(q0, .inr (1, [.ref q1, .ref q2, .ref q3, .ref q4, .ref q5, .ref q6, .ref q7, .ref q8, .int S0.2.2.2.2.2.2.2.2.1, .int S0.2.2.2.2.2.2.2.2.2])), (q1, .inl (cI, 301, .inl S0.1)), (q2, .inl (cI, 301, .inl S0.2.1)), (q3, .inl (cI, 301, .inl S0.2.2.1)), (q4, .inl (cI, 301, .inl S0.2.2.2.1)), (q5, .inl (cI, 301, .inl S0.2.2.2.2.1)), (q6, .inl (cI, 301, .inl S0.2.2.2.2.2.1)), (q7, .inl (cI, 301, .inl S0.2.2.2.2.2.2.1)), (q8, .inl (cI, 300, .inl S0.2.2.2.2.2.2.2.1)), (q9, .inr (2, [.ref q10, .ref q11, .int S1.2.2.1, .int S1.2.2.2.1, .int S1.2.2.2.2])), (q10, .inl (cI, 301, .inl S1.1)), (q11, .inr (0, [.ref q12, .ref q13, .ref q14, .ref q15, .int S1.2.1.2.2.2.2])), (q12, .inl (cZ, 40, .inl S1.2.1.1)), (q13, .inl (cI, 40, .inl S1.2.1.2.1)), (q14, .inl (cI, 40, .inl S1.2.1.2.2.1)), (q15, .inl (cI, 40, .inl S1.2.1.2.2.2.1))] : va_W) [11, 12, 13, 14, 15] ([(q11, .inr (0, [.ref q12, .ref q13, .ref q14, .ref q15, .int R0.2.2.2.2])), (q12, .inl (cZ, 40, .inl R0.1)), (q13, .inl (cI, 40, .inl R0.2.1)), (q14, .inl (cI, 40, .inl R0.2.2.1)), (q15, .inl (cI, 40, .inl R0.2.2.2.1))] : va_W) = [(q0, .inr (1, [.ref q1, .ref q2, .ref q3, .ref q4, .ref q5, .ref q6, .ref q7, .ref q8, .int S0.2.2.2.2.2.2.2.2.1, .int S0.2.2.2.2.2.2.2.2.2])), (q1, .inl (cI, 301, .inl S0.1)), (q2, .inl (cI, 301, .inl S0.2.1)), (q3, .inl (cI, 301, .inl S0.2.2.1)), (q4, .inl (cI, 301, .inl S0.2.2.2.1)), (q5, .inl (cI, 301, .inl S0.2.2.2.2.1)), (q6, .inl (cI, 301, .inl S0.2.2.2.2.2.1)), (q7, .inl (cI, 301, .inl S0.2.2.2.2.2.2.1)), (q8, .inl (cI, 300, .inl S0.2.2.2.2.2.2.2.1)), (q9, .inr (2, [.ref q10, .ref q11, .int S1.2.2.1, .int S1.2.2.2.1, .int S1.2.2.2.2])), (q10, .inl (cI, 301, .inl S1.1)), (q11, .inr (0, [.ref q12, .ref q13, .ref q14, .ref q15, .int R0.2.2.2.2])), (q12, .inl (cZ, 40, .inl R0.1)), (q13, .inl (cI, 40, .inl R0.2.1)), (q14, .inl (cI, 40, .inl R0.2.2.1)), (q15, .inl (cI, 40, .inl R0.2.2.2.1))] from rfl).trans rfl
def l_P_judgeAll_9 (L : cL) : Nat → Int32 → cP → cP
  | 0, _, S => S
  | n + 1, x2, S => (if L.2.2.2.2.2.2.2.2.1 ≤ x2 then S else (if (m_P_knows S (L.2.2.2.2.2.2.2.1 x2.toNatClampNeg)) = 0 then (l_P_judgeAll_9 L n (x2 + 1) S) else (l_P_judgeAll_9 L n (x2 + 1) (m_P_judge L S (L.2.2.2.2.2.2.2.1 x2.toNatClampNeg)))))
def m_P_judgeAll (L : cL) (P : cP) : cP := (l_P_judgeAll_9 L 301 0 (P.1, (m_T_startAnew P.2.1), P.2.2.1, P.2.2.2.1, P.2.2.2.2))
set_option maxHeartbeats 1000000 in
set_option maxRecDepth 100000 in
theorem c_P_judgeAll (l : Launch) (dC : Nat → ClassId) (dI : Nat → Nat → Nat) (cI cZ cQ : ClassId) (u0 : Nat) (u1 : Nat) (u2 : Nat) (u3 : Nat) (u4 : Nat) (u5 : Nat) (u6 : Nat) (u7 : Nat) (u8 : Nat) (L : cL) (p0 : Nat) (p1 : Nat) (h0 : Nat) (a1 : Nat) (a2 : Nat) (a3 : Nat) (a4 : Nat) (P : cP) (J : Int32 → cP → Prop) (hcnt : 0 ≤ L.2.2.2.2.2.2.2.2.1.toInt ∧ L.2.2.2.2.2.2.2.2.1.toInt ≤ 300) (hord : ∀ j, j < 300 → 0 ≤ (L.2.2.2.2.2.2.2.1 j).toInt ∧ (L.2.2.2.2.2.2.2.1 j).toInt < 301) (hJ0 : J 0 (P.1, m_T_startAnew P.2.1, P.2.2)) (hJk : ∀ (x : Int32) (S : cP), 0 ≤ x.toInt → x.toInt < L.2.2.2.2.2.2.2.2.1.toInt → J x S → okR L (L.2.2.2.2.2.2.2.1 x.toNatClampNeg) ∧ okT S.2.1 ∧ (¬ m_P_knows S (L.2.2.2.2.2.2.2.1 x.toNatClampNeg) = 0 → J (x + 1) (m_P_judge L S (L.2.2.2.2.2.2.2.1 x.toNatClampNeg))) ∧ (m_P_knows S (L.2.2.2.2.2.2.2.1 x.toNatClampNeg) = 0 → J (x + 1) S)) : vz_C l (dC, dI) classes [(cI, .int), (cZ, .boolean), (cQ, .object "BinTrees$Person")] y_P_judgeAll (Cond.code y_P_judgeAll b_P_judgeAll 3 none :: vz_tbl) ({ frames := 4, cells := 0, slots := 0, locals := 96 }) [.ref p0, .ref u0] (wL cI cZ u0 u1 u2 u3 u4 u5 u6 u7 u8 L ++ wP cI cZ p0 p1 h0 a1 a2 a3 a4 P) (none) (wL cI cZ u0 u1 u2 u3 u4 u5 u6 u7 u8 L ++ wP cI cZ p0 p1 h0 a1 a2 a3 a4 (m_P_judgeAll L P)) := by
  generalize hres : (m_P_judgeAll L P) = RES
  refine vz_C.of (by decide) (Nat.le_of_ble_eq_true rfl) ?_
  intro p e s m below meth c ls E hl hK hP hD hS
  obtain ⟨hx, hb, hr, hml, hown, hT, hlocks⟩ := E
  obtain ⟨Q, hQ⟩ : ∃ Q, Q = MQ below (vz_Q (dC, dI) classes (wL cI cZ u0 u1 u2 u3 u4 u5 u6 u7 u8 L ++ wP cI cZ p0 p1 h0 a1 a2 a3 a4 P) (none) (wL cI cZ u0 u1 u2 u3 u4 u5 u6 u7 u8 L ++ wP cI cZ p0 p1 h0 a1 a2 a3 a4 RES)) ([.ref p0, .ref u0] : List Value).toArray s 0 0 (vz_A (wL cI cZ u0 u1 u2 u3 u4 u5 u6 u7 u8 L ++ wP cI cZ p0 p1 h0 a1 a2 a3 a4 P)) := ⟨_, rfl⟩
  rw [← hQ]
  have hl : lv_has ls 3 [(0, .ref p0), (1, .ref u0)] := hl
  have T0 := ti_0
  have T1 := ti_1
  have Tm := ti_m1
  have T8 := ti_8
  have T39 := ti_39
  have T40 := ti_40
  have T4 := ti_4
  have T300 := ti_300
  have k_9 : ∀ (n : Nat) (x2 : Int32) (S : cP), l_P_judgeAll_9 L n x2 S = RES → (0 ≤ x2.toInt ∧ x2.toInt ≤ L.2.2.2.2.2.2.2.2.1.toInt ∧ L.2.2.2.2.2.2.2.2.1.toInt < n + x2.toInt) → (J x2 S) → ∀ (H : Heap) (locs : List Loc) (ls : Array Slot), va_P (dC, dI) classes (wL cI cZ u0 u1 u2 u3 u4 u5 u6 u7 u8 L ++ wP cI cZ p0 p1 h0 a1 a2 a3 a4 S) H → va_D (vz_A (wL cI cZ u0 u1 u2 u3 u4 u5 u6 u7 u8 L ++ wP cI cZ p0 p1 h0 a1 a2 a3 a4 P)) (wL cI cZ u0 u1 u2 u3 u4 u5 u6 u7 u8 L ++ wP cI cZ p0 p1 h0 a1 a2 a3 a4 S) → va_S (vz_A (wL cI cZ u0 u1 u2 u3 u4 u5 u6 u7 u8 L ++ wP cI cZ p0 p1 h0 a1 a2 a3 a4 P)) s.heap H locs → lv_has ls 3 [(0, .ref p0), (1, .ref u0), (2, .int x2)] → W p l e ({ frames := 4, cells := 0, slots := 0, locals := 96 }) s m ([.ref p0, .ref u0] : List Value).toArray below meth c H locs 0 0 Q (F0 m 9 ls []) := by
    intro n
    induction n with
    | zero =>
      intro x2 S hres i2 hJ H locs ls hP hD hS hl
      exfalso
      omega
    | succ n ih =>
      intro x2 S hres i2 hJ H locs ls hP hD hS hl
      refine lv_iload_n hx hb d_P_judgeAll_9 rfl (lv_at hl 2 rfl) ?_
      refine lv_aload_n hx hb d_P_judgeAll_10 rfl (lv_at hl 1 rfl) ?_
      refine va_get (D := (dC, dI)) (ci := 1) (v := .int L.2.2.2.2.2.2.2.2.1) (C := R_L) (T := F_L) (N := 10) hx hb hT i_L hown hK hP 0 rfl rfl 8 (by decide) (hT _ kw_45) (fun _ h9 => h9) rfl d_P_judgeAll_11 ?_
      refine lv_icmp_ge (tgt := 47) hx hb d_P_judgeAll_14 (by decide) (fun c_14 => ?_) (fun c_14 => ?_)
      · have z_14 := Int32.le_iff_toInt_le.mp c_14
        rw [l_P_judgeAll_9, if_pos c_14] at hres
        subst hres
        subst hQ
        exact vz_vret hx hb hr hlocks d_P_judgeAll_47 hS rfl hP
      · have z_14 := mt Int32.le_iff_toInt_le.mpr c_14
        refine lv_aload_n hx hb d_P_judgeAll_17 rfl (lv_at hl 0 rfl) ?_
        refine lv_aload_n hx hb d_P_judgeAll_18 rfl (lv_at hl 1 rfl) ?_
        refine va_get (D := (dC, dI)) (ci := 1) (v := .ref u8) (C := R_L) (T := F_L) (N := 10) hx hb hT i_L hown hK hP 0 rfl rfl 7 (by decide) (hT _ kw_42) (fun _ h9 => h9) rfl d_P_judgeAll_19 ?_
        refine lv_iload_n hx hb d_P_judgeAll_22 rfl (lv_at hl 2 rfl) ?_
        refine va_iald hx hb hK hP 8 0 rfl rfl (ti_vp (by omega) (by omega)) d_P_judgeAll_23 ?_
        have hc := c_P_knows l dC dI cI cZ cQ p0 p1 h0 a1 a2 a3 a4 S (L.2.2.2.2.2.2.2.1 x2.toNatClampNeg) ((hJk x2 S (by omega) (by omega) hJ).1.1)
        generalize hg_24 : (m_P_knows S (L.2.2.2.2.2.2.2.1 x2.toNatClampNeg)) = g_24 at hc
        refine vz_callV (As := [.int (L.2.2.2.2.2.2.2.1 x2.toNatClampNeg)]) (rest := []) ⟨hx, hb, hml, hown, hT⟩ hc (vz_goodV kw_177 kw_178 kw_179 kw_3 kw_180) ⟨rfl, hd_P_knows⟩ ⟨⟨rfl, rfl⟩, Nat.le_of_ble_eq_true rfl, Nat.le_of_ble_eq_true rfl⟩ hK hP hD hS [9, 10, 11, 12, 13, 14, 15] rfl (hC_P_judgeAll_24 cI cZ cQ u0 u1 u2 u3 u4 u5 u6 u7 u8 p0 p1 h0 a1 a2 a3 a4 L S) (hF_P_knows cI cZ cQ _ _) 0 2 rfl rfl rfl rfl hl.1 rfl (Nat.le_of_ble_eq_true rfl) ⟨Nat.zero_le _, Nat.zero_le _⟩ d_P_judgeAll_24 (fun H locs hP hD hS => ?_)
        have hP : va_P (dC, dI) classes (wL cI cZ u0 u1 u2 u3 u4 u5 u6 u7 u8 L ++ wP cI cZ p0 p1 h0 a1 a2 a3 a4 S) H := vz_reP (hU_P_judgeAll_24 cI cZ cQ u0 u1 u2 u3 u4 u5 u6 u7 u8 p0 p1 h0 a1 a2 a3 a4 L S ) hP
        have hD : va_D (vz_A (wL cI cZ u0 u1 u2 u3 u4 u5 u6 u7 u8 L ++ wP cI cZ p0 p1 h0 a1 a2 a3 a4 P)) (wL cI cZ u0 u1 u2 u3 u4 u5 u6 u7 u8 L ++ wP cI cZ p0 p1 h0 a1 a2 a3 a4 S) := vz_reD (hU_P_judgeAll_24 cI cZ cQ u0 u1 u2 u3 u4 u5 u6 u7 u8 p0 p1 h0 a1 a2 a3 a4 L S ) hD
        refine W.eq (g2 := F0 m 27 ls [.int g_24]) rfl ?_
        refine lv_if_eq (tgt := 41) hx hb d_P_judgeAll_27 (by decide) (fun c_27 => ?_) (fun c_27 => ?_)
        · have z_27 := congrArg Int32.toInt c_27
          refine lv_iinc (v := x2 + 1) (lv' := [(2, .int (x2 + 1)), (0, .ref p0), (1, .ref u0)]) hx hb d_P_judgeAll_41 hl (k := 2) rfl rfl (by decide) rfl (fun ls hl => ?_)
          refine lv_goto (tgt := 9) hx hb d_P_judgeAll_44 (by decide) ?_
          rw [l_P_judgeAll_9, if_neg c_14] at hres
          try rw [hg_24] at hres
          rw [if_pos c_27] at hres
          exact ih (x2 + 1) S  hres (by rw [ti_inc (x := x2) (by omega)]; omega) (by first | (rw [← hg_38]; exact (hJk x2 S (by omega) (by omega) hJ).2.2.1 (by rw [hg_24]; assumption)) | exact (hJk x2 S (by omega) (by omega) hJ).2.2.2 (by rw [hg_24]; assumption)) H locs ls hP hD hS (lv_sub hl [1, 2, 0] rfl)
        · have z_27 := mt Int32.toInt_inj.mp c_27
          refine lv_aload_n hx hb d_P_judgeAll_30 rfl (lv_at hl 0 rfl) ?_
          refine lv_aload_n hx hb d_P_judgeAll_31 rfl (lv_at hl 1 rfl) ?_
          refine lv_aload_n hx hb d_P_judgeAll_32 rfl (lv_at hl 1 rfl) ?_
          refine va_get (D := (dC, dI)) (ci := 1) (v := .ref u8) (C := R_L) (T := F_L) (N := 10) hx hb hT i_L hown hK hP 0 rfl rfl 7 (by decide) (hT _ kw_42) (fun _ h9 => h9) rfl d_P_judgeAll_33 ?_
          refine lv_iload_n hx hb d_P_judgeAll_36 rfl (lv_at hl 2 rfl) ?_
          refine va_iald hx hb hK hP 8 0 rfl rfl (ti_vp (by omega) (by omega)) d_P_judgeAll_37 ?_
          have hc := c_P_judge l dC dI cI cZ cQ u0 u1 u2 u3 u4 u5 u6 u7 u8 L p0 p1 h0 a1 a2 a3 a4 S (L.2.2.2.2.2.2.2.1 x2.toNatClampNeg) ((hJk x2 S (by omega) (by omega) hJ).2.1) ((hJk x2 S (by omega) (by omega) hJ).1)
          generalize hg_38 : (m_P_judge L S (L.2.2.2.2.2.2.2.1 x2.toNatClampNeg)) = g_38 at hc
          refine vz_callV (As := [.ref u0, .int (L.2.2.2.2.2.2.2.1 x2.toNatClampNeg)]) (rest := []) ⟨hx, hb, hml, hown, hT⟩ hc (vz_goodV kw_226 kw_182 kw_183 kw_3 kw_184) ⟨rfl, hd_P_judge⟩ ⟨⟨rfl, rfl⟩, Nat.le_of_ble_eq_true rfl, Nat.le_of_ble_eq_true rfl⟩ hK hP hD hS [0, 1, 2, 3, 4, 5, 6, 7, 8, 9, 10, 11, 12, 13, 14, 15] rfl (hC_P_judgeAll_38 cI cZ cQ u0 u1 u2 u3 u4 u5 u6 u7 u8 p0 p1 h0 a1 a2 a3 a4 L S) (hF_P_judge cI cZ cQ _ _ _ _) 9 2 rfl rfl rfl rfl hl.1 rfl (Nat.le_of_ble_eq_true rfl) ⟨Nat.zero_le _, Nat.zero_le _⟩ d_P_judgeAll_38 (fun H locs hP hD hS => ?_)
          have hP : va_P (dC, dI) classes (wL cI cZ u0 u1 u2 u3 u4 u5 u6 u7 u8 L ++ wP cI cZ p0 p1 h0 a1 a2 a3 a4 g_38) H := vz_reP (hU_P_judgeAll_38 cI cZ cQ u0 u1 u2 u3 u4 u5 u6 u7 u8 p0 p1 h0 a1 a2 a3 a4 L S g_38) hP
          have hD : va_D (vz_A (wL cI cZ u0 u1 u2 u3 u4 u5 u6 u7 u8 L ++ wP cI cZ p0 p1 h0 a1 a2 a3 a4 P)) (wL cI cZ u0 u1 u2 u3 u4 u5 u6 u7 u8 L ++ wP cI cZ p0 p1 h0 a1 a2 a3 a4 g_38) := vz_reD (hU_P_judgeAll_38 cI cZ cQ u0 u1 u2 u3 u4 u5 u6 u7 u8 p0 p1 h0 a1 a2 a3 a4 L S g_38) hD
          refine W.eq (g2 := F0 m 41 ls []) rfl ?_
          refine lv_iinc (v := x2 + 1) (lv' := [(2, .int (x2 + 1)), (0, .ref p0), (1, .ref u0)]) hx hb d_P_judgeAll_41 hl (k := 2) rfl rfl (by decide) rfl (fun ls hl => ?_)
          refine lv_goto (tgt := 9) hx hb d_P_judgeAll_44 (by decide) ?_
          rw [l_P_judgeAll_9, if_neg c_14] at hres
          try rw [hg_24] at hres
          rw [if_neg c_27] at hres
          try rw [hg_38] at hres
          exact ih (x2 + 1) g_38  hres (by rw [ti_inc (x := x2) (by omega)]; omega) (by first | (rw [← hg_38]; exact (hJk x2 S (by omega) (by omega) hJ).2.2.1 (by rw [hg_24]; assumption)) | exact (hJk x2 S (by omega) (by omega) hJ).2.2.2 (by rw [hg_24]; assumption)) H locs ls hP hD hS (lv_sub hl [1, 2, 0] rfl)
  have hS0 := hS
  refine lv_aload_n hx hb d_P_judgeAll_0 rfl (lv_at hl 0 rfl) ?_
  refine va_get (D := (dC, dI)) (ci := 2) (v := .ref h0) (C := R_P) (T := F_P) (N := 5) hx hb hT i_P hown hK hP 9 rfl rfl 1 (by decide) (hT _ kw_113) (fun _ h9 => h9) rfl d_P_judgeAll_1 ?_
  have hc := c_T_startAnew l dC dI cI cZ cQ h0 a1 a2 a3 a4 P.2.1 
  generalize hg_4 : (m_T_startAnew P.2.1) = g_4 at hc
  refine vz_callV (As := []) (rest := []) ⟨hx, hb, hml, hown, hT⟩ hc (vz_goodV kw_225 kw_84 kw_85 kw_4 kw_86) ⟨rfl, hd_T_startAnew⟩ ⟨⟨rfl, rfl⟩, Nat.le_of_ble_eq_true rfl, Nat.le_of_ble_eq_true rfl⟩ hK hP hD hS [11, 12, 13, 14, 15] rfl (hC_P_judgeAll_4 cI cZ cQ u0 u1 u2 u3 u4 u5 u6 u7 u8 p0 p1 h0 a1 a2 a3 a4 L P) (hF_T_startAnew cI cZ cQ _ _) 0 0 rfl rfl rfl rfl hl.1 rfl (Nat.le_of_ble_eq_true rfl) ⟨Nat.zero_le _, Nat.zero_le _⟩ d_P_judgeAll_4 (fun H locs hP hD hS => ?_)
  have hP : va_P (dC, dI) classes (wL cI cZ u0 u1 u2 u3 u4 u5 u6 u7 u8 L ++ wP cI cZ p0 p1 h0 a1 a2 a3 a4 (P.1, g_4, P.2.2.1, P.2.2.2.1, P.2.2.2.2)) H := vz_reP (hU_P_judgeAll_4 cI cZ cQ u0 u1 u2 u3 u4 u5 u6 u7 u8 p0 p1 h0 a1 a2 a3 a4 L P g_4) hP
  have hD : va_D (vz_A (wL cI cZ u0 u1 u2 u3 u4 u5 u6 u7 u8 L ++ wP cI cZ p0 p1 h0 a1 a2 a3 a4 P)) (wL cI cZ u0 u1 u2 u3 u4 u5 u6 u7 u8 L ++ wP cI cZ p0 p1 h0 a1 a2 a3 a4 (P.1, g_4, P.2.2.1, P.2.2.2.1, P.2.2.2.2)) := vz_reD (hU_P_judgeAll_4 cI cZ cQ u0 u1 u2 u3 u4 u5 u6 u7 u8 p0 p1 h0 a1 a2 a3 a4 L P g_4) hD
  refine W.eq (g2 := F0 m 7 ls []) rfl ?_
  refine lv_iconst (v := 0) hx hb d_P_judgeAll_7 (by decide) ?_
  refine lv_istore_n (lv' := [(2, .int 0), (0, .ref p0), (1, .ref u0)]) hx hb d_P_judgeAll_8 rfl hl (by decide) rfl (fun ls hl => ?_)
  rw [m_P_judgeAll] at hres
  try rw [hg_4] at hres
  exact k_9 301 0 (P.1, g_4, P.2.2.1, P.2.2.2.1, P.2.2.2.2)  hres (by omega) (by rw [← hg_4]; exact hJ0) _ _ ls hP hD hS (lv_sub hl [1, 2, 0] rfl)
end
section
theorem d_B_isNode_0 : decode b_B_isNode 0 = .ok (.iload_n 0, 1) := by decide +kernel
theorem d_B_isNode_1 : decode b_B_isNode 1 = .ok (.ifCond .lt 12, 3) := by decide +kernel
theorem d_B_isNode_4 : decode b_B_isNode 4 = .ok (.iload_n 0, 1) := by decide +kernel
theorem d_B_isNode_5 : decode b_B_isNode 5 = .ok (.iconst 4, 1) := by decide +kernel
theorem d_B_isNode_6 : decode b_B_isNode 6 = .ok (.if_icmp .ge 7, 3) := by decide +kernel
theorem d_B_isNode_9 : decode b_B_isNode 9 = .ok (.iconst 1, 1) := by decide +kernel
theorem d_B_isNode_10 : decode b_B_isNode 10 = .ok (.goto 4, 3) := by decide +kernel
theorem d_B_isNode_13 : decode b_B_isNode 13 = .ok (.iconst 0, 1) := by decide +kernel
theorem d_B_isNode_14 : decode b_B_isNode 14 = .ok (.ireturn, 1) := by decide +kernel
theorem d_B_isObject_0 : decode b_B_isObject 0 = .ok (.iload_n 1, 1) := by decide +kernel
theorem d_B_isObject_1 : decode b_B_isObject 1 = .ok (.ifCond .lt 18, 3) := by decide +kernel
theorem d_B_isObject_4 : decode b_B_isObject 4 = .ok (.iload_n 1, 1) := by decide +kernel
theorem d_B_isObject_5 : decode b_B_isObject 5 = .ok (.aload_n 0, 1) := by decide +kernel
theorem d_B_isObject_6 : decode b_B_isObject 6 = .ok (.getfield 10, 3) := by decide +kernel
theorem d_B_isObject_9 : decode b_B_isObject 9 = .ok (.getfield 27, 3) := by decide +kernel
theorem d_B_isObject_12 : decode b_B_isObject 12 = .ok (.if_icmp .gt 7, 3) := by decide +kernel
theorem d_B_isObject_15 : decode b_B_isObject 15 = .ok (.iconst 1, 1) := by decide +kernel
theorem d_B_isObject_16 : decode b_B_isObject 16 = .ok (.goto 4, 3) := by decide +kernel
theorem d_B_isObject_19 : decode b_B_isObject 19 = .ok (.iconst 0, 1) := by decide +kernel
theorem d_B_isObject_20 : decode b_B_isObject 20 = .ok (.ireturn, 1) := by decide +kernel
theorem d_B_isMade_0 : decode b_B_isMade 0 = .ok (.iload_n 1, 1) := by decide +kernel
theorem d_B_isMade_1 : decode b_B_isMade 1 = .ok (.ifCond .le 18, 3) := by decide +kernel
theorem d_B_isMade_4 : decode b_B_isMade 4 = .ok (.iload_n 1, 1) := by decide +kernel
theorem d_B_isMade_5 : decode b_B_isMade 5 = .ok (.aload_n 0, 1) := by decide +kernel
theorem d_B_isMade_6 : decode b_B_isMade 6 = .ok (.getfield 10, 3) := by decide +kernel
theorem d_B_isMade_9 : decode b_B_isMade 9 = .ok (.getfield 27, 3) := by decide +kernel
theorem d_B_isMade_12 : decode b_B_isMade 12 = .ok (.if_icmp .gt 7, 3) := by decide +kernel
theorem d_B_isMade_15 : decode b_B_isMade 15 = .ok (.iconst 1, 1) := by decide +kernel
theorem d_B_isMade_16 : decode b_B_isMade 16 = .ok (.goto 4, 3) := by decide +kernel
theorem d_B_isMade_19 : decode b_B_isMade 19 = .ok (.iconst 0, 1) := by decide +kernel
theorem d_B_isMade_20 : decode b_B_isMade 20 = .ok (.ireturn, 1) := by decide +kernel
theorem d_B_isRow_0 : decode b_B_isRow 0 = .ok (.iload_n 1, 1) := by decide +kernel
theorem d_B_isRow_1 : decode b_B_isRow 1 = .ok (.iconst 1, 1) := by decide +kernel
theorem d_B_isRow_2 : decode b_B_isRow 2 = .ok (.if_icmp .lt 18, 3) := by decide +kernel
theorem d_B_isRow_5 : decode b_B_isRow 5 = .ok (.iload_n 1, 1) := by decide +kernel
theorem d_B_isRow_6 : decode b_B_isRow 6 = .ok (.aload_n 0, 1) := by decide +kernel
theorem d_B_isRow_7 : decode b_B_isRow 7 = .ok (.getfield 10, 3) := by decide +kernel
theorem d_B_isRow_10 : decode b_B_isRow 10 = .ok (.getfield 64, 3) := by decide +kernel
theorem d_B_isRow_13 : decode b_B_isRow 13 = .ok (.if_icmp .gt 7, 3) := by decide +kernel
theorem d_B_isRow_16 : decode b_B_isRow 16 = .ok (.iconst 1, 1) := by decide +kernel
theorem d_B_isRow_17 : decode b_B_isRow 17 = .ok (.goto 4, 3) := by decide +kernel
theorem d_B_isRow_20 : decode b_B_isRow 20 = .ok (.iconst 0, 1) := by decide +kernel
theorem d_B_isRow_21 : decode b_B_isRow 21 = .ok (.ireturn, 1) := by decide +kernel
theorem d_B_mayWrite_0 : decode b_B_mayWrite 0 = .ok (.iload_n 1, 1) := by decide +kernel
theorem d_B_mayWrite_1 : decode b_B_mayWrite 1 = .ok (.invokestatic 55, 3) := by decide +kernel
theorem d_B_mayWrite_4 : decode b_B_mayWrite 4 = .ok (.ifCond .eq 20, 3) := by decide +kernel
theorem d_B_mayWrite_7 : decode b_B_mayWrite 7 = .ok (.aload_n 0, 1) := by decide +kernel
theorem d_B_mayWrite_8 : decode b_B_mayWrite 8 = .ok (.getfield 10, 3) := by decide +kernel
theorem d_B_mayWrite_11 : decode b_B_mayWrite 11 = .ok (.getfield 64, 3) := by decide +kernel
theorem d_B_mayWrite_14 : decode b_B_mayWrite 14 = .ok (.sipush 300, 3) := by decide +kernel
theorem d_B_mayWrite_17 : decode b_B_mayWrite 17 = .ok (.if_icmp .ge 7, 3) := by decide +kernel
theorem d_B_mayWrite_20 : decode b_B_mayWrite 20 = .ok (.iconst 1, 1) := by decide +kernel
theorem d_B_mayWrite_21 : decode b_B_mayWrite 21 = .ok (.goto 4, 3) := by decide +kernel
theorem d_B_mayWrite_24 : decode b_B_mayWrite 24 = .ok (.iconst 0, 1) := by decide +kernel
theorem d_B_mayWrite_25 : decode b_B_mayWrite 25 = .ok (.ireturn, 1) := by decide +kernel
def m_B_isNode (x0 : Int32) : Int32 := (if x0 < 0 then 0 else (if 4 ≤ x0 then 0 else 1))
set_option maxHeartbeats 1000000 in
set_option maxRecDepth 100000 in
theorem c_B_isNode (l : Launch) (dC : Nat → ClassId) (dI : Nat → Nat → Nat) (cI cZ cQ : ClassId) (x0 : Int32)  : vz_C l (dC, dI) classes [(cI, .int), (cZ, .boolean), (cQ, .object "BinTrees$Person")] y_B_isNode (Cond.code y_B_isNode b_B_isNode 1 (some .boolean) :: vz_tbl) ({ frames := 0, cells := 0, slots := 0, locals := 0 }) [.int x0] (([] : va_W)) (some (.int (m_B_isNode x0))) (([] : va_W)) := by
  generalize hres : (m_B_isNode x0) = RES
  refine vz_C.of (by decide) (Nat.le_of_ble_eq_true rfl) ?_
  intro p e s m below meth c ls E hl hK hP hD hS
  obtain ⟨hx, hb, hr, hml, hown, hT, hlocks⟩ := E
  obtain ⟨Q, hQ⟩ : ∃ Q, Q = MQ below (vz_Q (dC, dI) classes (([] : va_W)) (some (.int RES)) (([] : va_W))) ([.int x0] : List Value).toArray s 0 0 (vz_A (([] : va_W))) := ⟨_, rfl⟩
  rw [← hQ]
  have hl : lv_has ls 1 [(0, .int x0)] := hl
  have T0 := ti_0
  have T1 := ti_1
  have Tm := ti_m1
  have T8 := ti_8
  have T39 := ti_39
  have T40 := ti_40
  have T4 := ti_4
  have T300 := ti_300
  have hS0 := hS
  refine lv_iload_n hx hb d_B_isNode_0 rfl (lv_at hl 0 rfl) ?_
  refine lv_if_lt (tgt := 13) hx hb d_B_isNode_1 (by decide) (fun c_1 => ?_) (fun c_1 => ?_)
  · have z_1 := Int32.lt_iff_toInt_lt.mp c_1
    refine lv_iconst (v := 0) hx hb d_B_isNode_13 (by decide) ?_
    rw [m_B_isNode, if_pos c_1] at hres
    subst hres
    subst hQ
    exact vz_zret hx hb hr (by decide) hlocks d_B_isNode_14 hS rfl hP
  · have z_1 := mt Int32.lt_iff_toInt_lt.mpr c_1
    refine lv_iload_n hx hb d_B_isNode_4 rfl (lv_at hl 0 rfl) ?_
    refine lv_iconst (v := 4) hx hb d_B_isNode_5 (by decide) ?_
    refine lv_icmp_ge (tgt := 13) hx hb d_B_isNode_6 (by decide) (fun c_6 => ?_) (fun c_6 => ?_)
    · have z_6 := Int32.le_iff_toInt_le.mp c_6
      refine lv_iconst (v := 0) hx hb d_B_isNode_13 (by decide) ?_
      rw [m_B_isNode, if_neg c_1, if_pos c_6] at hres
      subst hres
      subst hQ
      exact vz_zret hx hb hr (by decide) hlocks d_B_isNode_14 hS rfl hP
    · have z_6 := mt Int32.le_iff_toInt_le.mpr c_6
      refine lv_iconst (v := 1) hx hb d_B_isNode_9 (by decide) ?_
      refine lv_goto (tgt := 14) hx hb d_B_isNode_10 (by decide) ?_
      rw [m_B_isNode, if_neg c_1, if_neg c_6] at hres
      subst hres
      subst hQ
      exact vz_zret hx hb hr (by decide) hlocks d_B_isNode_14 hS rfl hP

def m_B_isObject (L : cL) (x1 : Int32) : Int32 := (if x1 < 0 then 0 else (if L.2.2.2.2.2.2.2.2.2 < x1 then 0 else 1))
set_option maxHeartbeats 1000000 in
set_option maxRecDepth 100000 in
theorem c_B_isObject (l : Launch) (dC : Nat → ClassId) (dI : Nat → Nat → Nat) (cI cZ cQ : ClassId) (b0 : Nat) (b1 : Nat) (F : Nat → Option Nat) (u0 : Nat) (u1 : Nat) (u2 : Nat) (u3 : Nat) (u4 : Nat) (u5 : Nat) (u6 : Nat) (u7 : Nat) (u8 : Nat) (L : cL) (x1 : Int32)  : vz_C l (dC, dI) classes [(cI, .int), (cZ, .boolean), (cQ, .object "BinTrees$Person")] y_B_isObject (Cond.code y_B_isObject b_B_isObject 2 (some .boolean) :: vz_tbl) ({ frames := 0, cells := 0, slots := 0, locals := 0 }) [.ref b0, .int x1] (wB cI cZ cQ b0 b1 u0 F ++ wL cI cZ u0 u1 u2 u3 u4 u5 u6 u7 u8 L) (some (.int (m_B_isObject L x1))) (wB cI cZ cQ b0 b1 u0 F ++ wL cI cZ u0 u1 u2 u3 u4 u5 u6 u7 u8 L) := by
  generalize hres : (m_B_isObject L x1) = RES
  refine vz_C.of (by decide) (Nat.le_of_ble_eq_true rfl) ?_
  intro p e s m below meth c ls E hl hK hP hD hS
  obtain ⟨hx, hb, hr, hml, hown, hT, hlocks⟩ := E
  obtain ⟨Q, hQ⟩ : ∃ Q, Q = MQ below (vz_Q (dC, dI) classes (wB cI cZ cQ b0 b1 u0 F ++ wL cI cZ u0 u1 u2 u3 u4 u5 u6 u7 u8 L) (some (.int RES)) (wB cI cZ cQ b0 b1 u0 F ++ wL cI cZ u0 u1 u2 u3 u4 u5 u6 u7 u8 L)) ([.ref b0, .int x1] : List Value).toArray s 0 0 (vz_A (wB cI cZ cQ b0 b1 u0 F ++ wL cI cZ u0 u1 u2 u3 u4 u5 u6 u7 u8 L)) := ⟨_, rfl⟩
  rw [← hQ]
  have hl : lv_has ls 2 [(0, .ref b0), (1, .int x1)] := hl
  have T0 := ti_0
  have T1 := ti_1
  have Tm := ti_m1
  have T8 := ti_8
  have T39 := ti_39
  have T40 := ti_40
  have T4 := ti_4
  have T300 := ti_300
  have hS0 := hS
  refine lv_iload_n hx hb d_B_isObject_0 rfl (lv_at hl 1 rfl) ?_
  refine lv_if_lt (tgt := 19) hx hb d_B_isObject_1 (by decide) (fun c_1 => ?_) (fun c_1 => ?_)
  · have z_1 := Int32.lt_iff_toInt_lt.mp c_1
    refine lv_iconst (v := 0) hx hb d_B_isObject_19 (by decide) ?_
    rw [m_B_isObject, if_pos c_1] at hres
    subst hres
    subst hQ
    exact vz_zret hx hb hr (by decide) hlocks d_B_isObject_20 hS rfl hP
  · have z_1 := mt Int32.lt_iff_toInt_lt.mpr c_1
    refine lv_iload_n hx hb d_B_isObject_4 rfl (lv_at hl 1 rfl) ?_
    refine lv_aload_n hx hb d_B_isObject_5 rfl (lv_at hl 0 rfl) ?_
    refine va_get (D := (dC, dI)) (ci := 3) (v := .ref u0) (C := R_B) (T := F_B) (N := 2) hx hb hT i_B hown hK hP 0 rfl rfl 0 (by decide) (hT _ kw_132) (fun _ h9 => h9) rfl d_B_isObject_6 ?_
    refine va_get (D := (dC, dI)) (ci := 1) (v := .int L.2.2.2.2.2.2.2.2.2) (C := R_L) (T := F_L) (N := 10) hx hb hT i_L hown hK hP 2 rfl rfl 9 (by decide) (hT _ kw_47) (fun _ h9 => h9) rfl d_B_isObject_9 ?_
    refine lv_icmp_gt (tgt := 19) hx hb d_B_isObject_12 (by decide) (fun c_12 => ?_) (fun c_12 => ?_)
    · have z_12 := Int32.lt_iff_toInt_lt.mp c_12
      refine lv_iconst (v := 0) hx hb d_B_isObject_19 (by decide) ?_
      rw [m_B_isObject, if_neg c_1, if_pos c_12] at hres
      subst hres
      subst hQ
      exact vz_zret hx hb hr (by decide) hlocks d_B_isObject_20 hS rfl hP
    · have z_12 := mt Int32.lt_iff_toInt_lt.mpr c_12
      refine lv_iconst (v := 1) hx hb d_B_isObject_15 (by decide) ?_
      refine lv_goto (tgt := 20) hx hb d_B_isObject_16 (by decide) ?_
      rw [m_B_isObject, if_neg c_1, if_neg c_12] at hres
      subst hres
      subst hQ
      exact vz_zret hx hb hr (by decide) hlocks d_B_isObject_20 hS rfl hP

def m_B_isMade (L : cL) (x1 : Int32) : Int32 := (if x1 ≤ 0 then 0 else (if L.2.2.2.2.2.2.2.2.2 < x1 then 0 else 1))
set_option maxHeartbeats 1000000 in
set_option maxRecDepth 100000 in
theorem c_B_isMade (l : Launch) (dC : Nat → ClassId) (dI : Nat → Nat → Nat) (cI cZ cQ : ClassId) (b0 : Nat) (b1 : Nat) (F : Nat → Option Nat) (u0 : Nat) (u1 : Nat) (u2 : Nat) (u3 : Nat) (u4 : Nat) (u5 : Nat) (u6 : Nat) (u7 : Nat) (u8 : Nat) (L : cL) (x1 : Int32)  : vz_C l (dC, dI) classes [(cI, .int), (cZ, .boolean), (cQ, .object "BinTrees$Person")] y_B_isMade (Cond.code y_B_isMade b_B_isMade 2 (some .boolean) :: vz_tbl) ({ frames := 0, cells := 0, slots := 0, locals := 0 }) [.ref b0, .int x1] (wB cI cZ cQ b0 b1 u0 F ++ wL cI cZ u0 u1 u2 u3 u4 u5 u6 u7 u8 L) (some (.int (m_B_isMade L x1))) (wB cI cZ cQ b0 b1 u0 F ++ wL cI cZ u0 u1 u2 u3 u4 u5 u6 u7 u8 L) := by
  generalize hres : (m_B_isMade L x1) = RES
  refine vz_C.of (by decide) (Nat.le_of_ble_eq_true rfl) ?_
  intro p e s m below meth c ls E hl hK hP hD hS
  obtain ⟨hx, hb, hr, hml, hown, hT, hlocks⟩ := E
  obtain ⟨Q, hQ⟩ : ∃ Q, Q = MQ below (vz_Q (dC, dI) classes (wB cI cZ cQ b0 b1 u0 F ++ wL cI cZ u0 u1 u2 u3 u4 u5 u6 u7 u8 L) (some (.int RES)) (wB cI cZ cQ b0 b1 u0 F ++ wL cI cZ u0 u1 u2 u3 u4 u5 u6 u7 u8 L)) ([.ref b0, .int x1] : List Value).toArray s 0 0 (vz_A (wB cI cZ cQ b0 b1 u0 F ++ wL cI cZ u0 u1 u2 u3 u4 u5 u6 u7 u8 L)) := ⟨_, rfl⟩
  rw [← hQ]
  have hl : lv_has ls 2 [(0, .ref b0), (1, .int x1)] := hl
  have T0 := ti_0
  have T1 := ti_1
  have Tm := ti_m1
  have T8 := ti_8
  have T39 := ti_39
  have T40 := ti_40
  have T4 := ti_4
  have T300 := ti_300
  have hS0 := hS
  refine lv_iload_n hx hb d_B_isMade_0 rfl (lv_at hl 1 rfl) ?_
  refine lv_if_le (tgt := 19) hx hb d_B_isMade_1 (by decide) (fun c_1 => ?_) (fun c_1 => ?_)
  · have z_1 := Int32.le_iff_toInt_le.mp c_1
    refine lv_iconst (v := 0) hx hb d_B_isMade_19 (by decide) ?_
    rw [m_B_isMade, if_pos c_1] at hres
    subst hres
    subst hQ
    exact vz_zret hx hb hr (by decide) hlocks d_B_isMade_20 hS rfl hP
  · have z_1 := mt Int32.le_iff_toInt_le.mpr c_1
    refine lv_iload_n hx hb d_B_isMade_4 rfl (lv_at hl 1 rfl) ?_
    refine lv_aload_n hx hb d_B_isMade_5 rfl (lv_at hl 0 rfl) ?_
    refine va_get (D := (dC, dI)) (ci := 3) (v := .ref u0) (C := R_B) (T := F_B) (N := 2) hx hb hT i_B hown hK hP 0 rfl rfl 0 (by decide) (hT _ kw_132) (fun _ h9 => h9) rfl d_B_isMade_6 ?_
    refine va_get (D := (dC, dI)) (ci := 1) (v := .int L.2.2.2.2.2.2.2.2.2) (C := R_L) (T := F_L) (N := 10) hx hb hT i_L hown hK hP 2 rfl rfl 9 (by decide) (hT _ kw_47) (fun _ h9 => h9) rfl d_B_isMade_9 ?_
    refine lv_icmp_gt (tgt := 19) hx hb d_B_isMade_12 (by decide) (fun c_12 => ?_) (fun c_12 => ?_)
    · have z_12 := Int32.lt_iff_toInt_lt.mp c_12
      refine lv_iconst (v := 0) hx hb d_B_isMade_19 (by decide) ?_
      rw [m_B_isMade, if_neg c_1, if_pos c_12] at hres
      subst hres
      subst hQ
      exact vz_zret hx hb hr (by decide) hlocks d_B_isMade_20 hS rfl hP
    · have z_12 := mt Int32.lt_iff_toInt_lt.mpr c_12
      refine lv_iconst (v := 1) hx hb d_B_isMade_15 (by decide) ?_
      refine lv_goto (tgt := 20) hx hb d_B_isMade_16 (by decide) ?_
      rw [m_B_isMade, if_neg c_1, if_neg c_12] at hres
      subst hres
      subst hQ
      exact vz_zret hx hb hr (by decide) hlocks d_B_isMade_20 hS rfl hP

def m_B_isRow (L : cL) (x1 : Int32) : Int32 := (if x1 < 1 then 0 else (if L.2.2.2.2.2.2.2.2.1 < x1 then 0 else 1))
set_option maxHeartbeats 1000000 in
set_option maxRecDepth 100000 in
theorem c_B_isRow (l : Launch) (dC : Nat → ClassId) (dI : Nat → Nat → Nat) (cI cZ cQ : ClassId) (b0 : Nat) (b1 : Nat) (F : Nat → Option Nat) (u0 : Nat) (u1 : Nat) (u2 : Nat) (u3 : Nat) (u4 : Nat) (u5 : Nat) (u6 : Nat) (u7 : Nat) (u8 : Nat) (L : cL) (x1 : Int32)  : vz_C l (dC, dI) classes [(cI, .int), (cZ, .boolean), (cQ, .object "BinTrees$Person")] y_B_isRow (Cond.code y_B_isRow b_B_isRow 2 (some .boolean) :: vz_tbl) ({ frames := 0, cells := 0, slots := 0, locals := 0 }) [.ref b0, .int x1] (wB cI cZ cQ b0 b1 u0 F ++ wL cI cZ u0 u1 u2 u3 u4 u5 u6 u7 u8 L) (some (.int (m_B_isRow L x1))) (wB cI cZ cQ b0 b1 u0 F ++ wL cI cZ u0 u1 u2 u3 u4 u5 u6 u7 u8 L) := by
  generalize hres : (m_B_isRow L x1) = RES
  refine vz_C.of (by decide) (Nat.le_of_ble_eq_true rfl) ?_
  intro p e s m below meth c ls E hl hK hP hD hS
  obtain ⟨hx, hb, hr, hml, hown, hT, hlocks⟩ := E
  obtain ⟨Q, hQ⟩ : ∃ Q, Q = MQ below (vz_Q (dC, dI) classes (wB cI cZ cQ b0 b1 u0 F ++ wL cI cZ u0 u1 u2 u3 u4 u5 u6 u7 u8 L) (some (.int RES)) (wB cI cZ cQ b0 b1 u0 F ++ wL cI cZ u0 u1 u2 u3 u4 u5 u6 u7 u8 L)) ([.ref b0, .int x1] : List Value).toArray s 0 0 (vz_A (wB cI cZ cQ b0 b1 u0 F ++ wL cI cZ u0 u1 u2 u3 u4 u5 u6 u7 u8 L)) := ⟨_, rfl⟩
  rw [← hQ]
  have hl : lv_has ls 2 [(0, .ref b0), (1, .int x1)] := hl
  have T0 := ti_0
  have T1 := ti_1
  have Tm := ti_m1
  have T8 := ti_8
  have T39 := ti_39
  have T40 := ti_40
  have T4 := ti_4
  have T300 := ti_300
  have hS0 := hS
  refine lv_iload_n hx hb d_B_isRow_0 rfl (lv_at hl 1 rfl) ?_
  refine lv_iconst (v := 1) hx hb d_B_isRow_1 (by decide) ?_
  refine lv_icmp_lt (tgt := 20) hx hb d_B_isRow_2 (by decide) (fun c_2 => ?_) (fun c_2 => ?_)
  · have z_2 := Int32.lt_iff_toInt_lt.mp c_2
    refine lv_iconst (v := 0) hx hb d_B_isRow_20 (by decide) ?_
    rw [m_B_isRow, if_pos c_2] at hres
    subst hres
    subst hQ
    exact vz_zret hx hb hr (by decide) hlocks d_B_isRow_21 hS rfl hP
  · have z_2 := mt Int32.lt_iff_toInt_lt.mpr c_2
    refine lv_iload_n hx hb d_B_isRow_5 rfl (lv_at hl 1 rfl) ?_
    refine lv_aload_n hx hb d_B_isRow_6 rfl (lv_at hl 0 rfl) ?_
    refine va_get (D := (dC, dI)) (ci := 3) (v := .ref u0) (C := R_B) (T := F_B) (N := 2) hx hb hT i_B hown hK hP 0 rfl rfl 0 (by decide) (hT _ kw_132) (fun _ h9 => h9) rfl d_B_isRow_7 ?_
    refine va_get (D := (dC, dI)) (ci := 1) (v := .int L.2.2.2.2.2.2.2.2.1) (C := R_L) (T := F_L) (N := 10) hx hb hT i_L hown hK hP 2 rfl rfl 8 (by decide) (hT _ kw_46) (fun _ h9 => h9) rfl d_B_isRow_10 ?_
    refine lv_icmp_gt (tgt := 20) hx hb d_B_isRow_13 (by decide) (fun c_13 => ?_) (fun c_13 => ?_)
    · have z_13 := Int32.lt_iff_toInt_lt.mp c_13
      refine lv_iconst (v := 0) hx hb d_B_isRow_20 (by decide) ?_
      rw [m_B_isRow, if_neg c_2, if_pos c_13] at hres
      subst hres
      subst hQ
      exact vz_zret hx hb hr (by decide) hlocks d_B_isRow_21 hS rfl hP
    · have z_13 := mt Int32.lt_iff_toInt_lt.mpr c_13
      refine lv_iconst (v := 1) hx hb d_B_isRow_16 (by decide) ?_
      refine lv_goto (tgt := 21) hx hb d_B_isRow_17 (by decide) ?_
      rw [m_B_isRow, if_neg c_2, if_neg c_13] at hres
      subst hres
      subst hQ
      exact vz_zret hx hb hr (by decide) hlocks d_B_isRow_21 hS rfl hP

theorem hC_B_mayWrite_1 (cI cZ cQ : ClassId) (q0 q1 q2 q3 q4 q5 q6 q7 q8 q9 q10 : Nat) (S0 : (Nat → Option Nat)) (S1 : cL) : ([] : List Nat).map (fun i => (wB cI cZ cQ q0 q1 q2 S0 ++ wL cI cZ q2 q3 q4 q5 q6 q7 q8 q9 q10 S1 : va_W)[i]?) = (([] : va_W) : va_W).map some := rfl
theorem hF_B_isNode (cI cZ cQ : ClassId)   : (([] : va_W) : va_W).map Prod.fst = (([] : va_W) : va_W).map Prod.fst := rfl
theorem hU_B_mayWrite_1 (cI cZ cQ : ClassId) (q0 q1 q2 q3 q4 q5 q6 q7 q8 q9 q10 : Nat) (S0 : (Nat → Option Nat)) (S1 : cL)  : vz_put (wB cI cZ cQ q0 q1 q2 S0 ++ wL cI cZ q2 q3 q4 q5 q6 q7 q8 q9 q10 S1 : va_W) [] (([] : va_W) : va_W) = wB cI cZ cQ q0 q1 q2 S0 ++ wL cI cZ q2 q3 q4 q5 q6 q7 q8 q9 q10 S1 := (show vz_put ([(q0, .inr (3, [.ref q2, .ref q1])), (q1, .inl (cQ, 4, .inr (.inr (.inr (.inr S0))))), (q2, .inr (1, [.ref q3, .ref q4, .ref q5, .ref q6, .ref q7, .ref q8, .ref q9, .ref q10, .int S1.2.2.2.2.2.2.2.2.1, .int S1.2.2.2.2.2.2.2.2.2])), (q3, .inl (cI, 301, .inl S1.1)), (q4, .inl (cI, 301, .inl S1.2.1)), (q5, .inl (cI, 301, .inl S1.2.2.1)), (q6, .inl (cI, 301, .inl S1.2.2.2.1)), (q7, .inl (cI, 301, .inl S1.2.2.2.2.1)), (q8, .inl (cI, 301, .inl S1.2.2.2.2.2.1)), (q9, .inl (cI, 301, .inl S1.2.2.2.2.2.2.1)), (q10, .inl (cI, 300, .inl S1.2.2.2.2.2.2.2.1))] : va_W) [] ([] : va_W) = [(q0, .inr (3, [.ref q2, .ref q1])), (q1, .inl (cQ, 4, .inr (.inr (.inr (.inr S0))))), (q2, .inr (1, [.ref q3, .ref q4, .ref q5, .ref q6, .ref q7, .ref q8, .ref q9, .ref q10, .int S1.2.2.2.2.2.2.2.2.1, .int S1.2.2.2.2.2.2.2.2.2])), (q3, .inl (cI, 301, .inl S1.1)), (q4, .inl (cI, 301, .inl S1.2.1)), (q5, .inl (cI, 301, .inl S1.2.2.1)), (q6, .inl (cI, 301, .inl S1.2.2.2.1)), (q7, .inl (cI, 301, .inl S1.2.2.2.2.1)), (q8, .inl (cI, 301, .inl S1.2.2.2.2.2.1)), (q9, .inl (cI, 301, .inl S1.2.2.2.2.2.2.1)), (q10, .inl (cI, 300, .inl S1.2.2.2.2.2.2.2.1))] from rfl).trans rfl
def m_B_mayWrite (L : cL) (x1 : Int32) : Int32 := (if (m_B_isNode x1) = 0 then 0 else (if 300 ≤ L.2.2.2.2.2.2.2.2.1 then 0 else 1))
set_option maxHeartbeats 1000000 in
set_option maxRecDepth 100000 in
theorem c_B_mayWrite (l : Launch) (dC : Nat → ClassId) (dI : Nat → Nat → Nat) (cI cZ cQ : ClassId) (b0 : Nat) (b1 : Nat) (F : Nat → Option Nat) (u0 : Nat) (u1 : Nat) (u2 : Nat) (u3 : Nat) (u4 : Nat) (u5 : Nat) (u6 : Nat) (u7 : Nat) (u8 : Nat) (L : cL) (x1 : Int32)  : vz_C l (dC, dI) classes [(cI, .int), (cZ, .boolean), (cQ, .object "BinTrees$Person")] y_B_mayWrite (Cond.code y_B_mayWrite b_B_mayWrite 2 (some .boolean) :: vz_tbl) ({ frames := 1, cells := 0, slots := 0, locals := 20 }) [.ref b0, .int x1] (wB cI cZ cQ b0 b1 u0 F ++ wL cI cZ u0 u1 u2 u3 u4 u5 u6 u7 u8 L) (some (.int (m_B_mayWrite L x1))) (wB cI cZ cQ b0 b1 u0 F ++ wL cI cZ u0 u1 u2 u3 u4 u5 u6 u7 u8 L) := by
  generalize hres : (m_B_mayWrite L x1) = RES
  refine vz_C.of (by decide) (Nat.le_of_ble_eq_true rfl) ?_
  intro p e s m below meth c ls E hl hK hP hD hS
  obtain ⟨hx, hb, hr, hml, hown, hT, hlocks⟩ := E
  obtain ⟨Q, hQ⟩ : ∃ Q, Q = MQ below (vz_Q (dC, dI) classes (wB cI cZ cQ b0 b1 u0 F ++ wL cI cZ u0 u1 u2 u3 u4 u5 u6 u7 u8 L) (some (.int RES)) (wB cI cZ cQ b0 b1 u0 F ++ wL cI cZ u0 u1 u2 u3 u4 u5 u6 u7 u8 L)) ([.ref b0, .int x1] : List Value).toArray s 0 0 (vz_A (wB cI cZ cQ b0 b1 u0 F ++ wL cI cZ u0 u1 u2 u3 u4 u5 u6 u7 u8 L)) := ⟨_, rfl⟩
  rw [← hQ]
  have hl : lv_has ls 2 [(0, .ref b0), (1, .int x1)] := hl
  have T0 := ti_0
  have T1 := ti_1
  have Tm := ti_m1
  have T8 := ti_8
  have T39 := ti_39
  have T40 := ti_40
  have T4 := ti_4
  have T300 := ti_300
  have hS0 := hS
  refine lv_iload_n hx hb d_B_mayWrite_0 rfl (lv_at hl 1 rfl) ?_
  have hc := c_B_isNode l dC dI cI cZ cQ x1 
  generalize hg_1 : (m_B_isNode x1) = g_1 at hc
  refine vz_callS (As := [.int x1]) (rest := []) ⟨hx, hb, hml, hown, hT⟩ hc (vz_goodS kw_147 kw_148 kw_1 kw_149) hd_B_isNode ⟨⟨rfl, rfl⟩, Nat.le_of_ble_eq_true rfl, Nat.le_of_ble_eq_true rfl⟩ hK hP hD hS [] rfl (hC_B_mayWrite_1 cI cZ cQ b0 b1 u0 u1 u2 u3 u4 u5 u6 u7 u8 F L) (hF_B_isNode cI cZ cQ ) rfl hl.1 rfl (Nat.le_of_ble_eq_true rfl) ⟨Nat.zero_le _, Nat.zero_le _⟩ d_B_mayWrite_1 (fun H locs hP hD hS => ?_)
  have hP : va_P (dC, dI) classes (wB cI cZ cQ b0 b1 u0 F ++ wL cI cZ u0 u1 u2 u3 u4 u5 u6 u7 u8 L) H := vz_reP (hU_B_mayWrite_1 cI cZ cQ b0 b1 u0 u1 u2 u3 u4 u5 u6 u7 u8 F L ) hP
  have hD : va_D (vz_A (wB cI cZ cQ b0 b1 u0 F ++ wL cI cZ u0 u1 u2 u3 u4 u5 u6 u7 u8 L)) (wB cI cZ cQ b0 b1 u0 F ++ wL cI cZ u0 u1 u2 u3 u4 u5 u6 u7 u8 L) := vz_reD (hU_B_mayWrite_1 cI cZ cQ b0 b1 u0 u1 u2 u3 u4 u5 u6 u7 u8 F L ) hD
  refine W.eq (g2 := F0 m 4 ls [.int g_1]) rfl ?_
  refine lv_if_eq (tgt := 24) hx hb d_B_mayWrite_4 (by decide) (fun c_4 => ?_) (fun c_4 => ?_)
  · have z_4 := congrArg Int32.toInt c_4
    refine lv_iconst (v := 0) hx hb d_B_mayWrite_24 (by decide) ?_
    rw [m_B_mayWrite] at hres
    try rw [hg_1] at hres
    rw [if_pos c_4] at hres
    subst hres
    subst hQ
    exact vz_zret hx hb hr (by decide) hlocks d_B_mayWrite_25 hS rfl hP
  · have z_4 := mt Int32.toInt_inj.mp c_4
    refine lv_aload_n hx hb d_B_mayWrite_7 rfl (lv_at hl 0 rfl) ?_
    refine va_get (D := (dC, dI)) (ci := 3) (v := .ref u0) (C := R_B) (T := F_B) (N := 2) hx hb hT i_B hown hK hP 0 rfl rfl 0 (by decide) (hT _ kw_132) (fun _ h9 => h9) rfl d_B_mayWrite_8 ?_
    refine va_get (D := (dC, dI)) (ci := 1) (v := .int L.2.2.2.2.2.2.2.2.1) (C := R_L) (T := F_L) (N := 10) hx hb hT i_L hown hK hP 2 rfl rfl 8 (by decide) (hT _ kw_46) (fun _ h9 => h9) rfl d_B_mayWrite_11 ?_
    refine lv_sipush (v := 300) hx hb d_B_mayWrite_14 (by decide) ?_
    refine lv_icmp_ge (tgt := 24) hx hb d_B_mayWrite_17 (by decide) (fun c_17 => ?_) (fun c_17 => ?_)
    · have z_17 := Int32.le_iff_toInt_le.mp c_17
      refine lv_iconst (v := 0) hx hb d_B_mayWrite_24 (by decide) ?_
      rw [m_B_mayWrite] at hres
      try rw [hg_1] at hres
      rw [if_neg c_4, if_pos c_17] at hres
      subst hres
      subst hQ
      exact vz_zret hx hb hr (by decide) hlocks d_B_mayWrite_25 hS rfl hP
    · have z_17 := mt Int32.le_iff_toInt_le.mpr c_17
      refine lv_iconst (v := 1) hx hb d_B_mayWrite_20 (by decide) ?_
      refine lv_goto (tgt := 25) hx hb d_B_mayWrite_21 (by decide) ?_
      rw [m_B_mayWrite] at hres
      try rw [hg_1] at hres
      rw [if_neg c_4, if_neg c_17] at hres
      subst hres
      subst hQ
      exact vz_zret hx hb hr (by decide) hlocks d_B_mayWrite_25 hS rfl hP
end
section
theorem isn_t {x0 : Int32} (h : ¬ m_B_isNode x0 = 0) : 0 ≤ x0.toInt ∧ x0.toInt < 4 := by
  rw [m_B_isNode] at h
  split at h
  · exact absurd rfl h
  · rename_i c1
    split at h
    · exact absurd rfl h
    · rename_i c2
      have z1 := mt Int32.lt_iff_toInt_lt.mpr c1
      have z2 := mt Int32.le_iff_toInt_le.mpr c2
      rw [ti_0] at z1
      rw [ti_4] at z2
      omega
theorem iso_t {L : cL} {x1 : Int32} (h : ¬ m_B_isObject L x1 = 0) : 0 ≤ x1.toInt ∧ x1.toInt ≤ L.2.2.2.2.2.2.2.2.2.toInt := by
  rw [m_B_isObject] at h
  split at h
  · exact absurd rfl h
  · rename_i c1
    split at h
    · exact absurd rfl h
    · rename_i c2
      have z1 := mt Int32.lt_iff_toInt_lt.mpr c1
      have z2 := mt Int32.lt_iff_toInt_lt.mpr c2
      rw [ti_0] at z1
      omega
theorem ism_t {L : cL} {x1 : Int32} (h : ¬ m_B_isMade L x1 = 0) : 1 ≤ x1.toInt ∧ x1.toInt ≤ L.2.2.2.2.2.2.2.2.2.toInt := by
  rw [m_B_isMade] at h
  split at h
  · exact absurd rfl h
  · rename_i c1
    split at h
    · exact absurd rfl h
    · rename_i c2
      have z1 := mt Int32.le_iff_toInt_le.mpr c1
      have z2 := mt Int32.lt_iff_toInt_lt.mpr c2
      rw [ti_0] at z1
      omega
theorem isr_t {L : cL} {x1 : Int32} (h : ¬ m_B_isRow L x1 = 0) : 1 ≤ x1.toInt ∧ x1.toInt ≤ L.2.2.2.2.2.2.2.2.1.toInt := by
  rw [m_B_isRow] at h
  split at h
  · exact absurd rfl h
  · rename_i c1
    split at h
    · exact absurd rfl h
    · rename_i c2
      have z1 := mt Int32.lt_iff_toInt_lt.mpr c1
      have z2 := mt Int32.lt_iff_toInt_lt.mpr c2
      rw [ti_1] at z1
      omega
theorem mw_t {L : cL} {x1 : Int32} (h : ¬ m_B_mayWrite L x1 = 0) : (0 ≤ x1.toInt ∧ x1.toInt < 4) ∧ L.2.2.2.2.2.2.2.2.1.toInt < 300 := by
  rw [m_B_mayWrite] at h
  split at h
  · exact absurd rfl h
  · rename_i c1
    split at h
    · exact absurd rfl h
    · rename_i c2
      have z2 := mt Int32.le_iff_toInt_le.mpr c2
      rw [ti_300] at z2
      exact ⟨isn_t c1, by omega⟩
/-- what judgeAll needs: something that holds at each of its steps -/
def jOK (L : cL) (P : cP) : Prop := ∃ J : Int32 → cP → Prop, J 0 (P.1, m_T_startAnew P.2.1, P.2.2) ∧ ∀ (x : Int32) (S : cP), 0 ≤ x.toInt → x.toInt < L.2.2.2.2.2.2.2.2.1.toInt → J x S → okR L (L.2.2.2.2.2.2.2.1 x.toNatClampNeg) ∧ okT S.2.1 ∧ (¬ m_P_knows S (L.2.2.2.2.2.2.2.1 x.toNatClampNeg) = 0 → J (x + 1) (m_P_judge L S (L.2.2.2.2.2.2.2.1 x.toNatClampNeg))) ∧ (m_P_knows S (L.2.2.2.2.2.2.2.1 x.toNatClampNeg) = 0 → J (x + 1) S)
/-- the log's ranges -/
def okL (L : cL) : Prop := (0 ≤ L.2.2.2.2.2.2.2.2.1.toInt ∧ L.2.2.2.2.2.2.2.2.1.toInt ≤ 300) ∧ (∀ j, j < 300 → 0 ≤ (L.2.2.2.2.2.2.2.1 j).toInt ∧ (L.2.2.2.2.2.2.2.1 j).toInt < 301) ∧ (0 ≤ L.2.2.2.2.2.2.2.2.2.toInt ∧ L.2.2.2.2.2.2.2.2.2.toInt ≤ 39)
def okTold (L : cL) (P : cP) (x : Int32) : Prop := okT P.2.1 ∧ okR L x ∧ okL L ∧ jOK L (m_P_learn L P x)
theorem learn_tree {L : cL} {P : cP} {x : Int32} : (m_P_learn L P x).2.1 = P.2.1 := by
  rw [m_P_learn]
  split <;> rfl
end
section
theorem d_B_told_0 : decode b_B_told 0 = .ok (.aload_n 0, 1) := by decide +kernel
theorem d_B_told_1 : decode b_B_told 1 = .ok (.getfield 18, 3) := by decide +kernel
theorem d_B_told_4 : decode b_B_told 4 = .ok (.iload_n 1, 1) := by decide +kernel
theorem d_B_told_5 : decode b_B_told 5 = .ok (.aaload, 1) := by decide +kernel
theorem d_B_told_6 : decode b_B_told 6 = .ok (.astore_n 3, 1) := by decide +kernel
theorem d_B_told_7 : decode b_B_told 7 = .ok (.aload_n 3, 1) := by decide +kernel
theorem d_B_told_8 : decode b_B_told 8 = .ok (.aload_n 0, 1) := by decide +kernel
theorem d_B_told_9 : decode b_B_told 9 = .ok (.getfield 10, 3) := by decide +kernel
theorem d_B_told_12 : decode b_B_told 12 = .ok (.iload_n 2, 1) := by decide +kernel
theorem d_B_told_13 : decode b_B_told 13 = .ok (.invokevirtual 71, 3) := by decide +kernel
theorem d_B_told_16 : decode b_B_told 16 = .ok (.aload_n 3, 1) := by decide +kernel
theorem d_B_told_17 : decode b_B_told 17 = .ok (.getfield 61, 3) := by decide +kernel
theorem d_B_told_20 : decode b_B_told 20 = .ok (.iconst 1, 1) := by decide +kernel
theorem d_B_told_21 : decode b_B_told 21 = .ok (.if_icmp .ne 28, 3) := by decide +kernel
theorem d_B_told_24 : decode b_B_told 24 = .ok (.aload_n 0, 1) := by decide +kernel
theorem d_B_told_25 : decode b_B_told 25 = .ok (.getfield 10, 3) := by decide +kernel
theorem d_B_told_28 : decode b_B_told 28 = .ok (.getfield 111, 3) := by decide +kernel
theorem d_B_told_31 : decode b_B_told 31 = .ok (.iload_n 2, 1) := by decide +kernel
theorem d_B_told_32 : decode b_B_told 32 = .ok (.iaload, 1) := by decide +kernel
theorem d_B_told_33 : decode b_B_told 33 = .ok (.iconst 4, 1) := by decide +kernel
theorem d_B_told_34 : decode b_B_told 34 = .ok (.if_icmp .eq 15, 3) := by decide +kernel
theorem d_B_told_37 : decode b_B_told 37 = .ok (.aload_n 3, 1) := by decide +kernel
theorem d_B_told_38 : decode b_B_told 38 = .ok (.aload_n 0, 1) := by decide +kernel
theorem d_B_told_39 : decode b_B_told 39 = .ok (.getfield 10, 3) := by decide +kernel
theorem d_B_told_42 : decode b_B_told 42 = .ok (.iload_n 2, 1) := by decide +kernel
theorem d_B_told_43 : decode b_B_told 43 = .ok (.invokevirtual 139, 3) := by decide +kernel
theorem d_B_told_46 : decode b_B_told 46 = .ok (.goto 11, 3) := by decide +kernel
theorem d_B_told_49 : decode b_B_told 49 = .ok (.aload_n 3, 1) := by decide +kernel
theorem d_B_told_50 : decode b_B_told 50 = .ok (.aload_n 0, 1) := by decide +kernel
theorem d_B_told_51 : decode b_B_told 51 = .ok (.getfield 10, 3) := by decide +kernel
theorem d_B_told_54 : decode b_B_told 54 = .ok (.invokevirtual 75, 3) := by decide +kernel
theorem d_B_told_57 : decode b_B_told 57 = .ok (.iload_n 2, 1) := by decide +kernel
theorem d_B_told_58 : decode b_B_told 58 = .ok (.ireturn, 1) := by decide +kernel
theorem hC_B_told_13 (cI cZ cQ : ClassId) (q0 q1 q2 q3 q4 q5 q6 q7 q8 q9 q10 q11 q12 q13 q14 q15 q16 q17 : Nat) (S0 : (Nat → Option Nat)) (S1 : cL) (S2 : cP) : ([2, 3, 4, 5, 6, 7, 8, 9, 10, 11, 12, 13, 14, 15, 16, 17] : List Nat).map (fun i => (wB cI cZ cQ q0 q1 q2 S0 ++ wL cI cZ q2 q3 q4 q5 q6 q7 q8 q9 q10 S1 ++ wP cI cZ q11 q12 q13 q14 q15 q16 q17 S2 : va_W)[i]?) = (wL cI cZ q2 q3 q4 q5 q6 q7 q8 q9 q10 S1 ++ wP cI cZ q11 q12 q13 q14 q15 q16 q17 S2 : va_W).map some := rfl
theorem hF_P_learn (cI cZ cQ : ClassId) {u0 u1 u2 u3 u4 u5 u6 u7 u8 p0 p1 h0 a1 a2 a3 a4 : Nat} (S0 R0 : cL) (S1 R1 : cP) : (wL cI cZ u0 u1 u2 u3 u4 u5 u6 u7 u8 R0 ++ wP cI cZ p0 p1 h0 a1 a2 a3 a4 R1 : va_W).map Prod.fst = (wL cI cZ u0 u1 u2 u3 u4 u5 u6 u7 u8 S0 ++ wP cI cZ p0 p1 h0 a1 a2 a3 a4 S1 : va_W).map Prod.fst := rfl
theorem hU_B_told_13 (cI cZ cQ : ClassId) (q0 q1 q2 q3 q4 q5 q6 q7 q8 q9 q10 q11 q12 q13 q14 q15 q16 q17 : Nat) (S0 : (Nat → Option Nat)) (S1 : cL) (S2 : cP) (R1 : cP) : vz_put (wB cI cZ cQ q0 q1 q2 S0 ++ wL cI cZ q2 q3 q4 q5 q6 q7 q8 q9 q10 S1 ++ wP cI cZ q11 q12 q13 q14 q15 q16 q17 S2 : va_W) [2, 3, 4, 5, 6, 7, 8, 9, 10, 11, 12, 13, 14, 15, 16, 17] (wL cI cZ q2 q3 q4 q5 q6 q7 q8 q9 q10 S1 ++ wP cI cZ q11 q12 q13 q14 q15 q16 q17 R1 : va_W) = wB cI cZ cQ q0 q1 q2 S0 ++ wL cI cZ q2 q3 q4 q5 q6 q7 q8 q9 q10 S1 ++ wP cI cZ q11 q12 q13 q14 q15 q16 q17 R1 := (show vz_put ([(q0, .inr (3, [.ref q2, .ref q1])), (q1, .inl (cQ, 4, .inr (.inr (.inr (.inr S0))))), (q2, .inr (1, [.ref q3, .ref q4, .ref q5, .ref q6, .ref q7, .ref q8, .ref q9, .ref q10, .int S1.2.2.2.2.2.2.2.2.1, .int S1.2.2.2.2.2.2.2.2.2])), (q3, .inl (cI, 301, .inl S1.1)), (q4, .inl (cI, 301, .inl S1.2.1)), (q5, .inl (cI, 301, .inl S1.2.2.1)), (q6, .inl (cI, 301, .inl S1.2.2.2.1)), (q7, .inl (cI, 301, .inl S1.2.2.2.2.1)), (q8, .inl (cI, 301, .inl S1.2.2.2.2.2.1)), (q9, .inl (cI, 301, .inl S1.2.2.2.2.2.2.1)), (q10, .inl (cI, 300, .inl S1.2.2.2.2.2.2.2.1)), (q11, .inr (2, [.ref q12, .ref q13, .int S2.2.2.1, .int S2.2.2.2.1, .int S2.2.2.2.2])), (q12, .inl (cI, 301, .inl S2.1)), (q13, .inr (0, [.ref q14, .ref q15, .ref q16, .ref q17, .int S2.2.1.2.2.2.2])), (q14, .inl (cZ, 40, .inl S2.2.1.1)), (q15, .inl (cI, 40, .inl S2.2.1.2.1)), (q16, .inl (cI, 40, .inl S2.2.1.2.2.1)), (q17, .inl (cI, 40, .inl S2.2.1.2.2.2.1))] : va_W) [2, 3, 4, 5, 6, 7, 8, 9, 10, 11, 12, 13, 14, 15, 16, 17] ([(q2, .inr (1, [.ref q3, .ref q4, .ref q5, .ref q6, .ref q7, .ref q8, .ref q9, .ref q10, .int S1.2.2.2.2.2.2.2.2.1, .int S1.2.2.2.2.2.2.2.2.2])), (q3, .inl (cI, 301, .inl S1.1)), (q4, .inl (cI, 301, .inl S1.2.1)), (q5, .inl (cI, 301, .inl S1.2.2.1)), (q6, .inl (cI, 301, .inl S1.2.2.2.1)), (q7, .inl (cI, 301, .inl S1.2.2.2.2.1)), (q8, .inl (cI, 301, .inl S1.2.2.2.2.2.1)), (q9, .inl (cI, 301, .inl S1.2.2.2.2.2.2.1)), (q10, .inl (cI, 300, .inl S1.2.2.2.2.2.2.2.1)), (q11, .inr (2, [.ref q12, .ref q13, .int R1.2.2.1, .int R1.2.2.2.1, .int R1.2.2.2.2])), (q12, .inl (cI, 301, .inl R1.1)), (q13, .inr (0, [.ref q14, .ref q15, .ref q16, .ref q17, .int R1.2.1.2.2.2.2])), (q14, .inl (cZ, 40, .inl R1.2.1.1)), (q15, .inl (cI, 40, .inl R1.2.1.2.1)), (q16, .inl (cI, 40, .inl R1.2.1.2.2.1)), (q17, .inl (cI, 40, .inl R1.2.1.2.2.2.1))] : va_W) = [(q0, .inr (3, [.ref q2, .ref q1])), (q1, .inl (cQ, 4, .inr (.inr (.inr (.inr S0))))), (q2, .inr (1, [.ref q3, .ref q4, .ref q5, .ref q6, .ref q7, .ref q8, .ref q9, .ref q10, .int S1.2.2.2.2.2.2.2.2.1, .int S1.2.2.2.2.2.2.2.2.2])), (q3, .inl (cI, 301, .inl S1.1)), (q4, .inl (cI, 301, .inl S1.2.1)), (q5, .inl (cI, 301, .inl S1.2.2.1)), (q6, .inl (cI, 301, .inl S1.2.2.2.1)), (q7, .inl (cI, 301, .inl S1.2.2.2.2.1)), (q8, .inl (cI, 301, .inl S1.2.2.2.2.2.1)), (q9, .inl (cI, 301, .inl S1.2.2.2.2.2.2.1)), (q10, .inl (cI, 300, .inl S1.2.2.2.2.2.2.2.1)), (q11, .inr (2, [.ref q12, .ref q13, .int R1.2.2.1, .int R1.2.2.2.1, .int R1.2.2.2.2])), (q12, .inl (cI, 301, .inl R1.1)), (q13, .inr (0, [.ref q14, .ref q15, .ref q16, .ref q17, .int R1.2.1.2.2.2.2])), (q14, .inl (cZ, 40, .inl R1.2.1.1)), (q15, .inl (cI, 40, .inl R1.2.1.2.1)), (q16, .inl (cI, 40, .inl R1.2.1.2.2.1)), (q17, .inl (cI, 40, .inl R1.2.1.2.2.2.1))] from rfl).trans rfl
theorem hC_B_told_54 (cI cZ cQ : ClassId) (q0 q1 q2 q3 q4 q5 q6 q7 q8 q9 q10 q11 q12 q13 q14 q15 q16 q17 : Nat) (S0 : (Nat → Option Nat)) (S1 : cL) (S2 : cP) : ([2, 3, 4, 5, 6, 7, 8, 9, 10, 11, 12, 13, 14, 15, 16, 17] : List Nat).map (fun i => (wB cI cZ cQ q0 q1 q2 S0 ++ wL cI cZ q2 q3 q4 q5 q6 q7 q8 q9 q10 S1 ++ wP cI cZ q11 q12 q13 q14 q15 q16 q17 S2 : va_W)[i]?) = (wL cI cZ q2 q3 q4 q5 q6 q7 q8 q9 q10 S1 ++ wP cI cZ q11 q12 q13 q14 q15 q16 q17 S2 : va_W).map some := rfl
theorem hF_P_judgeAll (cI cZ cQ : ClassId) {u0 u1 u2 u3 u4 u5 u6 u7 u8 p0 p1 h0 a1 a2 a3 a4 : Nat} (S0 R0 : cL) (S1 R1 : cP) : (wL cI cZ u0 u1 u2 u3 u4 u5 u6 u7 u8 R0 ++ wP cI cZ p0 p1 h0 a1 a2 a3 a4 R1 : va_W).map Prod.fst = (wL cI cZ u0 u1 u2 u3 u4 u5 u6 u7 u8 S0 ++ wP cI cZ p0 p1 h0 a1 a2 a3 a4 S1 : va_W).map Prod.fst := rfl
theorem hU_B_told_54 (cI cZ cQ : ClassId) (q0 q1 q2 q3 q4 q5 q6 q7 q8 q9 q10 q11 q12 q13 q14 q15 q16 q17 : Nat) (S0 : (Nat → Option Nat)) (S1 : cL) (S2 : cP) (R1 : cP) : vz_put (wB cI cZ cQ q0 q1 q2 S0 ++ wL cI cZ q2 q3 q4 q5 q6 q7 q8 q9 q10 S1 ++ wP cI cZ q11 q12 q13 q14 q15 q16 q17 S2 : va_W) [2, 3, 4, 5, 6, 7, 8, 9, 10, 11, 12, 13, 14, 15, 16, 17] (wL cI cZ q2 q3 q4 q5 q6 q7 q8 q9 q10 S1 ++ wP cI cZ q11 q12 q13 q14 q15 q16 q17 R1 : va_W) = wB cI cZ cQ q0 q1 q2 S0 ++ wL cI cZ q2 q3 q4 q5 q6 q7 q8 q9 q10 S1 ++ wP cI cZ q11 q12 q13 q14 q15 q16 q17 R1 := (show vz_put ([(q0, .inr (3, [.ref q2, .ref q1])), (q1, .inl (cQ, 4, .inr (.inr (.inr (.inr S0))))), (q2, .inr (1, [.ref q3, .ref q4, .ref q5, .ref q6, .ref q7, .ref q8, .ref q9, .ref q10, .int S1.2.2.2.2.2.2.2.2.1, .int S1.2.2.2.2.2.2.2.2.2])), (q3, .inl (cI, 301, .inl S1.1)), (q4, .inl (cI, 301, .inl S1.2.1)), (q5, .inl (cI, 301, .inl S1.2.2.1)), (q6, .inl (cI, 301, .inl S1.2.2.2.1)), (q7, .inl (cI, 301, .inl S1.2.2.2.2.1)), (q8, .inl (cI, 301, .inl S1.2.2.2.2.2.1)), (q9, .inl (cI, 301, .inl S1.2.2.2.2.2.2.1)), (q10, .inl (cI, 300, .inl S1.2.2.2.2.2.2.2.1)), (q11, .inr (2, [.ref q12, .ref q13, .int S2.2.2.1, .int S2.2.2.2.1, .int S2.2.2.2.2])), (q12, .inl (cI, 301, .inl S2.1)), (q13, .inr (0, [.ref q14, .ref q15, .ref q16, .ref q17, .int S2.2.1.2.2.2.2])), (q14, .inl (cZ, 40, .inl S2.2.1.1)), (q15, .inl (cI, 40, .inl S2.2.1.2.1)), (q16, .inl (cI, 40, .inl S2.2.1.2.2.1)), (q17, .inl (cI, 40, .inl S2.2.1.2.2.2.1))] : va_W) [2, 3, 4, 5, 6, 7, 8, 9, 10, 11, 12, 13, 14, 15, 16, 17] ([(q2, .inr (1, [.ref q3, .ref q4, .ref q5, .ref q6, .ref q7, .ref q8, .ref q9, .ref q10, .int S1.2.2.2.2.2.2.2.2.1, .int S1.2.2.2.2.2.2.2.2.2])), (q3, .inl (cI, 301, .inl S1.1)), (q4, .inl (cI, 301, .inl S1.2.1)), (q5, .inl (cI, 301, .inl S1.2.2.1)), (q6, .inl (cI, 301, .inl S1.2.2.2.1)), (q7, .inl (cI, 301, .inl S1.2.2.2.2.1)), (q8, .inl (cI, 301, .inl S1.2.2.2.2.2.1)), (q9, .inl (cI, 301, .inl S1.2.2.2.2.2.2.1)), (q10, .inl (cI, 300, .inl S1.2.2.2.2.2.2.2.1)), (q11, .inr (2, [.ref q12, .ref q13, .int R1.2.2.1, .int R1.2.2.2.1, .int R1.2.2.2.2])), (q12, .inl (cI, 301, .inl R1.1)), (q13, .inr (0, [.ref q14, .ref q15, .ref q16, .ref q17, .int R1.2.1.2.2.2.2])), (q14, .inl (cZ, 40, .inl R1.2.1.1)), (q15, .inl (cI, 40, .inl R1.2.1.2.1)), (q16, .inl (cI, 40, .inl R1.2.1.2.2.1)), (q17, .inl (cI, 40, .inl R1.2.1.2.2.2.1))] : va_W) = [(q0, .inr (3, [.ref q2, .ref q1])), (q1, .inl (cQ, 4, .inr (.inr (.inr (.inr S0))))), (q2, .inr (1, [.ref q3, .ref q4, .ref q5, .ref q6, .ref q7, .ref q8, .ref q9, .ref q10, .int S1.2.2.2.2.2.2.2.2.1, .int S1.2.2.2.2.2.2.2.2.2])), (q3, .inl (cI, 301, .inl S1.1)), (q4, .inl (cI, 301, .inl S1.2.1)), (q5, .inl (cI, 301, .inl S1.2.2.1)), (q6, .inl (cI, 301, .inl S1.2.2.2.1)), (q7, .inl (cI, 301, .inl S1.2.2.2.2.1)), (q8, .inl (cI, 301, .inl S1.2.2.2.2.2.1)), (q9, .inl (cI, 301, .inl S1.2.2.2.2.2.2.1)), (q10, .inl (cI, 300, .inl S1.2.2.2.2.2.2.2.1)), (q11, .inr (2, [.ref q12, .ref q13, .int R1.2.2.1, .int R1.2.2.2.1, .int R1.2.2.2.2])), (q12, .inl (cI, 301, .inl R1.1)), (q13, .inr (0, [.ref q14, .ref q15, .ref q16, .ref q17, .int R1.2.1.2.2.2.2])), (q14, .inl (cZ, 40, .inl R1.2.1.1)), (q15, .inl (cI, 40, .inl R1.2.1.2.1)), (q16, .inl (cI, 40, .inl R1.2.1.2.2.1)), (q17, .inl (cI, 40, .inl R1.2.1.2.2.2.1))] from rfl).trans rfl
theorem hC_B_told_43 (cI cZ cQ : ClassId) (q0 q1 q2 q3 q4 q5 q6 q7 q8 q9 q10 q11 q12 q13 q14 q15 q16 q17 : Nat) (S0 : (Nat → Option Nat)) (S1 : cL) (S2 : cP) : ([2, 3, 4, 5, 6, 7, 8, 9, 10, 11, 12, 13, 14, 15, 16, 17] : List Nat).map (fun i => (wB cI cZ cQ q0 q1 q2 S0 ++ wL cI cZ q2 q3 q4 q5 q6 q7 q8 q9 q10 S1 ++ wP cI cZ q11 q12 q13 q14 q15 q16 q17 S2 : va_W)[i]?) = (wL cI cZ q2 q3 q4 q5 q6 q7 q8 q9 q10 S1 ++ wP cI cZ q11 q12 q13 q14 q15 q16 q17 S2 : va_W).map some := rfl
theorem hU_B_told_43 (cI cZ cQ : ClassId) (q0 q1 q2 q3 q4 q5 q6 q7 q8 q9 q10 q11 q12 q13 q14 q15 q16 q17 : Nat) (S0 : (Nat → Option Nat)) (S1 : cL) (S2 : cP) (R1 : cP) : vz_put (wB cI cZ cQ q0 q1 q2 S0 ++ wL cI cZ q2 q3 q4 q5 q6 q7 q8 q9 q10 S1 ++ wP cI cZ q11 q12 q13 q14 q15 q16 q17 S2 : va_W) [2, 3, 4, 5, 6, 7, 8, 9, 10, 11, 12, 13, 14, 15, 16, 17] (wL cI cZ q2 q3 q4 q5 q6 q7 q8 q9 q10 S1 ++ wP cI cZ q11 q12 q13 q14 q15 q16 q17 R1 : va_W) = wB cI cZ cQ q0 q1 q2 S0 ++ wL cI cZ q2 q3 q4 q5 q6 q7 q8 q9 q10 S1 ++ wP cI cZ q11 q12 q13 q14 q15 q16 q17 R1 := (show vz_put ([(q0, .inr (3, [.ref q2, .ref q1])), (q1, .inl (cQ, 4, .inr (.inr (.inr (.inr S0))))), (q2, .inr (1, [.ref q3, .ref q4, .ref q5, .ref q6, .ref q7, .ref q8, .ref q9, .ref q10, .int S1.2.2.2.2.2.2.2.2.1, .int S1.2.2.2.2.2.2.2.2.2])), (q3, .inl (cI, 301, .inl S1.1)), (q4, .inl (cI, 301, .inl S1.2.1)), (q5, .inl (cI, 301, .inl S1.2.2.1)), (q6, .inl (cI, 301, .inl S1.2.2.2.1)), (q7, .inl (cI, 301, .inl S1.2.2.2.2.1)), (q8, .inl (cI, 301, .inl S1.2.2.2.2.2.1)), (q9, .inl (cI, 301, .inl S1.2.2.2.2.2.2.1)), (q10, .inl (cI, 300, .inl S1.2.2.2.2.2.2.2.1)), (q11, .inr (2, [.ref q12, .ref q13, .int S2.2.2.1, .int S2.2.2.2.1, .int S2.2.2.2.2])), (q12, .inl (cI, 301, .inl S2.1)), (q13, .inr (0, [.ref q14, .ref q15, .ref q16, .ref q17, .int S2.2.1.2.2.2.2])), (q14, .inl (cZ, 40, .inl S2.2.1.1)), (q15, .inl (cI, 40, .inl S2.2.1.2.1)), (q16, .inl (cI, 40, .inl S2.2.1.2.2.1)), (q17, .inl (cI, 40, .inl S2.2.1.2.2.2.1))] : va_W) [2, 3, 4, 5, 6, 7, 8, 9, 10, 11, 12, 13, 14, 15, 16, 17] ([(q2, .inr (1, [.ref q3, .ref q4, .ref q5, .ref q6, .ref q7, .ref q8, .ref q9, .ref q10, .int S1.2.2.2.2.2.2.2.2.1, .int S1.2.2.2.2.2.2.2.2.2])), (q3, .inl (cI, 301, .inl S1.1)), (q4, .inl (cI, 301, .inl S1.2.1)), (q5, .inl (cI, 301, .inl S1.2.2.1)), (q6, .inl (cI, 301, .inl S1.2.2.2.1)), (q7, .inl (cI, 301, .inl S1.2.2.2.2.1)), (q8, .inl (cI, 301, .inl S1.2.2.2.2.2.1)), (q9, .inl (cI, 301, .inl S1.2.2.2.2.2.2.1)), (q10, .inl (cI, 300, .inl S1.2.2.2.2.2.2.2.1)), (q11, .inr (2, [.ref q12, .ref q13, .int R1.2.2.1, .int R1.2.2.2.1, .int R1.2.2.2.2])), (q12, .inl (cI, 301, .inl R1.1)), (q13, .inr (0, [.ref q14, .ref q15, .ref q16, .ref q17, .int R1.2.1.2.2.2.2])), (q14, .inl (cZ, 40, .inl R1.2.1.1)), (q15, .inl (cI, 40, .inl R1.2.1.2.1)), (q16, .inl (cI, 40, .inl R1.2.1.2.2.1)), (q17, .inl (cI, 40, .inl R1.2.1.2.2.2.1))] : va_W) = [(q0, .inr (3, [.ref q2, .ref q1])), (q1, .inl (cQ, 4, .inr (.inr (.inr (.inr S0))))), (q2, .inr (1, [.ref q3, .ref q4, .ref q5, .ref q6, .ref q7, .ref q8, .ref q9, .ref q10, .int S1.2.2.2.2.2.2.2.2.1, .int S1.2.2.2.2.2.2.2.2.2])), (q3, .inl (cI, 301, .inl S1.1)), (q4, .inl (cI, 301, .inl S1.2.1)), (q5, .inl (cI, 301, .inl S1.2.2.1)), (q6, .inl (cI, 301, .inl S1.2.2.2.1)), (q7, .inl (cI, 301, .inl S1.2.2.2.2.1)), (q8, .inl (cI, 301, .inl S1.2.2.2.2.2.1)), (q9, .inl (cI, 301, .inl S1.2.2.2.2.2.2.1)), (q10, .inl (cI, 300, .inl S1.2.2.2.2.2.2.2.1)), (q11, .inr (2, [.ref q12, .ref q13, .int R1.2.2.1, .int R1.2.2.2.1, .int R1.2.2.2.2])), (q12, .inl (cI, 301, .inl R1.1)), (q13, .inr (0, [.ref q14, .ref q15, .ref q16, .ref q17, .int R1.2.1.2.2.2.2])), (q14, .inl (cZ, 40, .inl R1.2.1.1)), (q15, .inl (cI, 40, .inl R1.2.1.2.1)), (q16, .inl (cI, 40, .inl R1.2.1.2.2.1)), (q17, .inl (cI, 40, .inl R1.2.1.2.2.2.1))] from rfl).trans rfl
def m_B_told (L : cL) (P : cP) (x1 : Int32) (x2 : Int32) : Int32 × cP := (if (m_P_learn L P x2).2.2.2.2 = 1 then (if (L.1 x2.toNatClampNeg) = 4 then (x2, (m_P_judgeAll L (m_P_learn L P x2))) else (x2, (m_P_judge L (m_P_learn L P x2) x2))) else (x2, (m_P_judgeAll L (m_P_learn L P x2))))
set_option maxHeartbeats 1000000 in
set_option maxRecDepth 100000 in
theorem c_B_told (l : Launch) (dC : Nat → ClassId) (dI : Nat → Nat → Nat) (cI cZ cQ : ClassId) (b0 : Nat) (b1 : Nat) (F : Nat → Option Nat) (u0 : Nat) (u1 : Nat) (u2 : Nat) (u3 : Nat) (u4 : Nat) (u5 : Nat) (u6 : Nat) (u7 : Nat) (u8 : Nat) (L : cL) (p0 : Nat) (p1 : Nat) (h0 : Nat) (a1 : Nat) (a2 : Nat) (a3 : Nat) (a4 : Nat) (P : cP) (x1 : Int32) (x2 : Int32) (hF : F x1.toNatClampNeg = some p0) (h1 : 0 ≤ x1.toInt ∧ x1.toInt < 4) (hk : okTold L P x2) : vz_C l (dC, dI) classes [(cI, .int), (cZ, .boolean), (cQ, .object "BinTrees$Person")] y_B_told (Cond.code y_B_told b_B_told 4 (some .int) :: vz_tbl) ({ frames := 5, cells := 0, slots := 0, locals := 118 }) [.ref b0, .int x1, .int x2] (wB cI cZ cQ b0 b1 u0 F ++ wL cI cZ u0 u1 u2 u3 u4 u5 u6 u7 u8 L ++ wP cI cZ p0 p1 h0 a1 a2 a3 a4 P) (some (.int ((m_B_told L P x1 x2).1))) (wB cI cZ cQ b0 b1 u0 F ++ wL cI cZ u0 u1 u2 u3 u4 u5 u6 u7 u8 L ++ wP cI cZ p0 p1 h0 a1 a2 a3 a4 ((m_B_told L P x1 x2).2)) := by
  generalize hres : (m_B_told L P x1 x2) = RES
  refine vz_C.of (by decide) (Nat.le_of_ble_eq_true rfl) ?_
  intro p e s m below meth c ls E hl hK hP hD hS
  obtain ⟨hx, hb, hr, hml, hown, hT, hlocks⟩ := E
  obtain ⟨Q, hQ⟩ : ∃ Q, Q = MQ below (vz_Q (dC, dI) classes (wB cI cZ cQ b0 b1 u0 F ++ wL cI cZ u0 u1 u2 u3 u4 u5 u6 u7 u8 L ++ wP cI cZ p0 p1 h0 a1 a2 a3 a4 P) (some (.int RES.1)) (wB cI cZ cQ b0 b1 u0 F ++ wL cI cZ u0 u1 u2 u3 u4 u5 u6 u7 u8 L ++ wP cI cZ p0 p1 h0 a1 a2 a3 a4 RES.2)) ([.ref b0, .int x1, .int x2] : List Value).toArray s 0 0 (vz_A (wB cI cZ cQ b0 b1 u0 F ++ wL cI cZ u0 u1 u2 u3 u4 u5 u6 u7 u8 L ++ wP cI cZ p0 p1 h0 a1 a2 a3 a4 P)) := ⟨_, rfl⟩
  rw [← hQ]
  have hl : lv_has ls 4 [(0, .ref b0), (1, .int x1), (2, .int x2)] := hl
  have T0 := ti_0
  have T1 := ti_1
  have Tm := ti_m1
  have T8 := ti_8
  have T39 := ti_39
  have T40 := ti_40
  have T4 := ti_4
  have T300 := ti_300
  obtain ⟨hok, hrow, hL, J, hJ0, hJk⟩ := hk
  have h2 := hrow.1
  have hS0 := hS
  refine lv_aload_n hx hb d_B_told_0 rfl (lv_at hl 0 rfl) ?_
  refine va_get (D := (dC, dI)) (ci := 3) (v := .ref b1) (C := R_B) (T := F_B) (N := 2) hx hb hT i_B hown hK hP 0 rfl rfl 1 (by decide) (hT _ kw_133) (fun _ h9 => h9) rfl d_B_told_1 ?_
  refine lv_iload_n hx hb d_B_told_4 rfl (lv_at hl 1 rfl) ?_
  refine va_aldq hx hb hK hP 1 2 rfl rfl (ti_vp (by omega) (by omega)) d_B_told_5 ?_
  rw [show va_rf (F x1.toNatClampNeg) = .ref p0 from by rw [hF]; rfl]
  refine lv_astore_n (lv' := [(3, .ref p0), (0, .ref b0), (1, .int x1), (2, .int x2)]) hx hb d_B_told_6 rfl hl (by decide) rfl (fun ls hl => ?_)
  refine lv_aload_n hx hb d_B_told_7 rfl (lv_at hl 0 rfl) ?_
  refine lv_aload_n hx hb d_B_told_8 rfl (lv_at hl 1 rfl) ?_
  refine va_get (D := (dC, dI)) (ci := 3) (v := .ref u0) (C := R_B) (T := F_B) (N := 2) hx hb hT i_B hown hK hP 0 rfl rfl 0 (by decide) (hT _ kw_132) (fun _ h9 => h9) rfl d_B_told_9 ?_
  refine lv_iload_n hx hb d_B_told_12 rfl (lv_at hl 3 rfl) ?_
  have hc := c_P_learn l dC dI cI cZ cQ u0 u1 u2 u3 u4 u5 u6 u7 u8 L p0 p1 h0 a1 a2 a3 a4 P x2 (hL.1) (hL.2.1) (h2) (hrow.2.2.2.2)
  generalize hg_13 : (m_P_learn L P x2) = g_13 at hc
  refine vz_callV (As := [.ref u0, .int x2]) (rest := []) ⟨hx, hb, hml, hown, hT⟩ hc (vz_goodV kw_166 kw_167 kw_168 kw_3 kw_169) ⟨rfl, hd_P_learn⟩ ⟨⟨rfl, rfl⟩, Nat.le_of_ble_eq_true rfl, Nat.le_of_ble_eq_true rfl⟩ hK hP hD hS [2, 3, 4, 5, 6, 7, 8, 9, 10, 11, 12, 13, 14, 15, 16, 17] rfl (hC_B_told_13 cI cZ cQ b0 b1 u0 u1 u2 u3 u4 u5 u6 u7 u8 p0 p1 h0 a1 a2 a3 a4 F L P) (hF_P_learn cI cZ cQ _ _ _ _) 9 2 rfl rfl rfl rfl hl.1 rfl (Nat.le_of_ble_eq_true rfl) ⟨Nat.zero_le _, Nat.zero_le _⟩ d_B_told_13 (fun H locs hP hD hS => ?_)
  have hP : va_P (dC, dI) classes (wB cI cZ cQ b0 b1 u0 F ++ wL cI cZ u0 u1 u2 u3 u4 u5 u6 u7 u8 L ++ wP cI cZ p0 p1 h0 a1 a2 a3 a4 g_13) H := vz_reP (hU_B_told_13 cI cZ cQ b0 b1 u0 u1 u2 u3 u4 u5 u6 u7 u8 p0 p1 h0 a1 a2 a3 a4 F L P g_13) hP
  have hD : va_D (vz_A (wB cI cZ cQ b0 b1 u0 F ++ wL cI cZ u0 u1 u2 u3 u4 u5 u6 u7 u8 L ++ wP cI cZ p0 p1 h0 a1 a2 a3 a4 P)) (wB cI cZ cQ b0 b1 u0 F ++ wL cI cZ u0 u1 u2 u3 u4 u5 u6 u7 u8 L ++ wP cI cZ p0 p1 h0 a1 a2 a3 a4 g_13) := vz_reD (hU_B_told_13 cI cZ cQ b0 b1 u0 u1 u2 u3 u4 u5 u6 u7 u8 p0 p1 h0 a1 a2 a3 a4 F L P g_13) hD
  have ok1 : okT g_13.2.1 := by rw [← hg_13, learn_tree]; exact hok
  refine W.eq (g2 := F0 m 16 ls []) rfl ?_
  refine lv_aload_n hx hb d_B_told_16 rfl (lv_at hl 0 rfl) ?_
  refine va_get (D := (dC, dI)) (ci := 2) (v := .int g_13.2.2.2.2) (C := R_P) (T := F_P) (N := 5) hx hb hT i_P hown hK hP 11 rfl rfl 4 (by decide) (hT _ kw_120) (fun _ h9 => h9) rfl d_B_told_17 ?_
  refine lv_iconst (v := 1) hx hb d_B_told_20 (by decide) ?_
  refine lv_icmp_ne (tgt := 49) hx hb d_B_told_21 (by decide) (fun c_21 => ?_) (fun c_21 => ?_)
  · have z_21 := mt Int32.toInt_inj.mp c_21
    refine lv_aload_n hx hb d_B_told_49 rfl (lv_at hl 0 rfl) ?_
    refine lv_aload_n hx hb d_B_told_50 rfl (lv_at hl 1 rfl) ?_
    refine va_get (D := (dC, dI)) (ci := 3) (v := .ref u0) (C := R_B) (T := F_B) (N := 2) hx hb hT i_B hown hK hP 0 rfl rfl 0 (by decide) (hT _ kw_132) (fun _ h9 => h9) rfl d_B_told_51 ?_
    have hc := c_P_judgeAll l dC dI cI cZ cQ u0 u1 u2 u3 u4 u5 u6 u7 u8 L p0 p1 h0 a1 a2 a3 a4 g_13 J (hL.1) (hL.2.1) (by rw [← hg_13]; exact hJ0) (hJk)
    generalize hg_54 : (m_P_judgeAll L g_13) = g_54 at hc
    refine vz_callV (As := [.ref u0]) (rest := []) ⟨hx, hb, hml, hown, hT⟩ hc (vz_goodV kw_221 kw_222 kw_223 kw_3 kw_224) ⟨rfl, hd_P_judgeAll⟩ ⟨⟨rfl, rfl⟩, Nat.le_of_ble_eq_true rfl, Nat.le_of_ble_eq_true rfl⟩ hK hP hD hS [2, 3, 4, 5, 6, 7, 8, 9, 10, 11, 12, 13, 14, 15, 16, 17] rfl (hC_B_told_54 cI cZ cQ b0 b1 u0 u1 u2 u3 u4 u5 u6 u7 u8 p0 p1 h0 a1 a2 a3 a4 F L g_13) (hF_P_judgeAll cI cZ cQ _ _ _ _) 9 2 rfl rfl rfl rfl hl.1 rfl (Nat.le_of_ble_eq_true rfl) ⟨Nat.zero_le _, Nat.zero_le _⟩ d_B_told_54 (fun H locs hP hD hS => ?_)
    have hP : va_P (dC, dI) classes (wB cI cZ cQ b0 b1 u0 F ++ wL cI cZ u0 u1 u2 u3 u4 u5 u6 u7 u8 L ++ wP cI cZ p0 p1 h0 a1 a2 a3 a4 g_54) H := vz_reP (hU_B_told_54 cI cZ cQ b0 b1 u0 u1 u2 u3 u4 u5 u6 u7 u8 p0 p1 h0 a1 a2 a3 a4 F L g_13 g_54) hP
    have hD : va_D (vz_A (wB cI cZ cQ b0 b1 u0 F ++ wL cI cZ u0 u1 u2 u3 u4 u5 u6 u7 u8 L ++ wP cI cZ p0 p1 h0 a1 a2 a3 a4 P)) (wB cI cZ cQ b0 b1 u0 F ++ wL cI cZ u0 u1 u2 u3 u4 u5 u6 u7 u8 L ++ wP cI cZ p0 p1 h0 a1 a2 a3 a4 g_54) := vz_reD (hU_B_told_54 cI cZ cQ b0 b1 u0 u1 u2 u3 u4 u5 u6 u7 u8 p0 p1 h0 a1 a2 a3 a4 F L g_13 g_54) hD
    refine W.eq (g2 := F0 m 57 ls []) rfl ?_
    refine lv_iload_n hx hb d_B_told_57 rfl (lv_at hl 3 rfl) ?_
    rw [m_B_told] at hres
    try rw [hg_13] at hres
    rw [if_neg c_21] at hres
    try rw [hg_54] at hres
    subst hres
    subst hQ
    exact vz_iret hx hb hr hlocks d_B_told_58 hS rfl hP
  · have z_21 := congrArg Int32.toInt c_21
    refine lv_aload_n hx hb d_B_told_24 rfl (lv_at hl 1 rfl) ?_
    refine va_get (D := (dC, dI)) (ci := 3) (v := .ref u0) (C := R_B) (T := F_B) (N := 2) hx hb hT i_B hown hK hP 0 rfl rfl 0 (by decide) (hT _ kw_132) (fun _ h9 => h9) rfl d_B_told_25 ?_
    refine va_get (D := (dC, dI)) (ci := 1) (v := .ref u1) (C := R_L) (T := F_L) (N := 10) hx hb hT i_L hown hK hP 2 rfl rfl 0 (by decide) (hT _ kw_24) (fun _ h9 => h9) rfl d_B_told_28 ?_
    refine lv_iload_n hx hb d_B_told_31 rfl (lv_at hl 3 rfl) ?_
    refine va_iald hx hb hK hP 3 0 rfl rfl (ti_vp (by omega) (by omega)) d_B_told_32 ?_
    refine lv_iconst (v := 4) hx hb d_B_told_33 (by decide) ?_
    refine lv_icmp_eq (tgt := 49) hx hb d_B_told_34 (by decide) (fun c_34 => ?_) (fun c_34 => ?_)
    · have z_34 := congrArg Int32.toInt c_34
      refine lv_aload_n hx hb d_B_told_49 rfl (lv_at hl 0 rfl) ?_
      refine lv_aload_n hx hb d_B_told_50 rfl (lv_at hl 1 rfl) ?_
      refine va_get (D := (dC, dI)) (ci := 3) (v := .ref u0) (C := R_B) (T := F_B) (N := 2) hx hb hT i_B hown hK hP 0 rfl rfl 0 (by decide) (hT _ kw_132) (fun _ h9 => h9) rfl d_B_told_51 ?_
      have hc := c_P_judgeAll l dC dI cI cZ cQ u0 u1 u2 u3 u4 u5 u6 u7 u8 L p0 p1 h0 a1 a2 a3 a4 g_13 J (hL.1) (hL.2.1) (by rw [← hg_13]; exact hJ0) (hJk)
      generalize hg_54 : (m_P_judgeAll L g_13) = g_54 at hc
      refine vz_callV (As := [.ref u0]) (rest := []) ⟨hx, hb, hml, hown, hT⟩ hc (vz_goodV kw_221 kw_222 kw_223 kw_3 kw_224) ⟨rfl, hd_P_judgeAll⟩ ⟨⟨rfl, rfl⟩, Nat.le_of_ble_eq_true rfl, Nat.le_of_ble_eq_true rfl⟩ hK hP hD hS [2, 3, 4, 5, 6, 7, 8, 9, 10, 11, 12, 13, 14, 15, 16, 17] rfl (hC_B_told_54 cI cZ cQ b0 b1 u0 u1 u2 u3 u4 u5 u6 u7 u8 p0 p1 h0 a1 a2 a3 a4 F L g_13) (hF_P_judgeAll cI cZ cQ _ _ _ _) 9 2 rfl rfl rfl rfl hl.1 rfl (Nat.le_of_ble_eq_true rfl) ⟨Nat.zero_le _, Nat.zero_le _⟩ d_B_told_54 (fun H locs hP hD hS => ?_)
      have hP : va_P (dC, dI) classes (wB cI cZ cQ b0 b1 u0 F ++ wL cI cZ u0 u1 u2 u3 u4 u5 u6 u7 u8 L ++ wP cI cZ p0 p1 h0 a1 a2 a3 a4 g_54) H := vz_reP (hU_B_told_54 cI cZ cQ b0 b1 u0 u1 u2 u3 u4 u5 u6 u7 u8 p0 p1 h0 a1 a2 a3 a4 F L g_13 g_54) hP
      have hD : va_D (vz_A (wB cI cZ cQ b0 b1 u0 F ++ wL cI cZ u0 u1 u2 u3 u4 u5 u6 u7 u8 L ++ wP cI cZ p0 p1 h0 a1 a2 a3 a4 P)) (wB cI cZ cQ b0 b1 u0 F ++ wL cI cZ u0 u1 u2 u3 u4 u5 u6 u7 u8 L ++ wP cI cZ p0 p1 h0 a1 a2 a3 a4 g_54) := vz_reD (hU_B_told_54 cI cZ cQ b0 b1 u0 u1 u2 u3 u4 u5 u6 u7 u8 p0 p1 h0 a1 a2 a3 a4 F L g_13 g_54) hD
      refine W.eq (g2 := F0 m 57 ls []) rfl ?_
      refine lv_iload_n hx hb d_B_told_57 rfl (lv_at hl 3 rfl) ?_
      rw [m_B_told] at hres
      try rw [hg_13] at hres
      rw [if_pos c_21, if_pos c_34] at hres
      try rw [hg_54] at hres
      subst hres
      subst hQ
      exact vz_iret hx hb hr hlocks d_B_told_58 hS rfl hP
    · have z_34 := mt Int32.toInt_inj.mp c_34
      refine lv_aload_n hx hb d_B_told_37 rfl (lv_at hl 0 rfl) ?_
      refine lv_aload_n hx hb d_B_told_38 rfl (lv_at hl 1 rfl) ?_
      refine va_get (D := (dC, dI)) (ci := 3) (v := .ref u0) (C := R_B) (T := F_B) (N := 2) hx hb hT i_B hown hK hP 0 rfl rfl 0 (by decide) (hT _ kw_132) (fun _ h9 => h9) rfl d_B_told_39 ?_
      refine lv_iload_n hx hb d_B_told_42 rfl (lv_at hl 3 rfl) ?_
      have hc := c_P_judge l dC dI cI cZ cQ u0 u1 u2 u3 u4 u5 u6 u7 u8 L p0 p1 h0 a1 a2 a3 a4 g_13 x2 (ok1) (hrow)
      generalize hg_43 : (m_P_judge L g_13 x2) = g_43 at hc
      refine vz_callV (As := [.ref u0, .int x2]) (rest := []) ⟨hx, hb, hml, hown, hT⟩ hc (vz_goodV kw_181 kw_182 kw_183 kw_3 kw_184) ⟨rfl, hd_P_judge⟩ ⟨⟨rfl, rfl⟩, Nat.le_of_ble_eq_true rfl, Nat.le_of_ble_eq_true rfl⟩ hK hP hD hS [2, 3, 4, 5, 6, 7, 8, 9, 10, 11, 12, 13, 14, 15, 16, 17] rfl (hC_B_told_43 cI cZ cQ b0 b1 u0 u1 u2 u3 u4 u5 u6 u7 u8 p0 p1 h0 a1 a2 a3 a4 F L g_13) (hF_P_judge cI cZ cQ _ _ _ _) 9 2 rfl rfl rfl rfl hl.1 rfl (Nat.le_of_ble_eq_true rfl) ⟨Nat.zero_le _, Nat.zero_le _⟩ d_B_told_43 (fun H locs hP hD hS => ?_)
      have hP : va_P (dC, dI) classes (wB cI cZ cQ b0 b1 u0 F ++ wL cI cZ u0 u1 u2 u3 u4 u5 u6 u7 u8 L ++ wP cI cZ p0 p1 h0 a1 a2 a3 a4 g_43) H := vz_reP (hU_B_told_43 cI cZ cQ b0 b1 u0 u1 u2 u3 u4 u5 u6 u7 u8 p0 p1 h0 a1 a2 a3 a4 F L g_13 g_43) hP
      have hD : va_D (vz_A (wB cI cZ cQ b0 b1 u0 F ++ wL cI cZ u0 u1 u2 u3 u4 u5 u6 u7 u8 L ++ wP cI cZ p0 p1 h0 a1 a2 a3 a4 P)) (wB cI cZ cQ b0 b1 u0 F ++ wL cI cZ u0 u1 u2 u3 u4 u5 u6 u7 u8 L ++ wP cI cZ p0 p1 h0 a1 a2 a3 a4 g_43) := vz_reD (hU_B_told_43 cI cZ cQ b0 b1 u0 u1 u2 u3 u4 u5 u6 u7 u8 p0 p1 h0 a1 a2 a3 a4 F L g_13 g_43) hD
      refine W.eq (g2 := F0 m 46 ls []) rfl ?_
      refine lv_goto (tgt := 57) hx hb d_B_told_46 (by decide) ?_
      refine lv_iload_n hx hb d_B_told_57 rfl (lv_at hl 3 rfl) ?_
      rw [m_B_told] at hres
      try rw [hg_13] at hres
      rw [if_pos c_21, if_neg c_34] at hres
      try rw [hg_43] at hres
      subst hres
      subst hQ
      exact vz_iret hx hb hr hlocks d_B_told_58 hS rfl hP
end
section
theorem d_B_make_0 : decode b_B_make 0 = .ok (.aload_n 0, 1) := by decide +kernel
theorem d_B_make_1 : decode b_B_make 1 = .ok (.iload_n 1, 1) := by decide +kernel
theorem d_B_make_2 : decode b_B_make 2 = .ok (.invokevirtual 23, 3) := by decide +kernel
theorem d_B_make_5 : decode b_B_make 5 = .ok (.ifCond .eq 15, 3) := by decide +kernel
theorem d_B_make_8 : decode b_B_make 8 = .ok (.aload_n 0, 1) := by decide +kernel
theorem d_B_make_9 : decode b_B_make 9 = .ok (.getfield 10, 3) := by decide +kernel
theorem d_B_make_12 : decode b_B_make 12 = .ok (.getfield 27, 3) := by decide +kernel
theorem d_B_make_15 : decode b_B_make 15 = .ok (.bipush 39, 2) := by decide +kernel
theorem d_B_make_17 : decode b_B_make 17 = .ok (.if_icmp .lt 5, 3) := by decide +kernel
theorem d_B_make_20 : decode b_B_make 20 = .ok (.iconst (-1), 1) := by decide +kernel
theorem d_B_make_21 : decode b_B_make 21 = .ok (.ireturn, 1) := by decide +kernel
theorem d_B_make_22 : decode b_B_make 22 = .ok (.aload_n 0, 1) := by decide +kernel
theorem d_B_make_23 : decode b_B_make 23 = .ok (.getfield 10, 3) := by decide +kernel
theorem d_B_make_26 : decode b_B_make 26 = .ok (.dup, 1) := by decide +kernel
theorem d_B_make_27 : decode b_B_make 27 = .ok (.getfield 27, 3) := by decide +kernel
theorem d_B_make_30 : decode b_B_make 30 = .ok (.iconst 1, 1) := by decide +kernel
theorem d_B_make_31 : decode b_B_make 31 = .ok (.iadd, 1) := by decide +kernel
theorem d_B_make_32 : decode b_B_make 32 = .ok (.putfield 27, 3) := by decide +kernel
theorem d_B_make_35 : decode b_B_make 35 = .ok (.aload_n 0, 1) := by decide +kernel
theorem d_B_make_36 : decode b_B_make 36 = .ok (.iload_n 1, 1) := by decide +kernel
theorem d_B_make_37 : decode b_B_make 37 = .ok (.aload_n 0, 1) := by decide +kernel
theorem d_B_make_38 : decode b_B_make 38 = .ok (.getfield 10, 3) := by decide +kernel
theorem d_B_make_41 : decode b_B_make 41 = .ok (.iconst 0, 1) := by decide +kernel
theorem d_B_make_42 : decode b_B_make 42 = .ok (.iload_n 1, 1) := by decide +kernel
theorem d_B_make_43 : decode b_B_make 43 = .ok (.aload_n 0, 1) := by decide +kernel
theorem d_B_make_44 : decode b_B_make 44 = .ok (.getfield 18, 3) := by decide +kernel
theorem d_B_make_47 : decode b_B_make 47 = .ok (.iload_n 1, 1) := by decide +kernel
theorem d_B_make_48 : decode b_B_make 48 = .ok (.aaload, 1) := by decide +kernel
theorem d_B_make_49 : decode b_B_make 49 = .ok (.getfield 31, 3) := by decide +kernel
theorem d_B_make_52 : decode b_B_make 52 = .ok (.iconst 1, 1) := by decide +kernel
theorem d_B_make_53 : decode b_B_make 53 = .ok (.iadd, 1) := by decide +kernel
theorem d_B_make_54 : decode b_B_make 54 = .ok (.aload_n 0, 1) := by decide +kernel
theorem d_B_make_55 : decode b_B_make 55 = .ok (.getfield 10, 3) := by decide +kernel
theorem d_B_make_58 : decode b_B_make 58 = .ok (.getfield 27, 3) := by decide +kernel
theorem d_B_make_61 : decode b_B_make 61 = .ok (.iconst (-1), 1) := by decide +kernel
theorem d_B_make_62 : decode b_B_make 62 = .ok (.iconst (-1), 1) := by decide +kernel
theorem d_B_make_63 : decode b_B_make 63 = .ok (.invokevirtual 34, 3) := by decide +kernel
theorem d_B_make_66 : decode b_B_make 66 = .ok (.invokevirtual 38, 3) := by decide +kernel
theorem d_B_make_69 : decode b_B_make 69 = .ok (.pop, 1) := by decide +kernel
theorem d_B_make_70 : decode b_B_make 70 = .ok (.aload_n 0, 1) := by decide +kernel
theorem d_B_make_71 : decode b_B_make 71 = .ok (.getfield 10, 3) := by decide +kernel
theorem d_B_make_74 : decode b_B_make 74 = .ok (.getfield 27, 3) := by decide +kernel
theorem d_B_make_77 : decode b_B_make 77 = .ok (.ireturn, 1) := by decide +kernel
theorem hC_B_make_2 (cI cZ cQ : ClassId) (q0 q1 q2 q3 q4 q5 q6 q7 q8 q9 q10 q11 q12 q13 q14 q15 q16 q17 : Nat) (S0 : (Nat → Option Nat)) (S1 : cL) (S2 : cP) : ([0, 1, 2, 3, 4, 5, 6, 7, 8, 9, 10] : List Nat).map (fun i => (wB cI cZ cQ q0 q1 q2 S0 ++ wL cI cZ q2 q3 q4 q5 q6 q7 q8 q9 q10 S1 ++ wP cI cZ q11 q12 q13 q14 q15 q16 q17 S2 : va_W)[i]?) = (wB cI cZ cQ q0 q1 q2 S0 ++ wL cI cZ q2 q3 q4 q5 q6 q7 q8 q9 q10 S1 : va_W).map some := rfl
theorem hF_B_mayWrite (cI cZ cQ : ClassId) {b0 b1 u0 u1 u2 u3 u4 u5 u6 u7 u8 : Nat} (S0 R0 : (Nat → Option Nat)) (S1 R1 : cL) : (wB cI cZ cQ b0 b1 u0 R0 ++ wL cI cZ u0 u1 u2 u3 u4 u5 u6 u7 u8 R1 : va_W).map Prod.fst = (wB cI cZ cQ b0 b1 u0 S0 ++ wL cI cZ u0 u1 u2 u3 u4 u5 u6 u7 u8 S1 : va_W).map Prod.fst := rfl
theorem hU_B_make_2 (cI cZ cQ : ClassId) (q0 q1 q2 q3 q4 q5 q6 q7 q8 q9 q10 q11 q12 q13 q14 q15 q16 q17 : Nat) (S0 : (Nat → Option Nat)) (S1 : cL) (S2 : cP)  : vz_put (wB cI cZ cQ q0 q1 q2 S0 ++ wL cI cZ q2 q3 q4 q5 q6 q7 q8 q9 q10 S1 ++ wP cI cZ q11 q12 q13 q14 q15 q16 q17 S2 : va_W) [0, 1, 2, 3, 4, 5, 6, 7, 8, 9, 10] (wB cI cZ cQ q0 q1 q2 S0 ++ wL cI cZ q2 q3 q4 q5 q6 q7 q8 q9 q10 S1 : va_W) = wB cI cZ cQ q0 q1 q2 S0 ++ wL cI cZ q2 q3 q4 q5 q6 q7 q8 q9 q10 S1 ++ wP cI cZ q11 q12 q13 q14 q15 q16 q17 S2 := (show vz_put ([(q0, .inr (3, [.ref q2, .ref q1])), (q1, .inl (cQ, 4, .inr (.inr (.inr (.inr S0))))), (q2, .inr (1, [.ref q3, .ref q4, .ref q5, .ref q6, .ref q7, .ref q8, .ref q9, .ref q10, .int S1.2.2.2.2.2.2.2.2.1, .int S1.2.2.2.2.2.2.2.2.2])), (q3, .inl (cI, 301, .inl S1.1)), (q4, .inl (cI, 301, .inl S1.2.1)), (q5, .inl (cI, 301, .inl S1.2.2.1)), (q6, .inl (cI, 301, .inl S1.2.2.2.1)), (q7, .inl (cI, 301, .inl S1.2.2.2.2.1)), (q8, .inl (cI, 301, .inl S1.2.2.2.2.2.1)), (q9, .inl (cI, 301, .inl S1.2.2.2.2.2.2.1)), (q10, .inl (cI, 300, .inl S1.2.2.2.2.2.2.2.1)), (q11, .inr (2, [.ref q12, .ref q13, .int S2.2.2.1, .int S2.2.2.2.1, .int S2.2.2.2.2])), (q12, .inl (cI, 301, .inl S2.1)), (q13, .inr (0, [.ref q14, .ref q15, .ref q16, .ref q17, .int S2.2.1.2.2.2.2])), (q14, .inl (cZ, 40, .inl S2.2.1.1)), (q15, .inl (cI, 40, .inl S2.2.1.2.1)), (q16, .inl (cI, 40, .inl S2.2.1.2.2.1)), (q17, .inl (cI, 40, .inl S2.2.1.2.2.2.1))] : va_W) [0, 1, 2, 3, 4, 5, 6, 7, 8, 9, 10] ([(q0, .inr (3, [.ref q2, .ref q1])), (q1, .inl (cQ, 4, .inr (.inr (.inr (.inr S0))))), (q2, .inr (1, [.ref q3, .ref q4, .ref q5, .ref q6, .ref q7, .ref q8, .ref q9, .ref q10, .int S1.2.2.2.2.2.2.2.2.1, .int S1.2.2.2.2.2.2.2.2.2])), (q3, .inl (cI, 301, .inl S1.1)), (q4, .inl (cI, 301, .inl S1.2.1)), (q5, .inl (cI, 301, .inl S1.2.2.1)), (q6, .inl (cI, 301, .inl S1.2.2.2.1)), (q7, .inl (cI, 301, .inl S1.2.2.2.2.1)), (q8, .inl (cI, 301, .inl S1.2.2.2.2.2.1)), (q9, .inl (cI, 301, .inl S1.2.2.2.2.2.2.1)), (q10, .inl (cI, 300, .inl S1.2.2.2.2.2.2.2.1))] : va_W) = [(q0, .inr (3, [.ref q2, .ref q1])), (q1, .inl (cQ, 4, .inr (.inr (.inr (.inr S0))))), (q2, .inr (1, [.ref q3, .ref q4, .ref q5, .ref q6, .ref q7, .ref q8, .ref q9, .ref q10, .int S1.2.2.2.2.2.2.2.2.1, .int S1.2.2.2.2.2.2.2.2.2])), (q3, .inl (cI, 301, .inl S1.1)), (q4, .inl (cI, 301, .inl S1.2.1)), (q5, .inl (cI, 301, .inl S1.2.2.1)), (q6, .inl (cI, 301, .inl S1.2.2.2.1)), (q7, .inl (cI, 301, .inl S1.2.2.2.2.1)), (q8, .inl (cI, 301, .inl S1.2.2.2.2.2.1)), (q9, .inl (cI, 301, .inl S1.2.2.2.2.2.2.1)), (q10, .inl (cI, 300, .inl S1.2.2.2.2.2.2.2.1)), (q11, .inr (2, [.ref q12, .ref q13, .int S2.2.2.1, .int S2.2.2.2.1, .int S2.2.2.2.2])), (q12, .inl (cI, 301, .inl S2.1)), (q13, .inr (0, [.ref q14, .ref q15, .ref q16, .ref q17, .int S2.2.1.2.2.2.2])), (q14, .inl (cZ, 40, .inl S2.2.1.1)), (q15, .inl (cI, 40, .inl S2.2.1.2.1)), (q16, .inl (cI, 40, .inl S2.2.1.2.2.1)), (q17, .inl (cI, 40, .inl S2.2.1.2.2.2.1))] from rfl).trans rfl
theorem hW_B_make_32 (cI cZ cQ : ClassId) (q0 q1 q2 q3 q4 q5 q6 q7 q8 q9 q10 q11 q12 q13 q14 q15 q16 q17 : Nat) (S0 : (Nat → Option Nat)) (S1 : cL) (S2 : cP) (v : Int32) : (wB cI cZ cQ q0 q1 q2 S0 ++ wL cI cZ q2 q3 q4 q5 q6 q7 q8 q9 q10 S1 ++ wP cI cZ q11 q12 q13 q14 q15 q16 q17 S2 : va_W).set 2 (q2, .inr (1, [.ref q3, .ref q4, .ref q5, .ref q6, .ref q7, .ref q8, .ref q9, .ref q10, .int S1.2.2.2.2.2.2.2.2.1, .int S1.2.2.2.2.2.2.2.2.2].set 9 (.int v))) = wB cI cZ cQ q0 q1 q2 S0 ++ wL cI cZ q2 q3 q4 q5 q6 q7 q8 q9 q10 (S1.1, S1.2.1, S1.2.2.1, S1.2.2.2.1, S1.2.2.2.2.1, S1.2.2.2.2.2.1, S1.2.2.2.2.2.2.1, S1.2.2.2.2.2.2.2.1, S1.2.2.2.2.2.2.2.2.1, v) ++ wP cI cZ q11 q12 q13 q14 q15 q16 q17 S2 := rfl
theorem hC_B_make_63 (cI cZ cQ : ClassId) (q0 q1 q2 q3 q4 q5 q6 q7 q8 q9 q10 q11 q12 q13 q14 q15 q16 q17 : Nat) (S0 : (Nat → Option Nat)) (S1 : cL) (S2 : cP) : ([2, 3, 4, 5, 6, 7, 8, 9, 10] : List Nat).map (fun i => (wB cI cZ cQ q0 q1 q2 S0 ++ wL cI cZ q2 q3 q4 q5 q6 q7 q8 q9 q10 S1 ++ wP cI cZ q11 q12 q13 q14 q15 q16 q17 S2 : va_W)[i]?) = (wL cI cZ q2 q3 q4 q5 q6 q7 q8 q9 q10 S1 : va_W).map some := rfl
theorem hF_L_add (cI cZ cQ : ClassId) {u0 u1 u2 u3 u4 u5 u6 u7 u8 : Nat} (S0 R0 : cL) : (wL cI cZ u0 u1 u2 u3 u4 u5 u6 u7 u8 R0 : va_W).map Prod.fst = (wL cI cZ u0 u1 u2 u3 u4 u5 u6 u7 u8 S0 : va_W).map Prod.fst := rfl
theorem hU_B_make_63 (cI cZ cQ : ClassId) (q0 q1 q2 q3 q4 q5 q6 q7 q8 q9 q10 q11 q12 q13 q14 q15 q16 q17 : Nat) (S0 : (Nat → Option Nat)) (S1 : cL) (S2 : cP) (R0 : cL) : vz_put (wB cI cZ cQ q0 q1 q2 S0 ++ wL cI cZ q2 q3 q4 q5 q6 q7 q8 q9 q10 S1 ++ wP cI cZ q11 q12 q13 q14 q15 q16 q17 S2 : va_W) [2, 3, 4, 5, 6, 7, 8, 9, 10] (wL cI cZ q2 q3 q4 q5 q6 q7 q8 q9 q10 R0 : va_W) = wB cI cZ cQ q0 q1 q2 S0 ++ wL cI cZ q2 q3 q4 q5 q6 q7 q8 q9 q10 R0 ++ wP cI cZ q11 q12 q13 q14 q15 q16 q17 S2 := (show vz_put ([(q0, .inr (3, [.ref q2, .ref q1])), (q1, .inl (cQ, 4, .inr (.inr (.inr (.inr S0))))), (q2, .inr (1, [.ref q3, .ref q4, .ref q5, .ref q6, .ref q7, .ref q8, .ref q9, .ref q10, .int S1.2.2.2.2.2.2.2.2.1, .int S1.2.2.2.2.2.2.2.2.2])), (q3, .inl (cI, 301, .inl S1.1)), (q4, .inl (cI, 301, .inl S1.2.1)), (q5, .inl (cI, 301, .inl S1.2.2.1)), (q6, .inl (cI, 301, .inl S1.2.2.2.1)), (q7, .inl (cI, 301, .inl S1.2.2.2.2.1)), (q8, .inl (cI, 301, .inl S1.2.2.2.2.2.1)), (q9, .inl (cI, 301, .inl S1.2.2.2.2.2.2.1)), (q10, .inl (cI, 300, .inl S1.2.2.2.2.2.2.2.1)), (q11, .inr (2, [.ref q12, .ref q13, .int S2.2.2.1, .int S2.2.2.2.1, .int S2.2.2.2.2])), (q12, .inl (cI, 301, .inl S2.1)), (q13, .inr (0, [.ref q14, .ref q15, .ref q16, .ref q17, .int S2.2.1.2.2.2.2])), (q14, .inl (cZ, 40, .inl S2.2.1.1)), (q15, .inl (cI, 40, .inl S2.2.1.2.1)), (q16, .inl (cI, 40, .inl S2.2.1.2.2.1)), (q17, .inl (cI, 40, .inl S2.2.1.2.2.2.1))] : va_W) [2, 3, 4, 5, 6, 7, 8, 9, 10] ([(q2, .inr (1, [.ref q3, .ref q4, .ref q5, .ref q6, .ref q7, .ref q8, .ref q9, .ref q10, .int R0.2.2.2.2.2.2.2.2.1, .int R0.2.2.2.2.2.2.2.2.2])), (q3, .inl (cI, 301, .inl R0.1)), (q4, .inl (cI, 301, .inl R0.2.1)), (q5, .inl (cI, 301, .inl R0.2.2.1)), (q6, .inl (cI, 301, .inl R0.2.2.2.1)), (q7, .inl (cI, 301, .inl R0.2.2.2.2.1)), (q8, .inl (cI, 301, .inl R0.2.2.2.2.2.1)), (q9, .inl (cI, 301, .inl R0.2.2.2.2.2.2.1)), (q10, .inl (cI, 300, .inl R0.2.2.2.2.2.2.2.1))] : va_W) = [(q0, .inr (3, [.ref q2, .ref q1])), (q1, .inl (cQ, 4, .inr (.inr (.inr (.inr S0))))), (q2, .inr (1, [.ref q3, .ref q4, .ref q5, .ref q6, .ref q7, .ref q8, .ref q9, .ref q10, .int R0.2.2.2.2.2.2.2.2.1, .int R0.2.2.2.2.2.2.2.2.2])), (q3, .inl (cI, 301, .inl R0.1)), (q4, .inl (cI, 301, .inl R0.2.1)), (q5, .inl (cI, 301, .inl R0.2.2.1)), (q6, .inl (cI, 301, .inl R0.2.2.2.1)), (q7, .inl (cI, 301, .inl R0.2.2.2.2.1)), (q8, .inl (cI, 301, .inl R0.2.2.2.2.2.1)), (q9, .inl (cI, 301, .inl R0.2.2.2.2.2.2.1)), (q10, .inl (cI, 300, .inl R0.2.2.2.2.2.2.2.1)), (q11, .inr (2, [.ref q12, .ref q13, .int S2.2.2.1, .int S2.2.2.2.1, .int S2.2.2.2.2])), (q12, .inl (cI, 301, .inl S2.1)), (q13, .inr (0, [.ref q14, .ref q15, .ref q16, .ref q17, .int S2.2.1.2.2.2.2])), (q14, .inl (cZ, 40, .inl S2.2.1.1)), (q15, .inl (cI, 40, .inl S2.2.1.2.1)), (q16, .inl (cI, 40, .inl S2.2.1.2.2.1)), (q17, .inl (cI, 40, .inl S2.2.1.2.2.2.1))] from rfl).trans rfl
theorem hC_B_make_66 (cI cZ cQ : ClassId) (q0 q1 q2 q3 q4 q5 q6 q7 q8 q9 q10 q11 q12 q13 q14 q15 q16 q17 : Nat) (S0 : (Nat → Option Nat)) (S1 : cL) (S2 : cP) : ([0, 1, 2, 3, 4, 5, 6, 7, 8, 9, 10, 11, 12, 13, 14, 15, 16, 17] : List Nat).map (fun i => (wB cI cZ cQ q0 q1 q2 S0 ++ wL cI cZ q2 q3 q4 q5 q6 q7 q8 q9 q10 S1 ++ wP cI cZ q11 q12 q13 q14 q15 q16 q17 S2 : va_W)[i]?) = (wB cI cZ cQ q0 q1 q2 S0 ++ wL cI cZ q2 q3 q4 q5 q6 q7 q8 q9 q10 S1 ++ wP cI cZ q11 q12 q13 q14 q15 q16 q17 S2 : va_W).map some := rfl
theorem hF_B_told (cI cZ cQ : ClassId) {b0 b1 u0 u1 u2 u3 u4 u5 u6 u7 u8 p0 p1 h0 a1 a2 a3 a4 : Nat} (S0 R0 : (Nat → Option Nat)) (S1 R1 : cL) (S2 R2 : cP) : (wB cI cZ cQ b0 b1 u0 R0 ++ wL cI cZ u0 u1 u2 u3 u4 u5 u6 u7 u8 R1 ++ wP cI cZ p0 p1 h0 a1 a2 a3 a4 R2 : va_W).map Prod.fst = (wB cI cZ cQ b0 b1 u0 S0 ++ wL cI cZ u0 u1 u2 u3 u4 u5 u6 u7 u8 S1 ++ wP cI cZ p0 p1 h0 a1 a2 a3 a4 S2 : va_W).map Prod.fst := rfl
theorem hU_B_make_66 (cI cZ cQ : ClassId) (q0 q1 q2 q3 q4 q5 q6 q7 q8 q9 q10 q11 q12 q13 q14 q15 q16 q17 : Nat) (S0 : (Nat → Option Nat)) (S1 : cL) (S2 : cP) (R2 : cP) : vz_put (wB cI cZ cQ q0 q1 q2 S0 ++ wL cI cZ q2 q3 q4 q5 q6 q7 q8 q9 q10 S1 ++ wP cI cZ q11 q12 q13 q14 q15 q16 q17 S2 : va_W) [0, 1, 2, 3, 4, 5, 6, 7, 8, 9, 10, 11, 12, 13, 14, 15, 16, 17] (wB cI cZ cQ q0 q1 q2 S0 ++ wL cI cZ q2 q3 q4 q5 q6 q7 q8 q9 q10 S1 ++ wP cI cZ q11 q12 q13 q14 q15 q16 q17 R2 : va_W) = wB cI cZ cQ q0 q1 q2 S0 ++ wL cI cZ q2 q3 q4 q5 q6 q7 q8 q9 q10 S1 ++ wP cI cZ q11 q12 q13 q14 q15 q16 q17 R2 := (show vz_put ([(q0, .inr (3, [.ref q2, .ref q1])), (q1, .inl (cQ, 4, .inr (.inr (.inr (.inr S0))))), (q2, .inr (1, [.ref q3, .ref q4, .ref q5, .ref q6, .ref q7, .ref q8, .ref q9, .ref q10, .int S1.2.2.2.2.2.2.2.2.1, .int S1.2.2.2.2.2.2.2.2.2])), (q3, .inl (cI, 301, .inl S1.1)), (q4, .inl (cI, 301, .inl S1.2.1)), (q5, .inl (cI, 301, .inl S1.2.2.1)), (q6, .inl (cI, 301, .inl S1.2.2.2.1)), (q7, .inl (cI, 301, .inl S1.2.2.2.2.1)), (q8, .inl (cI, 301, .inl S1.2.2.2.2.2.1)), (q9, .inl (cI, 301, .inl S1.2.2.2.2.2.2.1)), (q10, .inl (cI, 300, .inl S1.2.2.2.2.2.2.2.1)), (q11, .inr (2, [.ref q12, .ref q13, .int S2.2.2.1, .int S2.2.2.2.1, .int S2.2.2.2.2])), (q12, .inl (cI, 301, .inl S2.1)), (q13, .inr (0, [.ref q14, .ref q15, .ref q16, .ref q17, .int S2.2.1.2.2.2.2])), (q14, .inl (cZ, 40, .inl S2.2.1.1)), (q15, .inl (cI, 40, .inl S2.2.1.2.1)), (q16, .inl (cI, 40, .inl S2.2.1.2.2.1)), (q17, .inl (cI, 40, .inl S2.2.1.2.2.2.1))] : va_W) [0, 1, 2, 3, 4, 5, 6, 7, 8, 9, 10, 11, 12, 13, 14, 15, 16, 17] ([(q0, .inr (3, [.ref q2, .ref q1])), (q1, .inl (cQ, 4, .inr (.inr (.inr (.inr S0))))), (q2, .inr (1, [.ref q3, .ref q4, .ref q5, .ref q6, .ref q7, .ref q8, .ref q9, .ref q10, .int S1.2.2.2.2.2.2.2.2.1, .int S1.2.2.2.2.2.2.2.2.2])), (q3, .inl (cI, 301, .inl S1.1)), (q4, .inl (cI, 301, .inl S1.2.1)), (q5, .inl (cI, 301, .inl S1.2.2.1)), (q6, .inl (cI, 301, .inl S1.2.2.2.1)), (q7, .inl (cI, 301, .inl S1.2.2.2.2.1)), (q8, .inl (cI, 301, .inl S1.2.2.2.2.2.1)), (q9, .inl (cI, 301, .inl S1.2.2.2.2.2.2.1)), (q10, .inl (cI, 300, .inl S1.2.2.2.2.2.2.2.1)), (q11, .inr (2, [.ref q12, .ref q13, .int R2.2.2.1, .int R2.2.2.2.1, .int R2.2.2.2.2])), (q12, .inl (cI, 301, .inl R2.1)), (q13, .inr (0, [.ref q14, .ref q15, .ref q16, .ref q17, .int R2.2.1.2.2.2.2])), (q14, .inl (cZ, 40, .inl R2.2.1.1)), (q15, .inl (cI, 40, .inl R2.2.1.2.1)), (q16, .inl (cI, 40, .inl R2.2.1.2.2.1)), (q17, .inl (cI, 40, .inl R2.2.1.2.2.2.1))] : va_W) = [(q0, .inr (3, [.ref q2, .ref q1])), (q1, .inl (cQ, 4, .inr (.inr (.inr (.inr S0))))), (q2, .inr (1, [.ref q3, .ref q4, .ref q5, .ref q6, .ref q7, .ref q8, .ref q9, .ref q10, .int S1.2.2.2.2.2.2.2.2.1, .int S1.2.2.2.2.2.2.2.2.2])), (q3, .inl (cI, 301, .inl S1.1)), (q4, .inl (cI, 301, .inl S1.2.1)), (q5, .inl (cI, 301, .inl S1.2.2.1)), (q6, .inl (cI, 301, .inl S1.2.2.2.1)), (q7, .inl (cI, 301, .inl S1.2.2.2.2.1)), (q8, .inl (cI, 301, .inl S1.2.2.2.2.2.1)), (q9, .inl (cI, 301, .inl S1.2.2.2.2.2.2.1)), (q10, .inl (cI, 300, .inl S1.2.2.2.2.2.2.2.1)), (q11, .inr (2, [.ref q12, .ref q13, .int R2.2.2.1, .int R2.2.2.2.1, .int R2.2.2.2.2])), (q12, .inl (cI, 301, .inl R2.1)), (q13, .inr (0, [.ref q14, .ref q15, .ref q16, .ref q17, .int R2.2.1.2.2.2.2])), (q14, .inl (cZ, 40, .inl R2.2.1.1)), (q15, .inl (cI, 40, .inl R2.2.1.2.1)), (q16, .inl (cI, 40, .inl R2.2.1.2.2.1)), (q17, .inl (cI, 40, .inl R2.2.1.2.2.2.1))] from rfl).trans rfl
def m_B_make (L : cL) (P : cP) (x1 : Int32) : Int32 × cL × cP := (if (m_B_mayWrite L x1) = 0 then (-1, L, P) else (if L.2.2.2.2.2.2.2.2.2 < 39 then ((m_L_add (L.1, L.2.1, L.2.2.1, L.2.2.2.1, L.2.2.2.2.1, L.2.2.2.2.2.1, L.2.2.2.2.2.2.1, L.2.2.2.2.2.2.2.1, L.2.2.2.2.2.2.2.2.1, L.2.2.2.2.2.2.2.2.2 + 1) 0 x1 (P.2.2.2.1 + 1) (L.2.2.2.2.2.2.2.2.2 + 1) (-1) (-1)).2.2.2.2.2.2.2.2.2.2, (m_L_add (L.1, L.2.1, L.2.2.1, L.2.2.2.1, L.2.2.2.2.1, L.2.2.2.2.2.1, L.2.2.2.2.2.2.1, L.2.2.2.2.2.2.2.1, L.2.2.2.2.2.2.2.2.1, L.2.2.2.2.2.2.2.2.2 + 1) 0 x1 (P.2.2.2.1 + 1) (L.2.2.2.2.2.2.2.2.2 + 1) (-1) (-1)).2, (m_B_told (m_L_add (L.1, L.2.1, L.2.2.1, L.2.2.2.1, L.2.2.2.2.1, L.2.2.2.2.2.1, L.2.2.2.2.2.2.1, L.2.2.2.2.2.2.2.1, L.2.2.2.2.2.2.2.2.1, L.2.2.2.2.2.2.2.2.2 + 1) 0 x1 (P.2.2.2.1 + 1) (L.2.2.2.2.2.2.2.2.2 + 1) (-1) (-1)).2 P x1 (m_L_add (L.1, L.2.1, L.2.2.1, L.2.2.2.1, L.2.2.2.2.1, L.2.2.2.2.2.1, L.2.2.2.2.2.2.1, L.2.2.2.2.2.2.2.1, L.2.2.2.2.2.2.2.2.1, L.2.2.2.2.2.2.2.2.2 + 1) 0 x1 (P.2.2.2.1 + 1) (L.2.2.2.2.2.2.2.2.2 + 1) (-1) (-1)).1).2) else (-1, L, P)))
set_option maxHeartbeats 1000000 in
set_option maxRecDepth 100000 in
theorem c_B_make (l : Launch) (dC : Nat → ClassId) (dI : Nat → Nat → Nat) (cI cZ cQ : ClassId) (b0 : Nat) (b1 : Nat) (F : Nat → Option Nat) (u0 : Nat) (u1 : Nat) (u2 : Nat) (u3 : Nat) (u4 : Nat) (u5 : Nat) (u6 : Nat) (u7 : Nat) (u8 : Nat) (L : cL) (p0 : Nat) (p1 : Nat) (h0 : Nat) (a1 : Nat) (a2 : Nat) (a3 : Nat) (a4 : Nat) (P : cP) (x1 : Int32) (hF : 0 ≤ x1.toInt → x1.toInt < 4 → F x1.toNatClampNeg = some p0) (hL : okL L) (hA : (0 ≤ x1.toInt ∧ x1.toInt < 4) → L.2.2.2.2.2.2.2.2.1.toInt < 300 → (L.2.2.2.2.2.2.2.2.2.toInt < 39) → okTold (m_L_add (L.1, L.2.1, L.2.2.1, L.2.2.2.1, L.2.2.2.2.1, L.2.2.2.2.2.1, L.2.2.2.2.2.2.1, L.2.2.2.2.2.2.2.1, L.2.2.2.2.2.2.2.2.1, L.2.2.2.2.2.2.2.2.2 + 1) 0 x1 (P.2.2.2.1 + 1) (L.2.2.2.2.2.2.2.2.2 + 1) (-1) (-1)).2 P (m_L_add (L.1, L.2.1, L.2.2.1, L.2.2.2.1, L.2.2.2.2.1, L.2.2.2.2.2.1, L.2.2.2.2.2.2.1, L.2.2.2.2.2.2.2.1, L.2.2.2.2.2.2.2.2.1, L.2.2.2.2.2.2.2.2.2 + 1) 0 x1 (P.2.2.2.1 + 1) (L.2.2.2.2.2.2.2.2.2 + 1) (-1) (-1)).1) : vz_C l (dC, dI) classes [(cI, .int), (cZ, .boolean), (cQ, .object "BinTrees$Person")] y_B_make (Cond.code y_B_make b_B_make 2 (some .int) :: vz_tbl) ({ frames := 6, cells := 0, slots := 0, locals := 141 }) [.ref b0, .int x1] (wB cI cZ cQ b0 b1 u0 F ++ wL cI cZ u0 u1 u2 u3 u4 u5 u6 u7 u8 L ++ wP cI cZ p0 p1 h0 a1 a2 a3 a4 P) (some (.int ((m_B_make L P x1).1))) (wB cI cZ cQ b0 b1 u0 F ++ wL cI cZ u0 u1 u2 u3 u4 u5 u6 u7 u8 ((m_B_make L P x1).2.1) ++ wP cI cZ p0 p1 h0 a1 a2 a3 a4 ((m_B_make L P x1).2.2)) := by
  generalize hres : (m_B_make L P x1) = RES
  refine vz_C.of (by decide) (Nat.le_of_ble_eq_true rfl) ?_
  intro p e s m below meth c ls E hl hK hP hD hS
  obtain ⟨hx, hb, hr, hml, hown, hT, hlocks⟩ := E
  obtain ⟨Q, hQ⟩ : ∃ Q, Q = MQ below (vz_Q (dC, dI) classes (wB cI cZ cQ b0 b1 u0 F ++ wL cI cZ u0 u1 u2 u3 u4 u5 u6 u7 u8 L ++ wP cI cZ p0 p1 h0 a1 a2 a3 a4 P) (some (.int RES.1)) (wB cI cZ cQ b0 b1 u0 F ++ wL cI cZ u0 u1 u2 u3 u4 u5 u6 u7 u8 RES.2.1 ++ wP cI cZ p0 p1 h0 a1 a2 a3 a4 RES.2.2)) ([.ref b0, .int x1] : List Value).toArray s 0 0 (vz_A (wB cI cZ cQ b0 b1 u0 F ++ wL cI cZ u0 u1 u2 u3 u4 u5 u6 u7 u8 L ++ wP cI cZ p0 p1 h0 a1 a2 a3 a4 P)) := ⟨_, rfl⟩
  rw [← hQ]
  have hl : lv_has ls 2 [(0, .ref b0), (1, .int x1)] := hl
  have T0 := ti_0
  have T1 := ti_1
  have Tm := ti_m1
  have T8 := ti_8
  have T39 := ti_39
  have T40 := ti_40
  have T4 := ti_4
  have T300 := ti_300
  have hS0 := hS
  refine lv_aload_n hx hb d_B_make_0 rfl (lv_at hl 0 rfl) ?_
  refine lv_iload_n hx hb d_B_make_1 rfl (lv_at hl 1 rfl) ?_
  have hc := c_B_mayWrite l dC dI cI cZ cQ b0 b1 F u0 u1 u2 u3 u4 u5 u6 u7 u8 L x1 
  generalize hg_2 : (m_B_mayWrite L x1) = g_2 at hc
  refine vz_callV (As := [.int x1]) (rest := []) ⟨hx, hb, hml, hown, hT⟩ hc (vz_goodV kw_143 kw_145 ks_0 kw_1 kw_146) ⟨rfl, hd_B_mayWrite⟩ ⟨⟨rfl, rfl⟩, Nat.le_of_ble_eq_true rfl, Nat.le_of_ble_eq_true rfl⟩ hK hP hD hS [0, 1, 2, 3, 4, 5, 6, 7, 8, 9, 10] rfl (hC_B_make_2 cI cZ cQ b0 b1 u0 u1 u2 u3 u4 u5 u6 u7 u8 p0 p1 h0 a1 a2 a3 a4 F L P) (hF_B_mayWrite cI cZ cQ _ _ _ _) 0 3 rfl rfl rfl rfl hl.1 rfl (Nat.le_of_ble_eq_true rfl) ⟨Nat.zero_le _, Nat.zero_le _⟩ d_B_make_2 (fun H locs hP hD hS => ?_)
  have hP : va_P (dC, dI) classes (wB cI cZ cQ b0 b1 u0 F ++ wL cI cZ u0 u1 u2 u3 u4 u5 u6 u7 u8 L ++ wP cI cZ p0 p1 h0 a1 a2 a3 a4 P) H := vz_reP (hU_B_make_2 cI cZ cQ b0 b1 u0 u1 u2 u3 u4 u5 u6 u7 u8 p0 p1 h0 a1 a2 a3 a4 F L P ) hP
  have hD : va_D (vz_A (wB cI cZ cQ b0 b1 u0 F ++ wL cI cZ u0 u1 u2 u3 u4 u5 u6 u7 u8 L ++ wP cI cZ p0 p1 h0 a1 a2 a3 a4 P)) (wB cI cZ cQ b0 b1 u0 F ++ wL cI cZ u0 u1 u2 u3 u4 u5 u6 u7 u8 L ++ wP cI cZ p0 p1 h0 a1 a2 a3 a4 P) := vz_reD (hU_B_make_2 cI cZ cQ b0 b1 u0 u1 u2 u3 u4 u5 u6 u7 u8 p0 p1 h0 a1 a2 a3 a4 F L P ) hD
  refine W.eq (g2 := F0 m 5 ls [.int g_2]) rfl ?_
  refine lv_if_eq (tgt := 20) hx hb d_B_make_5 (by decide) (fun c_5 => ?_) (fun c_5 => ?_)
  · have z_5 := congrArg Int32.toInt c_5
    refine lv_iconst (v := -1) hx hb d_B_make_20 (by decide) ?_
    rw [m_B_make] at hres
    try rw [hg_2] at hres
    rw [if_pos c_5] at hres
    subst hres
    subst hQ
    exact vz_iret hx hb hr hlocks d_B_make_21 hS rfl hP
  · have z_5 := mt Int32.toInt_inj.mp c_5
    refine lv_aload_n hx hb d_B_make_8 rfl (lv_at hl 0 rfl) ?_
    refine va_get (D := (dC, dI)) (ci := 3) (v := .ref u0) (C := R_B) (T := F_B) (N := 2) hx hb hT i_B hown hK hP 0 rfl rfl 0 (by decide) (hT _ kw_132) (fun _ h9 => h9) rfl d_B_make_9 ?_
    refine va_get (D := (dC, dI)) (ci := 1) (v := .int L.2.2.2.2.2.2.2.2.2) (C := R_L) (T := F_L) (N := 10) hx hb hT i_L hown hK hP 2 rfl rfl 9 (by decide) (hT _ kw_47) (fun _ h9 => h9) rfl d_B_make_12 ?_
    refine lv_bipush (v := 39) hx hb d_B_make_15 (by decide) ?_
    refine lv_icmp_lt (tgt := 22) hx hb d_B_make_17 (by decide) (fun c_17 => ?_) (fun c_17 => ?_)
    · have z_17 := Int32.lt_iff_toInt_lt.mp c_17
      refine lv_aload_n hx hb d_B_make_22 rfl (lv_at hl 0 rfl) ?_
      refine va_get (D := (dC, dI)) (ci := 3) (v := .ref u0) (C := R_B) (T := F_B) (N := 2) hx hb hT i_B hown hK hP 0 rfl rfl 0 (by decide) (hT _ kw_132) (fun _ h9 => h9) rfl d_B_make_23 ?_
      refine lv_dup hx hb d_B_make_26 rfl ?_
      refine va_get (D := (dC, dI)) (ci := 1) (v := .int L.2.2.2.2.2.2.2.2.2) (C := R_L) (T := F_L) (N := 10) hx hb hT i_L hown hK hP 2 rfl rfl 9 (by decide) (hT _ kw_47) (fun _ h9 => h9) rfl d_B_make_27 ?_
      refine lv_iconst (v := 1) hx hb d_B_make_30 (by decide) ?_
      refine lv_iadd hx hb d_B_make_31 ?_
      refine va_put (D := (dC, dI)) (ci := 1) (v := .int (L.2.2.2.2.2.2.2.2.2 + 1)) (ty := .int) (C := R_L) (T := F_L) (N := 10) hx hb hT i_L tt_L tt_L_ok n_L hown hK hP hD hS 2 rfl rfl 9 (by decide) (hT _ kw_47) (fun _ h9 => h9) rfl (by decide +kernel) rfl rfl (Nat.le_of_ble_eq_true rfl) d_B_make_32 (fun H locs hP hD hS => ?_)
      have hP : va_P (dC, dI) classes (wB cI cZ cQ b0 b1 u0 F ++ wL cI cZ u0 u1 u2 u3 u4 u5 u6 u7 u8 (L.1, L.2.1, L.2.2.1, L.2.2.2.1, L.2.2.2.2.1, L.2.2.2.2.2.1, L.2.2.2.2.2.2.1, L.2.2.2.2.2.2.2.1, L.2.2.2.2.2.2.2.2.1, L.2.2.2.2.2.2.2.2.2 + 1) ++ wP cI cZ p0 p1 h0 a1 a2 a3 a4 P) H := vz_reP (hW_B_make_32 cI cZ cQ b0 b1 u0 u1 u2 u3 u4 u5 u6 u7 u8 p0 p1 h0 a1 a2 a3 a4 F L P (L.2.2.2.2.2.2.2.2.2 + 1)) hP
      have hD : va_D (vz_A (wB cI cZ cQ b0 b1 u0 F ++ wL cI cZ u0 u1 u2 u3 u4 u5 u6 u7 u8 L ++ wP cI cZ p0 p1 h0 a1 a2 a3 a4 P)) (wB cI cZ cQ b0 b1 u0 F ++ wL cI cZ u0 u1 u2 u3 u4 u5 u6 u7 u8 (L.1, L.2.1, L.2.2.1, L.2.2.2.1, L.2.2.2.2.1, L.2.2.2.2.2.1, L.2.2.2.2.2.2.1, L.2.2.2.2.2.2.2.1, L.2.2.2.2.2.2.2.2.1, L.2.2.2.2.2.2.2.2.2 + 1) ++ wP cI cZ p0 p1 h0 a1 a2 a3 a4 P) := vz_reD (hW_B_make_32 cI cZ cQ b0 b1 u0 u1 u2 u3 u4 u5 u6 u7 u8 p0 p1 h0 a1 a2 a3 a4 F L P (L.2.2.2.2.2.2.2.2.2 + 1)) hD
      refine lv_aload_n hx hb d_B_make_35 rfl (lv_at hl 0 rfl) ?_
      refine lv_iload_n hx hb d_B_make_36 rfl (lv_at hl 1 rfl) ?_
      refine lv_aload_n hx hb d_B_make_37 rfl (lv_at hl 0 rfl) ?_
      refine va_get (D := (dC, dI)) (ci := 3) (v := .ref u0) (C := R_B) (T := F_B) (N := 2) hx hb hT i_B hown hK hP 0 rfl rfl 0 (by decide) (hT _ kw_132) (fun _ h9 => h9) rfl d_B_make_38 ?_
      refine lv_iconst (v := 0) hx hb d_B_make_41 (by decide) ?_
      refine lv_iload_n hx hb d_B_make_42 rfl (lv_at hl 1 rfl) ?_
      refine lv_aload_n hx hb d_B_make_43 rfl (lv_at hl 0 rfl) ?_
      refine va_get (D := (dC, dI)) (ci := 3) (v := .ref b1) (C := R_B) (T := F_B) (N := 2) hx hb hT i_B hown hK hP 0 rfl rfl 1 (by decide) (hT _ kw_133) (fun _ h9 => h9) rfl d_B_make_44 ?_
      refine lv_iload_n hx hb d_B_make_47 rfl (lv_at hl 1 rfl) ?_
      refine va_aldq hx hb hK hP 1 2 rfl rfl (by have hn := mw_t (L := L) (x1 := x1) (by rw [hg_2]; assumption); exact ti_vp (by omega) (by omega)) d_B_make_48 ?_
      rw [show va_rf (F x1.toNatClampNeg) = .ref p0 from by have hn := mw_t (L := L) (x1 := x1) (by rw [hg_2]; assumption); rw [hF hn.1.1 hn.1.2]; rfl]
      refine va_get (D := (dC, dI)) (ci := 2) (v := .int P.2.2.2.1) (C := R_P) (T := F_P) (N := 5) hx hb hT i_P hown hK hP 11 rfl rfl 3 (by decide) (hT _ kw_117) (fun _ h9 => h9) rfl d_B_make_49 ?_
      refine lv_iconst (v := 1) hx hb d_B_make_52 (by decide) ?_
      refine lv_iadd hx hb d_B_make_53 ?_
      refine lv_aload_n hx hb d_B_make_54 rfl (lv_at hl 0 rfl) ?_
      refine va_get (D := (dC, dI)) (ci := 3) (v := .ref u0) (C := R_B) (T := F_B) (N := 2) hx hb hT i_B hown hK hP 0 rfl rfl 0 (by decide) (hT _ kw_132) (fun _ h9 => h9) rfl d_B_make_55 ?_
      refine va_get (D := (dC, dI)) (ci := 1) (v := .int (L.2.2.2.2.2.2.2.2.2 + 1)) (C := R_L) (T := F_L) (N := 10) hx hb hT i_L hown hK hP 2 rfl rfl 9 (by decide) (hT _ kw_47) (fun _ h9 => h9) rfl d_B_make_58 ?_
      refine lv_iconst (v := -1) hx hb d_B_make_61 (by decide) ?_
      refine lv_iconst (v := -1) hx hb d_B_make_62 (by decide) ?_
      have hc := c_L_add l dC dI cI cZ cQ u0 u1 u2 u3 u4 u5 u6 u7 u8 (L.1, L.2.1, L.2.2.1, L.2.2.2.1, L.2.2.2.2.1, L.2.2.2.2.2.1, L.2.2.2.2.2.2.1, L.2.2.2.2.2.2.2.1, L.2.2.2.2.2.2.2.2.1, L.2.2.2.2.2.2.2.2.2 + 1) 0 x1 (P.2.2.2.1 + 1) (L.2.2.2.2.2.2.2.2.2 + 1) (-1) (-1) (by have hn := mw_t (L := L) (x1 := x1) (by rw [hg_2]; assumption); have hl1 := hL.1; dsimp only; omega) (hL.2.1) (by intro h; first | exact absurd h (by decide) | (have := hz h; omega))
      generalize hg_63 : (m_L_add (L.1, L.2.1, L.2.2.1, L.2.2.2.1, L.2.2.2.2.1, L.2.2.2.2.2.1, L.2.2.2.2.2.2.1, L.2.2.2.2.2.2.2.1, L.2.2.2.2.2.2.2.2.1, L.2.2.2.2.2.2.2.2.2 + 1) 0 x1 (P.2.2.2.1 + 1) (L.2.2.2.2.2.2.2.2.2 + 1) (-1) (-1)) = g_63 at hc
      refine vz_callV (As := [.int 0, .int x1, .int (P.2.2.2.1 + 1), .int (L.2.2.2.2.2.2.2.2.2 + 1), .int (-1), .int (-1)]) (rest := [.int x1, .ref b0]) ⟨hx, hb, hml, hown, hT⟩ hc (vz_goodV kw_150 kw_151 kw_152 kw_2 kw_153) ⟨rfl, hd_L_add⟩ ⟨⟨rfl, rfl⟩, Nat.le_of_ble_eq_true rfl, Nat.le_of_ble_eq_true rfl⟩ hK hP hD hS [2, 3, 4, 5, 6, 7, 8, 9, 10] rfl (hC_B_make_63 cI cZ cQ b0 b1 u0 u1 u2 u3 u4 u5 u6 u7 u8 p0 p1 h0 a1 a2 a3 a4 F (L.1, L.2.1, L.2.2.1, L.2.2.2.1, L.2.2.2.2.1, L.2.2.2.2.2.1, L.2.2.2.2.2.2.1, L.2.2.2.2.2.2.2.1, L.2.2.2.2.2.2.2.2.1, L.2.2.2.2.2.2.2.2.2 + 1) P) (hF_L_add cI cZ cQ _ _) 0 1 rfl rfl rfl rfl hl.1 rfl (Nat.le_of_ble_eq_true rfl) ⟨Nat.zero_le _, Nat.zero_le _⟩ d_B_make_63 (fun H locs hP hD hS => ?_)
      have hP : va_P (dC, dI) classes (wB cI cZ cQ b0 b1 u0 F ++ wL cI cZ u0 u1 u2 u3 u4 u5 u6 u7 u8 g_63.2 ++ wP cI cZ p0 p1 h0 a1 a2 a3 a4 P) H := vz_reP (hU_B_make_63 cI cZ cQ b0 b1 u0 u1 u2 u3 u4 u5 u6 u7 u8 p0 p1 h0 a1 a2 a3 a4 F (L.1, L.2.1, L.2.2.1, L.2.2.2.1, L.2.2.2.2.1, L.2.2.2.2.2.1, L.2.2.2.2.2.2.1, L.2.2.2.2.2.2.2.1, L.2.2.2.2.2.2.2.2.1, L.2.2.2.2.2.2.2.2.2 + 1) P g_63.2) hP
      have hD : va_D (vz_A (wB cI cZ cQ b0 b1 u0 F ++ wL cI cZ u0 u1 u2 u3 u4 u5 u6 u7 u8 L ++ wP cI cZ p0 p1 h0 a1 a2 a3 a4 P)) (wB cI cZ cQ b0 b1 u0 F ++ wL cI cZ u0 u1 u2 u3 u4 u5 u6 u7 u8 g_63.2 ++ wP cI cZ p0 p1 h0 a1 a2 a3 a4 P) := vz_reD (hU_B_make_63 cI cZ cQ b0 b1 u0 u1 u2 u3 u4 u5 u6 u7 u8 p0 p1 h0 a1 a2 a3 a4 F (L.1, L.2.1, L.2.2.1, L.2.2.2.1, L.2.2.2.2.1, L.2.2.2.2.2.1, L.2.2.2.2.2.2.1, L.2.2.2.2.2.2.2.1, L.2.2.2.2.2.2.2.2.1, L.2.2.2.2.2.2.2.2.2 + 1) P g_63.2) hD
      refine W.eq (g2 := F0 m 66 ls [.int g_63.1, .int x1, .ref b0]) rfl ?_
      have hc := c_B_told l dC dI cI cZ cQ b0 b1 F u0 u1 u2 u3 u4 u5 u6 u7 u8 g_63.2 p0 p1 h0 a1 a2 a3 a4 P x1 g_63.1 (by have hn := mw_t (L := L) (x1 := x1) (by rw [hg_2]; assumption); exact hF hn.1.1 hn.1.2) (by have hn := mw_t (L := L) (x1 := x1) (by rw [hg_2]; assumption); exact hn.1) (by have hn := mw_t (L := L) (x1 := x1) (by rw [hg_2]; assumption); rw [← hg_63]; exact hA hn.1 hn.2 (by omega))
      generalize hg_66 : (m_B_told g_63.2 P x1 g_63.1) = g_66 at hc
      refine vz_callV (As := [.int x1, .int g_63.1]) (rest := []) ⟨hx, hb, hml, hown, hT⟩ hc (vz_goodV kw_162 kw_164 ks_3 kw_1 kw_165) ⟨rfl, hd_B_told⟩ ⟨⟨rfl, rfl⟩, Nat.le_of_ble_eq_true rfl, Nat.le_of_ble_eq_true rfl⟩ hK hP hD hS [0, 1, 2, 3, 4, 5, 6, 7, 8, 9, 10, 11, 12, 13, 14, 15, 16, 17] rfl (hC_B_make_66 cI cZ cQ b0 b1 u0 u1 u2 u3 u4 u5 u6 u7 u8 p0 p1 h0 a1 a2 a3 a4 F g_63.2 P) (hF_B_told cI cZ cQ _ _ _ _ _ _) 0 3 rfl rfl rfl rfl hl.1 rfl (Nat.le_of_ble_eq_true rfl) ⟨Nat.zero_le _, Nat.zero_le _⟩ d_B_make_66 (fun H locs hP hD hS => ?_)
      have hP : va_P (dC, dI) classes (wB cI cZ cQ b0 b1 u0 F ++ wL cI cZ u0 u1 u2 u3 u4 u5 u6 u7 u8 g_63.2 ++ wP cI cZ p0 p1 h0 a1 a2 a3 a4 g_66.2) H := vz_reP (hU_B_make_66 cI cZ cQ b0 b1 u0 u1 u2 u3 u4 u5 u6 u7 u8 p0 p1 h0 a1 a2 a3 a4 F g_63.2 P g_66.2) hP
      have hD : va_D (vz_A (wB cI cZ cQ b0 b1 u0 F ++ wL cI cZ u0 u1 u2 u3 u4 u5 u6 u7 u8 L ++ wP cI cZ p0 p1 h0 a1 a2 a3 a4 P)) (wB cI cZ cQ b0 b1 u0 F ++ wL cI cZ u0 u1 u2 u3 u4 u5 u6 u7 u8 g_63.2 ++ wP cI cZ p0 p1 h0 a1 a2 a3 a4 g_66.2) := vz_reD (hU_B_make_66 cI cZ cQ b0 b1 u0 u1 u2 u3 u4 u5 u6 u7 u8 p0 p1 h0 a1 a2 a3 a4 F g_63.2 P g_66.2) hD
      refine W.eq (g2 := F0 m 69 ls [.int g_66.1]) rfl ?_
      refine lv_pop hx hb d_B_make_69 rfl ?_
      refine lv_aload_n hx hb d_B_make_70 rfl (lv_at hl 0 rfl) ?_
      refine va_get (D := (dC, dI)) (ci := 3) (v := .ref u0) (C := R_B) (T := F_B) (N := 2) hx hb hT i_B hown hK hP 0 rfl rfl 0 (by decide) (hT _ kw_132) (fun _ h9 => h9) rfl d_B_make_71 ?_
      refine va_get (D := (dC, dI)) (ci := 1) (v := .int g_63.2.2.2.2.2.2.2.2.2.2) (C := R_L) (T := F_L) (N := 10) hx hb hT i_L hown hK hP 2 rfl rfl 9 (by decide) (hT _ kw_47) (fun _ h9 => h9) rfl d_B_make_74 ?_
      rw [m_B_make] at hres
      try rw [hg_2] at hres
      rw [if_neg c_5, if_pos c_17] at hres
      try rw [hg_63] at hres
      try rw [hg_66] at hres
      subst hres
      subst hQ
      exact vz_iret hx hb hr hlocks d_B_make_77 hS rfl hP
    · have z_17 := mt Int32.lt_iff_toInt_lt.mpr c_17
      refine lv_iconst (v := -1) hx hb d_B_make_20 (by decide) ?_
      rw [m_B_make] at hres
      try rw [hg_2] at hres
      rw [if_neg c_5, if_neg c_17] at hres
      subst hres
      subst hQ
      exact vz_iret hx hb hr hlocks d_B_make_21 hS rfl hP
end
section
theorem d_B_move_0 : decode b_B_move 0 = .ok (.aload_n 0, 1) := by decide +kernel
theorem d_B_move_1 : decode b_B_move 1 = .ok (.iload_n 1, 1) := by decide +kernel
theorem d_B_move_2 : decode b_B_move 2 = .ok (.invokevirtual 23, 3) := by decide +kernel
theorem d_B_move_5 : decode b_B_move 5 = .ok (.ifCond .eq 19, 3) := by decide +kernel
theorem d_B_move_8 : decode b_B_move 8 = .ok (.aload_n 0, 1) := by decide +kernel
theorem d_B_move_9 : decode b_B_move 9 = .ok (.iload_n 2, 1) := by decide +kernel
theorem d_B_move_10 : decode b_B_move 10 = .ok (.invokevirtual 42, 3) := by decide +kernel
theorem d_B_move_13 : decode b_B_move 13 = .ok (.ifCond .eq 11, 3) := by decide +kernel
theorem d_B_move_16 : decode b_B_move 16 = .ok (.aload_n 0, 1) := by decide +kernel
theorem d_B_move_17 : decode b_B_move 17 = .ok (.iload_n 3, 1) := by decide +kernel
theorem d_B_move_18 : decode b_B_move 18 = .ok (.invokevirtual 45, 3) := by decide +kernel
theorem d_B_move_21 : decode b_B_move 21 = .ok (.ifCond .ne 5, 3) := by decide +kernel
theorem d_B_move_24 : decode b_B_move 24 = .ok (.iconst (-1), 1) := by decide +kernel
theorem d_B_move_25 : decode b_B_move 25 = .ok (.ireturn, 1) := by decide +kernel
theorem d_B_move_26 : decode b_B_move 26 = .ok (.iload 4, 2) := by decide +kernel
theorem d_B_move_28 : decode b_B_move 28 = .ok (.iconst (-1), 1) := by decide +kernel
theorem d_B_move_29 : decode b_B_move 29 = .ok (.if_icmp .eq 14, 3) := by decide +kernel
theorem d_B_move_32 : decode b_B_move 32 = .ok (.aload_n 0, 1) := by decide +kernel
theorem d_B_move_33 : decode b_B_move 33 = .ok (.iload 4, 2) := by decide +kernel
theorem d_B_move_35 : decode b_B_move 35 = .ok (.invokevirtual 45, 3) := by decide +kernel
theorem d_B_move_38 : decode b_B_move 38 = .ok (.ifCond .ne 5, 3) := by decide +kernel
theorem d_B_move_41 : decode b_B_move 41 = .ok (.iconst (-1), 1) := by decide +kernel
theorem d_B_move_42 : decode b_B_move 42 = .ok (.ireturn, 1) := by decide +kernel
theorem d_B_move_43 : decode b_B_move 43 = .ok (.aload_n 0, 1) := by decide +kernel
theorem d_B_move_44 : decode b_B_move 44 = .ok (.iload_n 1, 1) := by decide +kernel
theorem d_B_move_45 : decode b_B_move 45 = .ok (.aload_n 0, 1) := by decide +kernel
theorem d_B_move_46 : decode b_B_move 46 = .ok (.getfield 10, 3) := by decide +kernel
theorem d_B_move_49 : decode b_B_move 49 = .ok (.iconst 1, 1) := by decide +kernel
theorem d_B_move_50 : decode b_B_move 50 = .ok (.iload_n 1, 1) := by decide +kernel
theorem d_B_move_51 : decode b_B_move 51 = .ok (.aload_n 0, 1) := by decide +kernel
theorem d_B_move_52 : decode b_B_move 52 = .ok (.getfield 18, 3) := by decide +kernel
theorem d_B_move_55 : decode b_B_move 55 = .ok (.iload_n 1, 1) := by decide +kernel
theorem d_B_move_56 : decode b_B_move 56 = .ok (.aaload, 1) := by decide +kernel
theorem d_B_move_57 : decode b_B_move 57 = .ok (.getfield 31, 3) := by decide +kernel
theorem d_B_move_60 : decode b_B_move 60 = .ok (.iconst 1, 1) := by decide +kernel
theorem d_B_move_61 : decode b_B_move 61 = .ok (.iadd, 1) := by decide +kernel
theorem d_B_move_62 : decode b_B_move 62 = .ok (.iload_n 2, 1) := by decide +kernel
theorem d_B_move_63 : decode b_B_move 63 = .ok (.iload_n 3, 1) := by decide +kernel
theorem d_B_move_64 : decode b_B_move 64 = .ok (.iload 4, 2) := by decide +kernel
theorem d_B_move_66 : decode b_B_move 66 = .ok (.invokevirtual 34, 3) := by decide +kernel
theorem d_B_move_69 : decode b_B_move 69 = .ok (.invokevirtual 38, 3) := by decide +kernel
theorem d_B_move_72 : decode b_B_move 72 = .ok (.ireturn, 1) := by decide +kernel
theorem hC_B_move_2 (cI cZ cQ : ClassId) (q0 q1 q2 q3 q4 q5 q6 q7 q8 q9 q10 q11 q12 q13 q14 q15 q16 q17 : Nat) (S0 : (Nat → Option Nat)) (S1 : cL) (S2 : cP) : ([0, 1, 2, 3, 4, 5, 6, 7, 8, 9, 10] : List Nat).map (fun i => (wB cI cZ cQ q0 q1 q2 S0 ++ wL cI cZ q2 q3 q4 q5 q6 q7 q8 q9 q10 S1 ++ wP cI cZ q11 q12 q13 q14 q15 q16 q17 S2 : va_W)[i]?) = (wB cI cZ cQ q0 q1 q2 S0 ++ wL cI cZ q2 q3 q4 q5 q6 q7 q8 q9 q10 S1 : va_W).map some := rfl
theorem hU_B_move_2 (cI cZ cQ : ClassId) (q0 q1 q2 q3 q4 q5 q6 q7 q8 q9 q10 q11 q12 q13 q14 q15 q16 q17 : Nat) (S0 : (Nat → Option Nat)) (S1 : cL) (S2 : cP)  : vz_put (wB cI cZ cQ q0 q1 q2 S0 ++ wL cI cZ q2 q3 q4 q5 q6 q7 q8 q9 q10 S1 ++ wP cI cZ q11 q12 q13 q14 q15 q16 q17 S2 : va_W) [0, 1, 2, 3, 4, 5, 6, 7, 8, 9, 10] (wB cI cZ cQ q0 q1 q2 S0 ++ wL cI cZ q2 q3 q4 q5 q6 q7 q8 q9 q10 S1 : va_W) = wB cI cZ cQ q0 q1 q2 S0 ++ wL cI cZ q2 q3 q4 q5 q6 q7 q8 q9 q10 S1 ++ wP cI cZ q11 q12 q13 q14 q15 q16 q17 S2 := (show vz_put ([(q0, .inr (3, [.ref q2, .ref q1])), (q1, .inl (cQ, 4, .inr (.inr (.inr (.inr S0))))), (q2, .inr (1, [.ref q3, .ref q4, .ref q5, .ref q6, .ref q7, .ref q8, .ref q9, .ref q10, .int S1.2.2.2.2.2.2.2.2.1, .int S1.2.2.2.2.2.2.2.2.2])), (q3, .inl (cI, 301, .inl S1.1)), (q4, .inl (cI, 301, .inl S1.2.1)), (q5, .inl (cI, 301, .inl S1.2.2.1)), (q6, .inl (cI, 301, .inl S1.2.2.2.1)), (q7, .inl (cI, 301, .inl S1.2.2.2.2.1)), (q8, .inl (cI, 301, .inl S1.2.2.2.2.2.1)), (q9, .inl (cI, 301, .inl S1.2.2.2.2.2.2.1)), (q10, .inl (cI, 300, .inl S1.2.2.2.2.2.2.2.1)), (q11, .inr (2, [.ref q12, .ref q13, .int S2.2.2.1, .int S2.2.2.2.1, .int S2.2.2.2.2])), (q12, .inl (cI, 301, .inl S2.1)), (q13, .inr (0, [.ref q14, .ref q15, .ref q16, .ref q17, .int S2.2.1.2.2.2.2])), (q14, .inl (cZ, 40, .inl S2.2.1.1)), (q15, .inl (cI, 40, .inl S2.2.1.2.1)), (q16, .inl (cI, 40, .inl S2.2.1.2.2.1)), (q17, .inl (cI, 40, .inl S2.2.1.2.2.2.1))] : va_W) [0, 1, 2, 3, 4, 5, 6, 7, 8, 9, 10] ([(q0, .inr (3, [.ref q2, .ref q1])), (q1, .inl (cQ, 4, .inr (.inr (.inr (.inr S0))))), (q2, .inr (1, [.ref q3, .ref q4, .ref q5, .ref q6, .ref q7, .ref q8, .ref q9, .ref q10, .int S1.2.2.2.2.2.2.2.2.1, .int S1.2.2.2.2.2.2.2.2.2])), (q3, .inl (cI, 301, .inl S1.1)), (q4, .inl (cI, 301, .inl S1.2.1)), (q5, .inl (cI, 301, .inl S1.2.2.1)), (q6, .inl (cI, 301, .inl S1.2.2.2.1)), (q7, .inl (cI, 301, .inl S1.2.2.2.2.1)), (q8, .inl (cI, 301, .inl S1.2.2.2.2.2.1)), (q9, .inl (cI, 301, .inl S1.2.2.2.2.2.2.1)), (q10, .inl (cI, 300, .inl S1.2.2.2.2.2.2.2.1))] : va_W) = [(q0, .inr (3, [.ref q2, .ref q1])), (q1, .inl (cQ, 4, .inr (.inr (.inr (.inr S0))))), (q2, .inr (1, [.ref q3, .ref q4, .ref q5, .ref q6, .ref q7, .ref q8, .ref q9, .ref q10, .int S1.2.2.2.2.2.2.2.2.1, .int S1.2.2.2.2.2.2.2.2.2])), (q3, .inl (cI, 301, .inl S1.1)), (q4, .inl (cI, 301, .inl S1.2.1)), (q5, .inl (cI, 301, .inl S1.2.2.1)), (q6, .inl (cI, 301, .inl S1.2.2.2.1)), (q7, .inl (cI, 301, .inl S1.2.2.2.2.1)), (q8, .inl (cI, 301, .inl S1.2.2.2.2.2.1)), (q9, .inl (cI, 301, .inl S1.2.2.2.2.2.2.1)), (q10, .inl (cI, 300, .inl S1.2.2.2.2.2.2.2.1)), (q11, .inr (2, [.ref q12, .ref q13, .int S2.2.2.1, .int S2.2.2.2.1, .int S2.2.2.2.2])), (q12, .inl (cI, 301, .inl S2.1)), (q13, .inr (0, [.ref q14, .ref q15, .ref q16, .ref q17, .int S2.2.1.2.2.2.2])), (q14, .inl (cZ, 40, .inl S2.2.1.1)), (q15, .inl (cI, 40, .inl S2.2.1.2.1)), (q16, .inl (cI, 40, .inl S2.2.1.2.2.1)), (q17, .inl (cI, 40, .inl S2.2.1.2.2.2.1))] from rfl).trans rfl
theorem hC_B_move_10 (cI cZ cQ : ClassId) (q0 q1 q2 q3 q4 q5 q6 q7 q8 q9 q10 q11 q12 q13 q14 q15 q16 q17 : Nat) (S0 : (Nat → Option Nat)) (S1 : cL) (S2 : cP) : ([0, 1, 2, 3, 4, 5, 6, 7, 8, 9, 10] : List Nat).map (fun i => (wB cI cZ cQ q0 q1 q2 S0 ++ wL cI cZ q2 q3 q4 q5 q6 q7 q8 q9 q10 S1 ++ wP cI cZ q11 q12 q13 q14 q15 q16 q17 S2 : va_W)[i]?) = (wB cI cZ cQ q0 q1 q2 S0 ++ wL cI cZ q2 q3 q4 q5 q6 q7 q8 q9 q10 S1 : va_W).map some := rfl
theorem hF_B_isMade (cI cZ cQ : ClassId) {b0 b1 u0 u1 u2 u3 u4 u5 u6 u7 u8 : Nat} (S0 R0 : (Nat → Option Nat)) (S1 R1 : cL) : (wB cI cZ cQ b0 b1 u0 R0 ++ wL cI cZ u0 u1 u2 u3 u4 u5 u6 u7 u8 R1 : va_W).map Prod.fst = (wB cI cZ cQ b0 b1 u0 S0 ++ wL cI cZ u0 u1 u2 u3 u4 u5 u6 u7 u8 S1 : va_W).map Prod.fst := rfl
theorem hU_B_move_10 (cI cZ cQ : ClassId) (q0 q1 q2 q3 q4 q5 q6 q7 q8 q9 q10 q11 q12 q13 q14 q15 q16 q17 : Nat) (S0 : (Nat → Option Nat)) (S1 : cL) (S2 : cP)  : vz_put (wB cI cZ cQ q0 q1 q2 S0 ++ wL cI cZ q2 q3 q4 q5 q6 q7 q8 q9 q10 S1 ++ wP cI cZ q11 q12 q13 q14 q15 q16 q17 S2 : va_W) [0, 1, 2, 3, 4, 5, 6, 7, 8, 9, 10] (wB cI cZ cQ q0 q1 q2 S0 ++ wL cI cZ q2 q3 q4 q5 q6 q7 q8 q9 q10 S1 : va_W) = wB cI cZ cQ q0 q1 q2 S0 ++ wL cI cZ q2 q3 q4 q5 q6 q7 q8 q9 q10 S1 ++ wP cI cZ q11 q12 q13 q14 q15 q16 q17 S2 := (show vz_put ([(q0, .inr (3, [.ref q2, .ref q1])), (q1, .inl (cQ, 4, .inr (.inr (.inr (.inr S0))))), (q2, .inr (1, [.ref q3, .ref q4, .ref q5, .ref q6, .ref q7, .ref q8, .ref q9, .ref q10, .int S1.2.2.2.2.2.2.2.2.1, .int S1.2.2.2.2.2.2.2.2.2])), (q3, .inl (cI, 301, .inl S1.1)), (q4, .inl (cI, 301, .inl S1.2.1)), (q5, .inl (cI, 301, .inl S1.2.2.1)), (q6, .inl (cI, 301, .inl S1.2.2.2.1)), (q7, .inl (cI, 301, .inl S1.2.2.2.2.1)), (q8, .inl (cI, 301, .inl S1.2.2.2.2.2.1)), (q9, .inl (cI, 301, .inl S1.2.2.2.2.2.2.1)), (q10, .inl (cI, 300, .inl S1.2.2.2.2.2.2.2.1)), (q11, .inr (2, [.ref q12, .ref q13, .int S2.2.2.1, .int S2.2.2.2.1, .int S2.2.2.2.2])), (q12, .inl (cI, 301, .inl S2.1)), (q13, .inr (0, [.ref q14, .ref q15, .ref q16, .ref q17, .int S2.2.1.2.2.2.2])), (q14, .inl (cZ, 40, .inl S2.2.1.1)), (q15, .inl (cI, 40, .inl S2.2.1.2.1)), (q16, .inl (cI, 40, .inl S2.2.1.2.2.1)), (q17, .inl (cI, 40, .inl S2.2.1.2.2.2.1))] : va_W) [0, 1, 2, 3, 4, 5, 6, 7, 8, 9, 10] ([(q0, .inr (3, [.ref q2, .ref q1])), (q1, .inl (cQ, 4, .inr (.inr (.inr (.inr S0))))), (q2, .inr (1, [.ref q3, .ref q4, .ref q5, .ref q6, .ref q7, .ref q8, .ref q9, .ref q10, .int S1.2.2.2.2.2.2.2.2.1, .int S1.2.2.2.2.2.2.2.2.2])), (q3, .inl (cI, 301, .inl S1.1)), (q4, .inl (cI, 301, .inl S1.2.1)), (q5, .inl (cI, 301, .inl S1.2.2.1)), (q6, .inl (cI, 301, .inl S1.2.2.2.1)), (q7, .inl (cI, 301, .inl S1.2.2.2.2.1)), (q8, .inl (cI, 301, .inl S1.2.2.2.2.2.1)), (q9, .inl (cI, 301, .inl S1.2.2.2.2.2.2.1)), (q10, .inl (cI, 300, .inl S1.2.2.2.2.2.2.2.1))] : va_W) = [(q0, .inr (3, [.ref q2, .ref q1])), (q1, .inl (cQ, 4, .inr (.inr (.inr (.inr S0))))), (q2, .inr (1, [.ref q3, .ref q4, .ref q5, .ref q6, .ref q7, .ref q8, .ref q9, .ref q10, .int S1.2.2.2.2.2.2.2.2.1, .int S1.2.2.2.2.2.2.2.2.2])), (q3, .inl (cI, 301, .inl S1.1)), (q4, .inl (cI, 301, .inl S1.2.1)), (q5, .inl (cI, 301, .inl S1.2.2.1)), (q6, .inl (cI, 301, .inl S1.2.2.2.1)), (q7, .inl (cI, 301, .inl S1.2.2.2.2.1)), (q8, .inl (cI, 301, .inl S1.2.2.2.2.2.1)), (q9, .inl (cI, 301, .inl S1.2.2.2.2.2.2.1)), (q10, .inl (cI, 300, .inl S1.2.2.2.2.2.2.2.1)), (q11, .inr (2, [.ref q12, .ref q13, .int S2.2.2.1, .int S2.2.2.2.1, .int S2.2.2.2.2])), (q12, .inl (cI, 301, .inl S2.1)), (q13, .inr (0, [.ref q14, .ref q15, .ref q16, .ref q17, .int S2.2.1.2.2.2.2])), (q14, .inl (cZ, 40, .inl S2.2.1.1)), (q15, .inl (cI, 40, .inl S2.2.1.2.1)), (q16, .inl (cI, 40, .inl S2.2.1.2.2.1)), (q17, .inl (cI, 40, .inl S2.2.1.2.2.2.1))] from rfl).trans rfl
theorem hC_B_move_18 (cI cZ cQ : ClassId) (q0 q1 q2 q3 q4 q5 q6 q7 q8 q9 q10 q11 q12 q13 q14 q15 q16 q17 : Nat) (S0 : (Nat → Option Nat)) (S1 : cL) (S2 : cP) : ([0, 1, 2, 3, 4, 5, 6, 7, 8, 9, 10] : List Nat).map (fun i => (wB cI cZ cQ q0 q1 q2 S0 ++ wL cI cZ q2 q3 q4 q5 q6 q7 q8 q9 q10 S1 ++ wP cI cZ q11 q12 q13 q14 q15 q16 q17 S2 : va_W)[i]?) = (wB cI cZ cQ q0 q1 q2 S0 ++ wL cI cZ q2 q3 q4 q5 q6 q7 q8 q9 q10 S1 : va_W).map some := rfl
theorem hF_B_isObject (cI cZ cQ : ClassId) {b0 b1 u0 u1 u2 u3 u4 u5 u6 u7 u8 : Nat} (S0 R0 : (Nat → Option Nat)) (S1 R1 : cL) : (wB cI cZ cQ b0 b1 u0 R0 ++ wL cI cZ u0 u1 u2 u3 u4 u5 u6 u7 u8 R1 : va_W).map Prod.fst = (wB cI cZ cQ b0 b1 u0 S0 ++ wL cI cZ u0 u1 u2 u3 u4 u5 u6 u7 u8 S1 : va_W).map Prod.fst := rfl
theorem hU_B_move_18 (cI cZ cQ : ClassId) (q0 q1 q2 q3 q4 q5 q6 q7 q8 q9 q10 q11 q12 q13 q14 q15 q16 q17 : Nat) (S0 : (Nat → Option Nat)) (S1 : cL) (S2 : cP)  : vz_put (wB cI cZ cQ q0 q1 q2 S0 ++ wL cI cZ q2 q3 q4 q5 q6 q7 q8 q9 q10 S1 ++ wP cI cZ q11 q12 q13 q14 q15 q16 q17 S2 : va_W) [0, 1, 2, 3, 4, 5, 6, 7, 8, 9, 10] (wB cI cZ cQ q0 q1 q2 S0 ++ wL cI cZ q2 q3 q4 q5 q6 q7 q8 q9 q10 S1 : va_W) = wB cI cZ cQ q0 q1 q2 S0 ++ wL cI cZ q2 q3 q4 q5 q6 q7 q8 q9 q10 S1 ++ wP cI cZ q11 q12 q13 q14 q15 q16 q17 S2 := (show vz_put ([(q0, .inr (3, [.ref q2, .ref q1])), (q1, .inl (cQ, 4, .inr (.inr (.inr (.inr S0))))), (q2, .inr (1, [.ref q3, .ref q4, .ref q5, .ref q6, .ref q7, .ref q8, .ref q9, .ref q10, .int S1.2.2.2.2.2.2.2.2.1, .int S1.2.2.2.2.2.2.2.2.2])), (q3, .inl (cI, 301, .inl S1.1)), (q4, .inl (cI, 301, .inl S1.2.1)), (q5, .inl (cI, 301, .inl S1.2.2.1)), (q6, .inl (cI, 301, .inl S1.2.2.2.1)), (q7, .inl (cI, 301, .inl S1.2.2.2.2.1)), (q8, .inl (cI, 301, .inl S1.2.2.2.2.2.1)), (q9, .inl (cI, 301, .inl S1.2.2.2.2.2.2.1)), (q10, .inl (cI, 300, .inl S1.2.2.2.2.2.2.2.1)), (q11, .inr (2, [.ref q12, .ref q13, .int S2.2.2.1, .int S2.2.2.2.1, .int S2.2.2.2.2])), (q12, .inl (cI, 301, .inl S2.1)), (q13, .inr (0, [.ref q14, .ref q15, .ref q16, .ref q17, .int S2.2.1.2.2.2.2])), (q14, .inl (cZ, 40, .inl S2.2.1.1)), (q15, .inl (cI, 40, .inl S2.2.1.2.1)), (q16, .inl (cI, 40, .inl S2.2.1.2.2.1)), (q17, .inl (cI, 40, .inl S2.2.1.2.2.2.1))] : va_W) [0, 1, 2, 3, 4, 5, 6, 7, 8, 9, 10] ([(q0, .inr (3, [.ref q2, .ref q1])), (q1, .inl (cQ, 4, .inr (.inr (.inr (.inr S0))))), (q2, .inr (1, [.ref q3, .ref q4, .ref q5, .ref q6, .ref q7, .ref q8, .ref q9, .ref q10, .int S1.2.2.2.2.2.2.2.2.1, .int S1.2.2.2.2.2.2.2.2.2])), (q3, .inl (cI, 301, .inl S1.1)), (q4, .inl (cI, 301, .inl S1.2.1)), (q5, .inl (cI, 301, .inl S1.2.2.1)), (q6, .inl (cI, 301, .inl S1.2.2.2.1)), (q7, .inl (cI, 301, .inl S1.2.2.2.2.1)), (q8, .inl (cI, 301, .inl S1.2.2.2.2.2.1)), (q9, .inl (cI, 301, .inl S1.2.2.2.2.2.2.1)), (q10, .inl (cI, 300, .inl S1.2.2.2.2.2.2.2.1))] : va_W) = [(q0, .inr (3, [.ref q2, .ref q1])), (q1, .inl (cQ, 4, .inr (.inr (.inr (.inr S0))))), (q2, .inr (1, [.ref q3, .ref q4, .ref q5, .ref q6, .ref q7, .ref q8, .ref q9, .ref q10, .int S1.2.2.2.2.2.2.2.2.1, .int S1.2.2.2.2.2.2.2.2.2])), (q3, .inl (cI, 301, .inl S1.1)), (q4, .inl (cI, 301, .inl S1.2.1)), (q5, .inl (cI, 301, .inl S1.2.2.1)), (q6, .inl (cI, 301, .inl S1.2.2.2.1)), (q7, .inl (cI, 301, .inl S1.2.2.2.2.1)), (q8, .inl (cI, 301, .inl S1.2.2.2.2.2.1)), (q9, .inl (cI, 301, .inl S1.2.2.2.2.2.2.1)), (q10, .inl (cI, 300, .inl S1.2.2.2.2.2.2.2.1)), (q11, .inr (2, [.ref q12, .ref q13, .int S2.2.2.1, .int S2.2.2.2.1, .int S2.2.2.2.2])), (q12, .inl (cI, 301, .inl S2.1)), (q13, .inr (0, [.ref q14, .ref q15, .ref q16, .ref q17, .int S2.2.1.2.2.2.2])), (q14, .inl (cZ, 40, .inl S2.2.1.1)), (q15, .inl (cI, 40, .inl S2.2.1.2.1)), (q16, .inl (cI, 40, .inl S2.2.1.2.2.1)), (q17, .inl (cI, 40, .inl S2.2.1.2.2.2.1))] from rfl).trans rfl
theorem hC_B_move_66 (cI cZ cQ : ClassId) (q0 q1 q2 q3 q4 q5 q6 q7 q8 q9 q10 q11 q12 q13 q14 q15 q16 q17 : Nat) (S0 : (Nat → Option Nat)) (S1 : cL) (S2 : cP) : ([2, 3, 4, 5, 6, 7, 8, 9, 10] : List Nat).map (fun i => (wB cI cZ cQ q0 q1 q2 S0 ++ wL cI cZ q2 q3 q4 q5 q6 q7 q8 q9 q10 S1 ++ wP cI cZ q11 q12 q13 q14 q15 q16 q17 S2 : va_W)[i]?) = (wL cI cZ q2 q3 q4 q5 q6 q7 q8 q9 q10 S1 : va_W).map some := rfl
theorem hU_B_move_66 (cI cZ cQ : ClassId) (q0 q1 q2 q3 q4 q5 q6 q7 q8 q9 q10 q11 q12 q13 q14 q15 q16 q17 : Nat) (S0 : (Nat → Option Nat)) (S1 : cL) (S2 : cP) (R0 : cL) : vz_put (wB cI cZ cQ q0 q1 q2 S0 ++ wL cI cZ q2 q3 q4 q5 q6 q7 q8 q9 q10 S1 ++ wP cI cZ q11 q12 q13 q14 q15 q16 q17 S2 : va_W) [2, 3, 4, 5, 6, 7, 8, 9, 10] (wL cI cZ q2 q3 q4 q5 q6 q7 q8 q9 q10 R0 : va_W) = wB cI cZ cQ q0 q1 q2 S0 ++ wL cI cZ q2 q3 q4 q5 q6 q7 q8 q9 q10 R0 ++ wP cI cZ q11 q12 q13 q14 q15 q16 q17 S2 := (show vz_put ([(q0, .inr (3, [.ref q2, .ref q1])), (q1, .inl (cQ, 4, .inr (.inr (.inr (.inr S0))))), (q2, .inr (1, [.ref q3, .ref q4, .ref q5, .ref q6, .ref q7, .ref q8, .ref q9, .ref q10, .int S1.2.2.2.2.2.2.2.2.1, .int S1.2.2.2.2.2.2.2.2.2])), (q3, .inl (cI, 301, .inl S1.1)), (q4, .inl (cI, 301, .inl S1.2.1)), (q5, .inl (cI, 301, .inl S1.2.2.1)), (q6, .inl (cI, 301, .inl S1.2.2.2.1)), (q7, .inl (cI, 301, .inl S1.2.2.2.2.1)), (q8, .inl (cI, 301, .inl S1.2.2.2.2.2.1)), (q9, .inl (cI, 301, .inl S1.2.2.2.2.2.2.1)), (q10, .inl (cI, 300, .inl S1.2.2.2.2.2.2.2.1)), (q11, .inr (2, [.ref q12, .ref q13, .int S2.2.2.1, .int S2.2.2.2.1, .int S2.2.2.2.2])), (q12, .inl (cI, 301, .inl S2.1)), (q13, .inr (0, [.ref q14, .ref q15, .ref q16, .ref q17, .int S2.2.1.2.2.2.2])), (q14, .inl (cZ, 40, .inl S2.2.1.1)), (q15, .inl (cI, 40, .inl S2.2.1.2.1)), (q16, .inl (cI, 40, .inl S2.2.1.2.2.1)), (q17, .inl (cI, 40, .inl S2.2.1.2.2.2.1))] : va_W) [2, 3, 4, 5, 6, 7, 8, 9, 10] ([(q2, .inr (1, [.ref q3, .ref q4, .ref q5, .ref q6, .ref q7, .ref q8, .ref q9, .ref q10, .int R0.2.2.2.2.2.2.2.2.1, .int R0.2.2.2.2.2.2.2.2.2])), (q3, .inl (cI, 301, .inl R0.1)), (q4, .inl (cI, 301, .inl R0.2.1)), (q5, .inl (cI, 301, .inl R0.2.2.1)), (q6, .inl (cI, 301, .inl R0.2.2.2.1)), (q7, .inl (cI, 301, .inl R0.2.2.2.2.1)), (q8, .inl (cI, 301, .inl R0.2.2.2.2.2.1)), (q9, .inl (cI, 301, .inl R0.2.2.2.2.2.2.1)), (q10, .inl (cI, 300, .inl R0.2.2.2.2.2.2.2.1))] : va_W) = [(q0, .inr (3, [.ref q2, .ref q1])), (q1, .inl (cQ, 4, .inr (.inr (.inr (.inr S0))))), (q2, .inr (1, [.ref q3, .ref q4, .ref q5, .ref q6, .ref q7, .ref q8, .ref q9, .ref q10, .int R0.2.2.2.2.2.2.2.2.1, .int R0.2.2.2.2.2.2.2.2.2])), (q3, .inl (cI, 301, .inl R0.1)), (q4, .inl (cI, 301, .inl R0.2.1)), (q5, .inl (cI, 301, .inl R0.2.2.1)), (q6, .inl (cI, 301, .inl R0.2.2.2.1)), (q7, .inl (cI, 301, .inl R0.2.2.2.2.1)), (q8, .inl (cI, 301, .inl R0.2.2.2.2.2.1)), (q9, .inl (cI, 301, .inl R0.2.2.2.2.2.2.1)), (q10, .inl (cI, 300, .inl R0.2.2.2.2.2.2.2.1)), (q11, .inr (2, [.ref q12, .ref q13, .int S2.2.2.1, .int S2.2.2.2.1, .int S2.2.2.2.2])), (q12, .inl (cI, 301, .inl S2.1)), (q13, .inr (0, [.ref q14, .ref q15, .ref q16, .ref q17, .int S2.2.1.2.2.2.2])), (q14, .inl (cZ, 40, .inl S2.2.1.1)), (q15, .inl (cI, 40, .inl S2.2.1.2.1)), (q16, .inl (cI, 40, .inl S2.2.1.2.2.1)), (q17, .inl (cI, 40, .inl S2.2.1.2.2.2.1))] from rfl).trans rfl
theorem hC_B_move_69 (cI cZ cQ : ClassId) (q0 q1 q2 q3 q4 q5 q6 q7 q8 q9 q10 q11 q12 q13 q14 q15 q16 q17 : Nat) (S0 : (Nat → Option Nat)) (S1 : cL) (S2 : cP) : ([0, 1, 2, 3, 4, 5, 6, 7, 8, 9, 10, 11, 12, 13, 14, 15, 16, 17] : List Nat).map (fun i => (wB cI cZ cQ q0 q1 q2 S0 ++ wL cI cZ q2 q3 q4 q5 q6 q7 q8 q9 q10 S1 ++ wP cI cZ q11 q12 q13 q14 q15 q16 q17 S2 : va_W)[i]?) = (wB cI cZ cQ q0 q1 q2 S0 ++ wL cI cZ q2 q3 q4 q5 q6 q7 q8 q9 q10 S1 ++ wP cI cZ q11 q12 q13 q14 q15 q16 q17 S2 : va_W).map some := rfl
theorem hU_B_move_69 (cI cZ cQ : ClassId) (q0 q1 q2 q3 q4 q5 q6 q7 q8 q9 q10 q11 q12 q13 q14 q15 q16 q17 : Nat) (S0 : (Nat → Option Nat)) (S1 : cL) (S2 : cP) (R2 : cP) : vz_put (wB cI cZ cQ q0 q1 q2 S0 ++ wL cI cZ q2 q3 q4 q5 q6 q7 q8 q9 q10 S1 ++ wP cI cZ q11 q12 q13 q14 q15 q16 q17 S2 : va_W) [0, 1, 2, 3, 4, 5, 6, 7, 8, 9, 10, 11, 12, 13, 14, 15, 16, 17] (wB cI cZ cQ q0 q1 q2 S0 ++ wL cI cZ q2 q3 q4 q5 q6 q7 q8 q9 q10 S1 ++ wP cI cZ q11 q12 q13 q14 q15 q16 q17 R2 : va_W) = wB cI cZ cQ q0 q1 q2 S0 ++ wL cI cZ q2 q3 q4 q5 q6 q7 q8 q9 q10 S1 ++ wP cI cZ q11 q12 q13 q14 q15 q16 q17 R2 := (show vz_put ([(q0, .inr (3, [.ref q2, .ref q1])), (q1, .inl (cQ, 4, .inr (.inr (.inr (.inr S0))))), (q2, .inr (1, [.ref q3, .ref q4, .ref q5, .ref q6, .ref q7, .ref q8, .ref q9, .ref q10, .int S1.2.2.2.2.2.2.2.2.1, .int S1.2.2.2.2.2.2.2.2.2])), (q3, .inl (cI, 301, .inl S1.1)), (q4, .inl (cI, 301, .inl S1.2.1)), (q5, .inl (cI, 301, .inl S1.2.2.1)), (q6, .inl (cI, 301, .inl S1.2.2.2.1)), (q7, .inl (cI, 301, .inl S1.2.2.2.2.1)), (q8, .inl (cI, 301, .inl S1.2.2.2.2.2.1)), (q9, .inl (cI, 301, .inl S1.2.2.2.2.2.2.1)), (q10, .inl (cI, 300, .inl S1.2.2.2.2.2.2.2.1)), (q11, .inr (2, [.ref q12, .ref q13, .int S2.2.2.1, .int S2.2.2.2.1, .int S2.2.2.2.2])), (q12, .inl (cI, 301, .inl S2.1)), (q13, .inr (0, [.ref q14, .ref q15, .ref q16, .ref q17, .int S2.2.1.2.2.2.2])), (q14, .inl (cZ, 40, .inl S2.2.1.1)), (q15, .inl (cI, 40, .inl S2.2.1.2.1)), (q16, .inl (cI, 40, .inl S2.2.1.2.2.1)), (q17, .inl (cI, 40, .inl S2.2.1.2.2.2.1))] : va_W) [0, 1, 2, 3, 4, 5, 6, 7, 8, 9, 10, 11, 12, 13, 14, 15, 16, 17] ([(q0, .inr (3, [.ref q2, .ref q1])), (q1, .inl (cQ, 4, .inr (.inr (.inr (.inr S0))))), (q2, .inr (1, [.ref q3, .ref q4, .ref q5, .ref q6, .ref q7, .ref q8, .ref q9, .ref q10, .int S1.2.2.2.2.2.2.2.2.1, .int S1.2.2.2.2.2.2.2.2.2])), (q3, .inl (cI, 301, .inl S1.1)), (q4, .inl (cI, 301, .inl S1.2.1)), (q5, .inl (cI, 301, .inl S1.2.2.1)), (q6, .inl (cI, 301, .inl S1.2.2.2.1)), (q7, .inl (cI, 301, .inl S1.2.2.2.2.1)), (q8, .inl (cI, 301, .inl S1.2.2.2.2.2.1)), (q9, .inl (cI, 301, .inl S1.2.2.2.2.2.2.1)), (q10, .inl (cI, 300, .inl S1.2.2.2.2.2.2.2.1)), (q11, .inr (2, [.ref q12, .ref q13, .int R2.2.2.1, .int R2.2.2.2.1, .int R2.2.2.2.2])), (q12, .inl (cI, 301, .inl R2.1)), (q13, .inr (0, [.ref q14, .ref q15, .ref q16, .ref q17, .int R2.2.1.2.2.2.2])), (q14, .inl (cZ, 40, .inl R2.2.1.1)), (q15, .inl (cI, 40, .inl R2.2.1.2.1)), (q16, .inl (cI, 40, .inl R2.2.1.2.2.1)), (q17, .inl (cI, 40, .inl R2.2.1.2.2.2.1))] : va_W) = [(q0, .inr (3, [.ref q2, .ref q1])), (q1, .inl (cQ, 4, .inr (.inr (.inr (.inr S0))))), (q2, .inr (1, [.ref q3, .ref q4, .ref q5, .ref q6, .ref q7, .ref q8, .ref q9, .ref q10, .int S1.2.2.2.2.2.2.2.2.1, .int S1.2.2.2.2.2.2.2.2.2])), (q3, .inl (cI, 301, .inl S1.1)), (q4, .inl (cI, 301, .inl S1.2.1)), (q5, .inl (cI, 301, .inl S1.2.2.1)), (q6, .inl (cI, 301, .inl S1.2.2.2.1)), (q7, .inl (cI, 301, .inl S1.2.2.2.2.1)), (q8, .inl (cI, 301, .inl S1.2.2.2.2.2.1)), (q9, .inl (cI, 301, .inl S1.2.2.2.2.2.2.1)), (q10, .inl (cI, 300, .inl S1.2.2.2.2.2.2.2.1)), (q11, .inr (2, [.ref q12, .ref q13, .int R2.2.2.1, .int R2.2.2.2.1, .int R2.2.2.2.2])), (q12, .inl (cI, 301, .inl R2.1)), (q13, .inr (0, [.ref q14, .ref q15, .ref q16, .ref q17, .int R2.2.1.2.2.2.2])), (q14, .inl (cZ, 40, .inl R2.2.1.1)), (q15, .inl (cI, 40, .inl R2.2.1.2.1)), (q16, .inl (cI, 40, .inl R2.2.1.2.2.1)), (q17, .inl (cI, 40, .inl R2.2.1.2.2.2.1))] from rfl).trans rfl
theorem hC_B_move_35 (cI cZ cQ : ClassId) (q0 q1 q2 q3 q4 q5 q6 q7 q8 q9 q10 q11 q12 q13 q14 q15 q16 q17 : Nat) (S0 : (Nat → Option Nat)) (S1 : cL) (S2 : cP) : ([0, 1, 2, 3, 4, 5, 6, 7, 8, 9, 10] : List Nat).map (fun i => (wB cI cZ cQ q0 q1 q2 S0 ++ wL cI cZ q2 q3 q4 q5 q6 q7 q8 q9 q10 S1 ++ wP cI cZ q11 q12 q13 q14 q15 q16 q17 S2 : va_W)[i]?) = (wB cI cZ cQ q0 q1 q2 S0 ++ wL cI cZ q2 q3 q4 q5 q6 q7 q8 q9 q10 S1 : va_W).map some := rfl
theorem hU_B_move_35 (cI cZ cQ : ClassId) (q0 q1 q2 q3 q4 q5 q6 q7 q8 q9 q10 q11 q12 q13 q14 q15 q16 q17 : Nat) (S0 : (Nat → Option Nat)) (S1 : cL) (S2 : cP)  : vz_put (wB cI cZ cQ q0 q1 q2 S0 ++ wL cI cZ q2 q3 q4 q5 q6 q7 q8 q9 q10 S1 ++ wP cI cZ q11 q12 q13 q14 q15 q16 q17 S2 : va_W) [0, 1, 2, 3, 4, 5, 6, 7, 8, 9, 10] (wB cI cZ cQ q0 q1 q2 S0 ++ wL cI cZ q2 q3 q4 q5 q6 q7 q8 q9 q10 S1 : va_W) = wB cI cZ cQ q0 q1 q2 S0 ++ wL cI cZ q2 q3 q4 q5 q6 q7 q8 q9 q10 S1 ++ wP cI cZ q11 q12 q13 q14 q15 q16 q17 S2 := (show vz_put ([(q0, .inr (3, [.ref q2, .ref q1])), (q1, .inl (cQ, 4, .inr (.inr (.inr (.inr S0))))), (q2, .inr (1, [.ref q3, .ref q4, .ref q5, .ref q6, .ref q7, .ref q8, .ref q9, .ref q10, .int S1.2.2.2.2.2.2.2.2.1, .int S1.2.2.2.2.2.2.2.2.2])), (q3, .inl (cI, 301, .inl S1.1)), (q4, .inl (cI, 301, .inl S1.2.1)), (q5, .inl (cI, 301, .inl S1.2.2.1)), (q6, .inl (cI, 301, .inl S1.2.2.2.1)), (q7, .inl (cI, 301, .inl S1.2.2.2.2.1)), (q8, .inl (cI, 301, .inl S1.2.2.2.2.2.1)), (q9, .inl (cI, 301, .inl S1.2.2.2.2.2.2.1)), (q10, .inl (cI, 300, .inl S1.2.2.2.2.2.2.2.1)), (q11, .inr (2, [.ref q12, .ref q13, .int S2.2.2.1, .int S2.2.2.2.1, .int S2.2.2.2.2])), (q12, .inl (cI, 301, .inl S2.1)), (q13, .inr (0, [.ref q14, .ref q15, .ref q16, .ref q17, .int S2.2.1.2.2.2.2])), (q14, .inl (cZ, 40, .inl S2.2.1.1)), (q15, .inl (cI, 40, .inl S2.2.1.2.1)), (q16, .inl (cI, 40, .inl S2.2.1.2.2.1)), (q17, .inl (cI, 40, .inl S2.2.1.2.2.2.1))] : va_W) [0, 1, 2, 3, 4, 5, 6, 7, 8, 9, 10] ([(q0, .inr (3, [.ref q2, .ref q1])), (q1, .inl (cQ, 4, .inr (.inr (.inr (.inr S0))))), (q2, .inr (1, [.ref q3, .ref q4, .ref q5, .ref q6, .ref q7, .ref q8, .ref q9, .ref q10, .int S1.2.2.2.2.2.2.2.2.1, .int S1.2.2.2.2.2.2.2.2.2])), (q3, .inl (cI, 301, .inl S1.1)), (q4, .inl (cI, 301, .inl S1.2.1)), (q5, .inl (cI, 301, .inl S1.2.2.1)), (q6, .inl (cI, 301, .inl S1.2.2.2.1)), (q7, .inl (cI, 301, .inl S1.2.2.2.2.1)), (q8, .inl (cI, 301, .inl S1.2.2.2.2.2.1)), (q9, .inl (cI, 301, .inl S1.2.2.2.2.2.2.1)), (q10, .inl (cI, 300, .inl S1.2.2.2.2.2.2.2.1))] : va_W) = [(q0, .inr (3, [.ref q2, .ref q1])), (q1, .inl (cQ, 4, .inr (.inr (.inr (.inr S0))))), (q2, .inr (1, [.ref q3, .ref q4, .ref q5, .ref q6, .ref q7, .ref q8, .ref q9, .ref q10, .int S1.2.2.2.2.2.2.2.2.1, .int S1.2.2.2.2.2.2.2.2.2])), (q3, .inl (cI, 301, .inl S1.1)), (q4, .inl (cI, 301, .inl S1.2.1)), (q5, .inl (cI, 301, .inl S1.2.2.1)), (q6, .inl (cI, 301, .inl S1.2.2.2.1)), (q7, .inl (cI, 301, .inl S1.2.2.2.2.1)), (q8, .inl (cI, 301, .inl S1.2.2.2.2.2.1)), (q9, .inl (cI, 301, .inl S1.2.2.2.2.2.2.1)), (q10, .inl (cI, 300, .inl S1.2.2.2.2.2.2.2.1)), (q11, .inr (2, [.ref q12, .ref q13, .int S2.2.2.1, .int S2.2.2.2.1, .int S2.2.2.2.2])), (q12, .inl (cI, 301, .inl S2.1)), (q13, .inr (0, [.ref q14, .ref q15, .ref q16, .ref q17, .int S2.2.1.2.2.2.2])), (q14, .inl (cZ, 40, .inl S2.2.1.1)), (q15, .inl (cI, 40, .inl S2.2.1.2.1)), (q16, .inl (cI, 40, .inl S2.2.1.2.2.1)), (q17, .inl (cI, 40, .inl S2.2.1.2.2.2.1))] from rfl).trans rfl
def m_B_move (L : cL) (P : cP) (x1 : Int32) (x2 : Int32) (x3 : Int32) (x4 : Int32) : Int32 × cL × cP := (if (m_B_mayWrite L x1) = 0 then (-1, L, P) else (if (m_B_isMade L x2) = 0 then (-1, L, P) else (if (m_B_isObject L x3) = 0 then (-1, L, P) else (if x4 = (-1) then ((m_B_told (m_L_add L 1 x1 (P.2.2.2.1 + 1) x2 x3 x4).2 P x1 (m_L_add L 1 x1 (P.2.2.2.1 + 1) x2 x3 x4).1).1, (m_L_add L 1 x1 (P.2.2.2.1 + 1) x2 x3 x4).2, (m_B_told (m_L_add L 1 x1 (P.2.2.2.1 + 1) x2 x3 x4).2 P x1 (m_L_add L 1 x1 (P.2.2.2.1 + 1) x2 x3 x4).1).2) else (if (m_B_isObject L x4) = 0 then (-1, L, P) else ((m_B_told (m_L_add L 1 x1 (P.2.2.2.1 + 1) x2 x3 x4).2 P x1 (m_L_add L 1 x1 (P.2.2.2.1 + 1) x2 x3 x4).1).1, (m_L_add L 1 x1 (P.2.2.2.1 + 1) x2 x3 x4).2, (m_B_told (m_L_add L 1 x1 (P.2.2.2.1 + 1) x2 x3 x4).2 P x1 (m_L_add L 1 x1 (P.2.2.2.1 + 1) x2 x3 x4).1).2))))))
set_option maxHeartbeats 1000000 in
set_option maxRecDepth 100000 in
theorem c_B_move (l : Launch) (dC : Nat → ClassId) (dI : Nat → Nat → Nat) (cI cZ cQ : ClassId) (b0 : Nat) (b1 : Nat) (F : Nat → Option Nat) (u0 : Nat) (u1 : Nat) (u2 : Nat) (u3 : Nat) (u4 : Nat) (u5 : Nat) (u6 : Nat) (u7 : Nat) (u8 : Nat) (L : cL) (p0 : Nat) (p1 : Nat) (h0 : Nat) (a1 : Nat) (a2 : Nat) (a3 : Nat) (a4 : Nat) (P : cP) (x1 : Int32) (x2 : Int32) (x3 : Int32) (x4 : Int32) (hF : 0 ≤ x1.toInt → x1.toInt < 4 → F x1.toNatClampNeg = some p0) (hL : okL L) (hA : (0 ≤ x1.toInt ∧ x1.toInt < 4) → L.2.2.2.2.2.2.2.2.1.toInt < 300 → (1 ≤ x2.toInt ∧ x2.toInt ≤ L.2.2.2.2.2.2.2.2.2.toInt) → (0 ≤ x3.toInt ∧ x3.toInt ≤ L.2.2.2.2.2.2.2.2.2.toInt) → (x4 = -1 ∨ (0 ≤ x4.toInt ∧ x4.toInt ≤ L.2.2.2.2.2.2.2.2.2.toInt)) → okTold (m_L_add L 1 x1 (P.2.2.2.1 + 1) x2 x3 x4).2 P (m_L_add L 1 x1 (P.2.2.2.1 + 1) x2 x3 x4).1) : vz_C l (dC, dI) classes [(cI, .int), (cZ, .boolean), (cQ, .object "BinTrees$Person")] y_B_move (Cond.code y_B_move b_B_move 5 (some .int) :: vz_tbl) ({ frames := 6, cells := 0, slots := 0, locals := 141 }) [.ref b0, .int x1, .int x2, .int x3, .int x4] (wB cI cZ cQ b0 b1 u0 F ++ wL cI cZ u0 u1 u2 u3 u4 u5 u6 u7 u8 L ++ wP cI cZ p0 p1 h0 a1 a2 a3 a4 P) (some (.int ((m_B_move L P x1 x2 x3 x4).1))) (wB cI cZ cQ b0 b1 u0 F ++ wL cI cZ u0 u1 u2 u3 u4 u5 u6 u7 u8 ((m_B_move L P x1 x2 x3 x4).2.1) ++ wP cI cZ p0 p1 h0 a1 a2 a3 a4 ((m_B_move L P x1 x2 x3 x4).2.2)) := by
  generalize hres : (m_B_move L P x1 x2 x3 x4) = RES
  refine vz_C.of (by decide) (Nat.le_of_ble_eq_true rfl) ?_
  intro p e s m below meth c ls E hl hK hP hD hS
  obtain ⟨hx, hb, hr, hml, hown, hT, hlocks⟩ := E
  obtain ⟨Q, hQ⟩ : ∃ Q, Q = MQ below (vz_Q (dC, dI) classes (wB cI cZ cQ b0 b1 u0 F ++ wL cI cZ u0 u1 u2 u3 u4 u5 u6 u7 u8 L ++ wP cI cZ p0 p1 h0 a1 a2 a3 a4 P) (some (.int RES.1)) (wB cI cZ cQ b0 b1 u0 F ++ wL cI cZ u0 u1 u2 u3 u4 u5 u6 u7 u8 RES.2.1 ++ wP cI cZ p0 p1 h0 a1 a2 a3 a4 RES.2.2)) ([.ref b0, .int x1, .int x2, .int x3, .int x4] : List Value).toArray s 0 0 (vz_A (wB cI cZ cQ b0 b1 u0 F ++ wL cI cZ u0 u1 u2 u3 u4 u5 u6 u7 u8 L ++ wP cI cZ p0 p1 h0 a1 a2 a3 a4 P)) := ⟨_, rfl⟩
  rw [← hQ]
  have hl : lv_has ls 5 [(0, .ref b0), (1, .int x1), (2, .int x2), (3, .int x3), (4, .int x4)] := hl
  have T0 := ti_0
  have T1 := ti_1
  have Tm := ti_m1
  have T8 := ti_8
  have T39 := ti_39
  have T40 := ti_40
  have T4 := ti_4
  have T300 := ti_300
  have hS0 := hS
  refine lv_aload_n hx hb d_B_move_0 rfl (lv_at hl 0 rfl) ?_
  refine lv_iload_n hx hb d_B_move_1 rfl (lv_at hl 1 rfl) ?_
  have hc := c_B_mayWrite l dC dI cI cZ cQ b0 b1 F u0 u1 u2 u3 u4 u5 u6 u7 u8 L x1 
  generalize hg_2 : (m_B_mayWrite L x1) = g_2 at hc
  refine vz_callV (As := [.int x1]) (rest := []) ⟨hx, hb, hml, hown, hT⟩ hc (vz_goodV kw_143 kw_145 ks_0 kw_1 kw_146) ⟨rfl, hd_B_mayWrite⟩ ⟨⟨rfl, rfl⟩, Nat.le_of_ble_eq_true rfl, Nat.le_of_ble_eq_true rfl⟩ hK hP hD hS [0, 1, 2, 3, 4, 5, 6, 7, 8, 9, 10] rfl (hC_B_move_2 cI cZ cQ b0 b1 u0 u1 u2 u3 u4 u5 u6 u7 u8 p0 p1 h0 a1 a2 a3 a4 F L P) (hF_B_mayWrite cI cZ cQ _ _ _ _) 0 3 rfl rfl rfl rfl hl.1 rfl (Nat.le_of_ble_eq_true rfl) ⟨Nat.zero_le _, Nat.zero_le _⟩ d_B_move_2 (fun H locs hP hD hS => ?_)
  have hP : va_P (dC, dI) classes (wB cI cZ cQ b0 b1 u0 F ++ wL cI cZ u0 u1 u2 u3 u4 u5 u6 u7 u8 L ++ wP cI cZ p0 p1 h0 a1 a2 a3 a4 P) H := vz_reP (hU_B_move_2 cI cZ cQ b0 b1 u0 u1 u2 u3 u4 u5 u6 u7 u8 p0 p1 h0 a1 a2 a3 a4 F L P ) hP
  have hD : va_D (vz_A (wB cI cZ cQ b0 b1 u0 F ++ wL cI cZ u0 u1 u2 u3 u4 u5 u6 u7 u8 L ++ wP cI cZ p0 p1 h0 a1 a2 a3 a4 P)) (wB cI cZ cQ b0 b1 u0 F ++ wL cI cZ u0 u1 u2 u3 u4 u5 u6 u7 u8 L ++ wP cI cZ p0 p1 h0 a1 a2 a3 a4 P) := vz_reD (hU_B_move_2 cI cZ cQ b0 b1 u0 u1 u2 u3 u4 u5 u6 u7 u8 p0 p1 h0 a1 a2 a3 a4 F L P ) hD
  refine W.eq (g2 := F0 m 5 ls [.int g_2]) rfl ?_
  refine lv_if_eq (tgt := 24) hx hb d_B_move_5 (by decide) (fun c_5 => ?_) (fun c_5 => ?_)
  · have z_5 := congrArg Int32.toInt c_5
    refine lv_iconst (v := -1) hx hb d_B_move_24 (by decide) ?_
    rw [m_B_move] at hres
    try rw [hg_2] at hres
    rw [if_pos c_5] at hres
    subst hres
    subst hQ
    exact vz_iret hx hb hr hlocks d_B_move_25 hS rfl hP
  · have z_5 := mt Int32.toInt_inj.mp c_5
    refine lv_aload_n hx hb d_B_move_8 rfl (lv_at hl 0 rfl) ?_
    refine lv_iload_n hx hb d_B_move_9 rfl (lv_at hl 2 rfl) ?_
    have hc := c_B_isMade l dC dI cI cZ cQ b0 b1 F u0 u1 u2 u3 u4 u5 u6 u7 u8 L x2 
    generalize hg_10 : (m_B_isMade L x2) = g_10 at hc
    refine vz_callV (As := [.int x2]) (rest := []) ⟨hx, hb, hml, hown, hT⟩ hc (vz_goodV kw_231 kw_233 ks_9 kw_1 kw_234) ⟨rfl, hd_B_isMade⟩ ⟨⟨rfl, rfl⟩, Nat.le_of_ble_eq_true rfl, Nat.le_of_ble_eq_true rfl⟩ hK hP hD hS [0, 1, 2, 3, 4, 5, 6, 7, 8, 9, 10] rfl (hC_B_move_10 cI cZ cQ b0 b1 u0 u1 u2 u3 u4 u5 u6 u7 u8 p0 p1 h0 a1 a2 a3 a4 F L P) (hF_B_isMade cI cZ cQ _ _ _ _) 0 3 rfl rfl rfl rfl hl.1 rfl (Nat.le_of_ble_eq_true rfl) ⟨Nat.zero_le _, Nat.zero_le _⟩ d_B_move_10 (fun H locs hP hD hS => ?_)
    have hP : va_P (dC, dI) classes (wB cI cZ cQ b0 b1 u0 F ++ wL cI cZ u0 u1 u2 u3 u4 u5 u6 u7 u8 L ++ wP cI cZ p0 p1 h0 a1 a2 a3 a4 P) H := vz_reP (hU_B_move_10 cI cZ cQ b0 b1 u0 u1 u2 u3 u4 u5 u6 u7 u8 p0 p1 h0 a1 a2 a3 a4 F L P ) hP
    have hD : va_D (vz_A (wB cI cZ cQ b0 b1 u0 F ++ wL cI cZ u0 u1 u2 u3 u4 u5 u6 u7 u8 L ++ wP cI cZ p0 p1 h0 a1 a2 a3 a4 P)) (wB cI cZ cQ b0 b1 u0 F ++ wL cI cZ u0 u1 u2 u3 u4 u5 u6 u7 u8 L ++ wP cI cZ p0 p1 h0 a1 a2 a3 a4 P) := vz_reD (hU_B_move_10 cI cZ cQ b0 b1 u0 u1 u2 u3 u4 u5 u6 u7 u8 p0 p1 h0 a1 a2 a3 a4 F L P ) hD
    refine W.eq (g2 := F0 m 13 ls [.int g_10]) rfl ?_
    refine lv_if_eq (tgt := 24) hx hb d_B_move_13 (by decide) (fun c_13 => ?_) (fun c_13 => ?_)
    · have z_13 := congrArg Int32.toInt c_13
      refine lv_iconst (v := -1) hx hb d_B_move_24 (by decide) ?_
      rw [m_B_move] at hres
      try rw [hg_2] at hres
      rw [if_neg c_5] at hres
      try rw [hg_10] at hres
      rw [if_pos c_13] at hres
      subst hres
      subst hQ
      exact vz_iret hx hb hr hlocks d_B_move_25 hS rfl hP
    · have z_13 := mt Int32.toInt_inj.mp c_13
      refine lv_aload_n hx hb d_B_move_16 rfl (lv_at hl 0 rfl) ?_
      refine lv_iload_n hx hb d_B_move_17 rfl (lv_at hl 3 rfl) ?_
      have hc := c_B_isObject l dC dI cI cZ cQ b0 b1 F u0 u1 u2 u3 u4 u5 u6 u7 u8 L x3 
      generalize hg_18 : (m_B_isObject L x3) = g_18 at hc
      refine vz_callV (As := [.int x3]) (rest := []) ⟨hx, hb, hml, hown, hT⟩ hc (vz_goodV kw_235 kw_237 ks_10 kw_1 kw_238) ⟨rfl, hd_B_isObject⟩ ⟨⟨rfl, rfl⟩, Nat.le_of_ble_eq_true rfl, Nat.le_of_ble_eq_true rfl⟩ hK hP hD hS [0, 1, 2, 3, 4, 5, 6, 7, 8, 9, 10] rfl (hC_B_move_18 cI cZ cQ b0 b1 u0 u1 u2 u3 u4 u5 u6 u7 u8 p0 p1 h0 a1 a2 a3 a4 F L P) (hF_B_isObject cI cZ cQ _ _ _ _) 0 3 rfl rfl rfl rfl hl.1 rfl (Nat.le_of_ble_eq_true rfl) ⟨Nat.zero_le _, Nat.zero_le _⟩ d_B_move_18 (fun H locs hP hD hS => ?_)
      have hP : va_P (dC, dI) classes (wB cI cZ cQ b0 b1 u0 F ++ wL cI cZ u0 u1 u2 u3 u4 u5 u6 u7 u8 L ++ wP cI cZ p0 p1 h0 a1 a2 a3 a4 P) H := vz_reP (hU_B_move_18 cI cZ cQ b0 b1 u0 u1 u2 u3 u4 u5 u6 u7 u8 p0 p1 h0 a1 a2 a3 a4 F L P ) hP
      have hD : va_D (vz_A (wB cI cZ cQ b0 b1 u0 F ++ wL cI cZ u0 u1 u2 u3 u4 u5 u6 u7 u8 L ++ wP cI cZ p0 p1 h0 a1 a2 a3 a4 P)) (wB cI cZ cQ b0 b1 u0 F ++ wL cI cZ u0 u1 u2 u3 u4 u5 u6 u7 u8 L ++ wP cI cZ p0 p1 h0 a1 a2 a3 a4 P) := vz_reD (hU_B_move_18 cI cZ cQ b0 b1 u0 u1 u2 u3 u4 u5 u6 u7 u8 p0 p1 h0 a1 a2 a3 a4 F L P ) hD
      refine W.eq (g2 := F0 m 21 ls [.int g_18]) rfl ?_
      refine lv_if_ne (tgt := 26) hx hb d_B_move_21 (by decide) (fun c_21 => ?_) (fun c_21 => ?_)
      · have z_21 := mt Int32.toInt_inj.mp c_21
        refine lv_iload hx hb d_B_move_26 (lv_at hl 4 rfl) ?_
        refine lv_iconst (v := -1) hx hb d_B_move_28 (by decide) ?_
        refine lv_icmp_eq (tgt := 43) hx hb d_B_move_29 (by decide) (fun c_29 => ?_) (fun c_29 => ?_)
        · have z_29 := congrArg Int32.toInt c_29
          refine lv_aload_n hx hb d_B_move_43 rfl (lv_at hl 0 rfl) ?_
          refine lv_iload_n hx hb d_B_move_44 rfl (lv_at hl 1 rfl) ?_
          refine lv_aload_n hx hb d_B_move_45 rfl (lv_at hl 0 rfl) ?_
          refine va_get (D := (dC, dI)) (ci := 3) (v := .ref u0) (C := R_B) (T := F_B) (N := 2) hx hb hT i_B hown hK hP 0 rfl rfl 0 (by decide) (hT _ kw_132) (fun _ h9 => h9) rfl d_B_move_46 ?_
          refine lv_iconst (v := 1) hx hb d_B_move_49 (by decide) ?_
          refine lv_iload_n hx hb d_B_move_50 rfl (lv_at hl 1 rfl) ?_
          refine lv_aload_n hx hb d_B_move_51 rfl (lv_at hl 0 rfl) ?_
          refine va_get (D := (dC, dI)) (ci := 3) (v := .ref b1) (C := R_B) (T := F_B) (N := 2) hx hb hT i_B hown hK hP 0 rfl rfl 1 (by decide) (hT _ kw_133) (fun _ h9 => h9) rfl d_B_move_52 ?_
          refine lv_iload_n hx hb d_B_move_55 rfl (lv_at hl 1 rfl) ?_
          refine va_aldq hx hb hK hP 1 2 rfl rfl (by have hn := mw_t (L := L) (x1 := x1) (by rw [hg_2]; assumption); exact ti_vp (by omega) (by omega)) d_B_move_56 ?_
          rw [show va_rf (F x1.toNatClampNeg) = .ref p0 from by have hn := mw_t (L := L) (x1 := x1) (by rw [hg_2]; assumption); rw [hF hn.1.1 hn.1.2]; rfl]
          refine va_get (D := (dC, dI)) (ci := 2) (v := .int P.2.2.2.1) (C := R_P) (T := F_P) (N := 5) hx hb hT i_P hown hK hP 11 rfl rfl 3 (by decide) (hT _ kw_117) (fun _ h9 => h9) rfl d_B_move_57 ?_
          refine lv_iconst (v := 1) hx hb d_B_move_60 (by decide) ?_
          refine lv_iadd hx hb d_B_move_61 ?_
          refine lv_iload_n hx hb d_B_move_62 rfl (lv_at hl 2 rfl) ?_
          refine lv_iload_n hx hb d_B_move_63 rfl (lv_at hl 3 rfl) ?_
          refine lv_iload hx hb d_B_move_64 (lv_at hl 4 rfl) ?_
          have hc := c_L_add l dC dI cI cZ cQ u0 u1 u2 u3 u4 u5 u6 u7 u8 L 1 x1 (P.2.2.2.1 + 1) x2 x3 x4 (by have hn := mw_t (L := L) (x1 := x1) (by rw [hg_2]; assumption); have hl1 := hL.1; (try dsimp only); omega) (hL.2.1) (by intro h; first | exact absurd h (by decide) | (have := hz h; omega))
          generalize hg_66 : (m_L_add L 1 x1 (P.2.2.2.1 + 1) x2 x3 x4) = g_66 at hc
          refine vz_callV (As := [.int 1, .int x1, .int (P.2.2.2.1 + 1), .int x2, .int x3, .int x4]) (rest := [.int x1, .ref b0]) ⟨hx, hb, hml, hown, hT⟩ hc (vz_goodV kw_150 kw_151 kw_152 kw_2 kw_153) ⟨rfl, hd_L_add⟩ ⟨⟨rfl, rfl⟩, Nat.le_of_ble_eq_true rfl, Nat.le_of_ble_eq_true rfl⟩ hK hP hD hS [2, 3, 4, 5, 6, 7, 8, 9, 10] rfl (hC_B_move_66 cI cZ cQ b0 b1 u0 u1 u2 u3 u4 u5 u6 u7 u8 p0 p1 h0 a1 a2 a3 a4 F L P) (hF_L_add cI cZ cQ _ _) 0 1 rfl rfl rfl rfl hl.1 rfl (Nat.le_of_ble_eq_true rfl) ⟨Nat.zero_le _, Nat.zero_le _⟩ d_B_move_66 (fun H locs hP hD hS => ?_)
          have hP : va_P (dC, dI) classes (wB cI cZ cQ b0 b1 u0 F ++ wL cI cZ u0 u1 u2 u3 u4 u5 u6 u7 u8 g_66.2 ++ wP cI cZ p0 p1 h0 a1 a2 a3 a4 P) H := vz_reP (hU_B_move_66 cI cZ cQ b0 b1 u0 u1 u2 u3 u4 u5 u6 u7 u8 p0 p1 h0 a1 a2 a3 a4 F L P g_66.2) hP
          have hD : va_D (vz_A (wB cI cZ cQ b0 b1 u0 F ++ wL cI cZ u0 u1 u2 u3 u4 u5 u6 u7 u8 L ++ wP cI cZ p0 p1 h0 a1 a2 a3 a4 P)) (wB cI cZ cQ b0 b1 u0 F ++ wL cI cZ u0 u1 u2 u3 u4 u5 u6 u7 u8 g_66.2 ++ wP cI cZ p0 p1 h0 a1 a2 a3 a4 P) := vz_reD (hU_B_move_66 cI cZ cQ b0 b1 u0 u1 u2 u3 u4 u5 u6 u7 u8 p0 p1 h0 a1 a2 a3 a4 F L P g_66.2) hD
          refine W.eq (g2 := F0 m 69 ls [.int g_66.1, .int x1, .ref b0]) rfl ?_
          have hc := c_B_told l dC dI cI cZ cQ b0 b1 F u0 u1 u2 u3 u4 u5 u6 u7 u8 g_66.2 p0 p1 h0 a1 a2 a3 a4 P x1 g_66.1 (by have hn := mw_t (L := L) (x1 := x1) (by rw [hg_2]; assumption); exact hF hn.1.1 hn.1.2) (by have hn := mw_t (L := L) (x1 := x1) (by rw [hg_2]; assumption); exact hn.1) (by have hn := mw_t (L := L) (x1 := x1) (by rw [hg_2]; assumption); rw [← hg_66]; exact hA hn.1 hn.2 (by have hm := ism_t (L := L) (x1 := x2) (by rw [hg_10]; assumption); exact hm) (by have ho := iso_t (L := L) (x1 := x3) (by rw [hg_18]; assumption); exact ho) (by first | exact Or.inl c_29 | exact Or.inr (iso_t (by rw [hg_35]; assumption))))
          generalize hg_69 : (m_B_told g_66.2 P x1 g_66.1) = g_69 at hc
          refine vz_callV (As := [.int x1, .int g_66.1]) (rest := []) ⟨hx, hb, hml, hown, hT⟩ hc (vz_goodV kw_162 kw_164 ks_3 kw_1 kw_165) ⟨rfl, hd_B_told⟩ ⟨⟨rfl, rfl⟩, Nat.le_of_ble_eq_true rfl, Nat.le_of_ble_eq_true rfl⟩ hK hP hD hS [0, 1, 2, 3, 4, 5, 6, 7, 8, 9, 10, 11, 12, 13, 14, 15, 16, 17] rfl (hC_B_move_69 cI cZ cQ b0 b1 u0 u1 u2 u3 u4 u5 u6 u7 u8 p0 p1 h0 a1 a2 a3 a4 F g_66.2 P) (hF_B_told cI cZ cQ _ _ _ _ _ _) 0 3 rfl rfl rfl rfl hl.1 rfl (Nat.le_of_ble_eq_true rfl) ⟨Nat.zero_le _, Nat.zero_le _⟩ d_B_move_69 (fun H locs hP hD hS => ?_)
          have hP : va_P (dC, dI) classes (wB cI cZ cQ b0 b1 u0 F ++ wL cI cZ u0 u1 u2 u3 u4 u5 u6 u7 u8 g_66.2 ++ wP cI cZ p0 p1 h0 a1 a2 a3 a4 g_69.2) H := vz_reP (hU_B_move_69 cI cZ cQ b0 b1 u0 u1 u2 u3 u4 u5 u6 u7 u8 p0 p1 h0 a1 a2 a3 a4 F g_66.2 P g_69.2) hP
          have hD : va_D (vz_A (wB cI cZ cQ b0 b1 u0 F ++ wL cI cZ u0 u1 u2 u3 u4 u5 u6 u7 u8 L ++ wP cI cZ p0 p1 h0 a1 a2 a3 a4 P)) (wB cI cZ cQ b0 b1 u0 F ++ wL cI cZ u0 u1 u2 u3 u4 u5 u6 u7 u8 g_66.2 ++ wP cI cZ p0 p1 h0 a1 a2 a3 a4 g_69.2) := vz_reD (hU_B_move_69 cI cZ cQ b0 b1 u0 u1 u2 u3 u4 u5 u6 u7 u8 p0 p1 h0 a1 a2 a3 a4 F g_66.2 P g_69.2) hD
          refine W.eq (g2 := F0 m 72 ls [.int g_69.1]) rfl ?_
          rw [m_B_move] at hres
          try rw [hg_2] at hres
          rw [if_neg c_5] at hres
          try rw [hg_10] at hres
          rw [if_neg c_13] at hres
          try rw [hg_18] at hres
          rw [if_neg c_21, if_pos c_29] at hres
          try rw [hg_66] at hres
          try rw [hg_69] at hres
          subst hres
          subst hQ
          exact vz_iret hx hb hr hlocks d_B_move_72 hS rfl hP
        · have z_29 := mt Int32.toInt_inj.mp c_29
          refine lv_aload_n hx hb d_B_move_32 rfl (lv_at hl 0 rfl) ?_
          refine lv_iload hx hb d_B_move_33 (lv_at hl 4 rfl) ?_
          have hc := c_B_isObject l dC dI cI cZ cQ b0 b1 F u0 u1 u2 u3 u4 u5 u6 u7 u8 L x4 
          generalize hg_35 : (m_B_isObject L x4) = g_35 at hc
          refine vz_callV (As := [.int x4]) (rest := []) ⟨hx, hb, hml, hown, hT⟩ hc (vz_goodV kw_235 kw_237 ks_10 kw_1 kw_238) ⟨rfl, hd_B_isObject⟩ ⟨⟨rfl, rfl⟩, Nat.le_of_ble_eq_true rfl, Nat.le_of_ble_eq_true rfl⟩ hK hP hD hS [0, 1, 2, 3, 4, 5, 6, 7, 8, 9, 10] rfl (hC_B_move_35 cI cZ cQ b0 b1 u0 u1 u2 u3 u4 u5 u6 u7 u8 p0 p1 h0 a1 a2 a3 a4 F L P) (hF_B_isObject cI cZ cQ _ _ _ _) 0 3 rfl rfl rfl rfl hl.1 rfl (Nat.le_of_ble_eq_true rfl) ⟨Nat.zero_le _, Nat.zero_le _⟩ d_B_move_35 (fun H locs hP hD hS => ?_)
          have hP : va_P (dC, dI) classes (wB cI cZ cQ b0 b1 u0 F ++ wL cI cZ u0 u1 u2 u3 u4 u5 u6 u7 u8 L ++ wP cI cZ p0 p1 h0 a1 a2 a3 a4 P) H := vz_reP (hU_B_move_35 cI cZ cQ b0 b1 u0 u1 u2 u3 u4 u5 u6 u7 u8 p0 p1 h0 a1 a2 a3 a4 F L P ) hP
          have hD : va_D (vz_A (wB cI cZ cQ b0 b1 u0 F ++ wL cI cZ u0 u1 u2 u3 u4 u5 u6 u7 u8 L ++ wP cI cZ p0 p1 h0 a1 a2 a3 a4 P)) (wB cI cZ cQ b0 b1 u0 F ++ wL cI cZ u0 u1 u2 u3 u4 u5 u6 u7 u8 L ++ wP cI cZ p0 p1 h0 a1 a2 a3 a4 P) := vz_reD (hU_B_move_35 cI cZ cQ b0 b1 u0 u1 u2 u3 u4 u5 u6 u7 u8 p0 p1 h0 a1 a2 a3 a4 F L P ) hD
          refine W.eq (g2 := F0 m 38 ls [.int g_35]) rfl ?_
          refine lv_if_ne (tgt := 43) hx hb d_B_move_38 (by decide) (fun c_38 => ?_) (fun c_38 => ?_)
          · have z_38 := mt Int32.toInt_inj.mp c_38
            refine lv_aload_n hx hb d_B_move_43 rfl (lv_at hl 0 rfl) ?_
            refine lv_iload_n hx hb d_B_move_44 rfl (lv_at hl 1 rfl) ?_
            refine lv_aload_n hx hb d_B_move_45 rfl (lv_at hl 0 rfl) ?_
            refine va_get (D := (dC, dI)) (ci := 3) (v := .ref u0) (C := R_B) (T := F_B) (N := 2) hx hb hT i_B hown hK hP 0 rfl rfl 0 (by decide) (hT _ kw_132) (fun _ h9 => h9) rfl d_B_move_46 ?_
            refine lv_iconst (v := 1) hx hb d_B_move_49 (by decide) ?_
            refine lv_iload_n hx hb d_B_move_50 rfl (lv_at hl 1 rfl) ?_
            refine lv_aload_n hx hb d_B_move_51 rfl (lv_at hl 0 rfl) ?_
            refine va_get (D := (dC, dI)) (ci := 3) (v := .ref b1) (C := R_B) (T := F_B) (N := 2) hx hb hT i_B hown hK hP 0 rfl rfl 1 (by decide) (hT _ kw_133) (fun _ h9 => h9) rfl d_B_move_52 ?_
            refine lv_iload_n hx hb d_B_move_55 rfl (lv_at hl 1 rfl) ?_
            refine va_aldq hx hb hK hP 1 2 rfl rfl (by have hn := mw_t (L := L) (x1 := x1) (by rw [hg_2]; assumption); exact ti_vp (by omega) (by omega)) d_B_move_56 ?_
            rw [show va_rf (F x1.toNatClampNeg) = .ref p0 from by have hn := mw_t (L := L) (x1 := x1) (by rw [hg_2]; assumption); rw [hF hn.1.1 hn.1.2]; rfl]
            refine va_get (D := (dC, dI)) (ci := 2) (v := .int P.2.2.2.1) (C := R_P) (T := F_P) (N := 5) hx hb hT i_P hown hK hP 11 rfl rfl 3 (by decide) (hT _ kw_117) (fun _ h9 => h9) rfl d_B_move_57 ?_
            refine lv_iconst (v := 1) hx hb d_B_move_60 (by decide) ?_
            refine lv_iadd hx hb d_B_move_61 ?_
            refine lv_iload_n hx hb d_B_move_62 rfl (lv_at hl 2 rfl) ?_
            refine lv_iload_n hx hb d_B_move_63 rfl (lv_at hl 3 rfl) ?_
            refine lv_iload hx hb d_B_move_64 (lv_at hl 4 rfl) ?_
            have hc := c_L_add l dC dI cI cZ cQ u0 u1 u2 u3 u4 u5 u6 u7 u8 L 1 x1 (P.2.2.2.1 + 1) x2 x3 x4 (by have hn := mw_t (L := L) (x1 := x1) (by rw [hg_2]; assumption); have hl1 := hL.1; (try dsimp only); omega) (hL.2.1) (by intro h; first | exact absurd h (by decide) | (have := hz h; omega))
            generalize hg_66 : (m_L_add L 1 x1 (P.2.2.2.1 + 1) x2 x3 x4) = g_66 at hc
            refine vz_callV (As := [.int 1, .int x1, .int (P.2.2.2.1 + 1), .int x2, .int x3, .int x4]) (rest := [.int x1, .ref b0]) ⟨hx, hb, hml, hown, hT⟩ hc (vz_goodV kw_150 kw_151 kw_152 kw_2 kw_153) ⟨rfl, hd_L_add⟩ ⟨⟨rfl, rfl⟩, Nat.le_of_ble_eq_true rfl, Nat.le_of_ble_eq_true rfl⟩ hK hP hD hS [2, 3, 4, 5, 6, 7, 8, 9, 10] rfl (hC_B_move_66 cI cZ cQ b0 b1 u0 u1 u2 u3 u4 u5 u6 u7 u8 p0 p1 h0 a1 a2 a3 a4 F L P) (hF_L_add cI cZ cQ _ _) 0 1 rfl rfl rfl rfl hl.1 rfl (Nat.le_of_ble_eq_true rfl) ⟨Nat.zero_le _, Nat.zero_le _⟩ d_B_move_66 (fun H locs hP hD hS => ?_)
            have hP : va_P (dC, dI) classes (wB cI cZ cQ b0 b1 u0 F ++ wL cI cZ u0 u1 u2 u3 u4 u5 u6 u7 u8 g_66.2 ++ wP cI cZ p0 p1 h0 a1 a2 a3 a4 P) H := vz_reP (hU_B_move_66 cI cZ cQ b0 b1 u0 u1 u2 u3 u4 u5 u6 u7 u8 p0 p1 h0 a1 a2 a3 a4 F L P g_66.2) hP
            have hD : va_D (vz_A (wB cI cZ cQ b0 b1 u0 F ++ wL cI cZ u0 u1 u2 u3 u4 u5 u6 u7 u8 L ++ wP cI cZ p0 p1 h0 a1 a2 a3 a4 P)) (wB cI cZ cQ b0 b1 u0 F ++ wL cI cZ u0 u1 u2 u3 u4 u5 u6 u7 u8 g_66.2 ++ wP cI cZ p0 p1 h0 a1 a2 a3 a4 P) := vz_reD (hU_B_move_66 cI cZ cQ b0 b1 u0 u1 u2 u3 u4 u5 u6 u7 u8 p0 p1 h0 a1 a2 a3 a4 F L P g_66.2) hD
            refine W.eq (g2 := F0 m 69 ls [.int g_66.1, .int x1, .ref b0]) rfl ?_
            have hc := c_B_told l dC dI cI cZ cQ b0 b1 F u0 u1 u2 u3 u4 u5 u6 u7 u8 g_66.2 p0 p1 h0 a1 a2 a3 a4 P x1 g_66.1 (by have hn := mw_t (L := L) (x1 := x1) (by rw [hg_2]; assumption); exact hF hn.1.1 hn.1.2) (by have hn := mw_t (L := L) (x1 := x1) (by rw [hg_2]; assumption); exact hn.1) (by have hn := mw_t (L := L) (x1 := x1) (by rw [hg_2]; assumption); rw [← hg_66]; exact hA hn.1 hn.2 (by have hm := ism_t (L := L) (x1 := x2) (by rw [hg_10]; assumption); exact hm) (by have ho := iso_t (L := L) (x1 := x3) (by rw [hg_18]; assumption); exact ho) (by first | exact Or.inl c_29 | exact Or.inr (iso_t (by rw [hg_35]; assumption))))
            generalize hg_69 : (m_B_told g_66.2 P x1 g_66.1) = g_69 at hc
            refine vz_callV (As := [.int x1, .int g_66.1]) (rest := []) ⟨hx, hb, hml, hown, hT⟩ hc (vz_goodV kw_162 kw_164 ks_3 kw_1 kw_165) ⟨rfl, hd_B_told⟩ ⟨⟨rfl, rfl⟩, Nat.le_of_ble_eq_true rfl, Nat.le_of_ble_eq_true rfl⟩ hK hP hD hS [0, 1, 2, 3, 4, 5, 6, 7, 8, 9, 10, 11, 12, 13, 14, 15, 16, 17] rfl (hC_B_move_69 cI cZ cQ b0 b1 u0 u1 u2 u3 u4 u5 u6 u7 u8 p0 p1 h0 a1 a2 a3 a4 F g_66.2 P) (hF_B_told cI cZ cQ _ _ _ _ _ _) 0 3 rfl rfl rfl rfl hl.1 rfl (Nat.le_of_ble_eq_true rfl) ⟨Nat.zero_le _, Nat.zero_le _⟩ d_B_move_69 (fun H locs hP hD hS => ?_)
            have hP : va_P (dC, dI) classes (wB cI cZ cQ b0 b1 u0 F ++ wL cI cZ u0 u1 u2 u3 u4 u5 u6 u7 u8 g_66.2 ++ wP cI cZ p0 p1 h0 a1 a2 a3 a4 g_69.2) H := vz_reP (hU_B_move_69 cI cZ cQ b0 b1 u0 u1 u2 u3 u4 u5 u6 u7 u8 p0 p1 h0 a1 a2 a3 a4 F g_66.2 P g_69.2) hP
            have hD : va_D (vz_A (wB cI cZ cQ b0 b1 u0 F ++ wL cI cZ u0 u1 u2 u3 u4 u5 u6 u7 u8 L ++ wP cI cZ p0 p1 h0 a1 a2 a3 a4 P)) (wB cI cZ cQ b0 b1 u0 F ++ wL cI cZ u0 u1 u2 u3 u4 u5 u6 u7 u8 g_66.2 ++ wP cI cZ p0 p1 h0 a1 a2 a3 a4 g_69.2) := vz_reD (hU_B_move_69 cI cZ cQ b0 b1 u0 u1 u2 u3 u4 u5 u6 u7 u8 p0 p1 h0 a1 a2 a3 a4 F g_66.2 P g_69.2) hD
            refine W.eq (g2 := F0 m 72 ls [.int g_69.1]) rfl ?_
            rw [m_B_move] at hres
            try rw [hg_2] at hres
            rw [if_neg c_5] at hres
            try rw [hg_10] at hres
            rw [if_neg c_13] at hres
            try rw [hg_18] at hres
            rw [if_neg c_21, if_neg c_29] at hres
            try rw [hg_35] at hres
            rw [if_neg c_38] at hres
            try rw [hg_66] at hres
            try rw [hg_69] at hres
            subst hres
            subst hQ
            exact vz_iret hx hb hr hlocks d_B_move_72 hS rfl hP
          · have z_38 := congrArg Int32.toInt c_38
            refine lv_iconst (v := -1) hx hb d_B_move_41 (by decide) ?_
            rw [m_B_move] at hres
            try rw [hg_2] at hres
            rw [if_neg c_5] at hres
            try rw [hg_10] at hres
            rw [if_neg c_13] at hres
            try rw [hg_18] at hres
            rw [if_neg c_21, if_neg c_29] at hres
            try rw [hg_35] at hres
            rw [if_pos c_38] at hres
            subst hres
            subst hQ
            exact vz_iret hx hb hr hlocks d_B_move_42 hS rfl hP
      · have z_21 := congrArg Int32.toInt c_21
        refine lv_iconst (v := -1) hx hb d_B_move_24 (by decide) ?_
        rw [m_B_move] at hres
        try rw [hg_2] at hres
        rw [if_neg c_5] at hres
        try rw [hg_10] at hres
        rw [if_neg c_13] at hres
        try rw [hg_18] at hres
        rw [if_pos c_21] at hres
        subst hres
        subst hQ
        exact vz_iret hx hb hr hlocks d_B_move_25 hS rfl hP
end
section
theorem d_B_remove_0 : decode b_B_remove 0 = .ok (.aload_n 0, 1) := by decide +kernel
theorem d_B_remove_1 : decode b_B_remove 1 = .ok (.iload_n 1, 1) := by decide +kernel
theorem d_B_remove_2 : decode b_B_remove 2 = .ok (.invokevirtual 23, 3) := by decide +kernel
theorem d_B_remove_5 : decode b_B_remove 5 = .ok (.ifCond .eq 11, 3) := by decide +kernel
theorem d_B_remove_8 : decode b_B_remove 8 = .ok (.aload_n 0, 1) := by decide +kernel
theorem d_B_remove_9 : decode b_B_remove 9 = .ok (.iload_n 2, 1) := by decide +kernel
theorem d_B_remove_10 : decode b_B_remove 10 = .ok (.invokevirtual 42, 3) := by decide +kernel
theorem d_B_remove_13 : decode b_B_remove 13 = .ok (.ifCond .ne 5, 3) := by decide +kernel
theorem d_B_remove_16 : decode b_B_remove 16 = .ok (.iconst (-1), 1) := by decide +kernel
theorem d_B_remove_17 : decode b_B_remove 17 = .ok (.ireturn, 1) := by decide +kernel
theorem d_B_remove_18 : decode b_B_remove 18 = .ok (.iload_n 3, 1) := by decide +kernel
theorem d_B_remove_19 : decode b_B_remove 19 = .ok (.ifCond .eq 7, 3) := by decide +kernel
theorem d_B_remove_22 : decode b_B_remove 22 = .ok (.iconst 3, 1) := by decide +kernel
theorem d_B_remove_23 : decode b_B_remove 23 = .ok (.goto 4, 3) := by decide +kernel
theorem d_B_remove_26 : decode b_B_remove 26 = .ok (.iconst 2, 1) := by decide +kernel
theorem d_B_remove_27 : decode b_B_remove 27 = .ok (.istore 4, 2) := by decide +kernel
theorem d_B_remove_29 : decode b_B_remove 29 = .ok (.aload_n 0, 1) := by decide +kernel
theorem d_B_remove_30 : decode b_B_remove 30 = .ok (.iload_n 1, 1) := by decide +kernel
theorem d_B_remove_31 : decode b_B_remove 31 = .ok (.aload_n 0, 1) := by decide +kernel
theorem d_B_remove_32 : decode b_B_remove 32 = .ok (.getfield 10, 3) := by decide +kernel
theorem d_B_remove_35 : decode b_B_remove 35 = .ok (.iload 4, 2) := by decide +kernel
theorem d_B_remove_37 : decode b_B_remove 37 = .ok (.iload_n 1, 1) := by decide +kernel
theorem d_B_remove_38 : decode b_B_remove 38 = .ok (.aload_n 0, 1) := by decide +kernel
theorem d_B_remove_39 : decode b_B_remove 39 = .ok (.getfield 18, 3) := by decide +kernel
theorem d_B_remove_42 : decode b_B_remove 42 = .ok (.iload_n 1, 1) := by decide +kernel
theorem d_B_remove_43 : decode b_B_remove 43 = .ok (.aaload, 1) := by decide +kernel
theorem d_B_remove_44 : decode b_B_remove 44 = .ok (.getfield 31, 3) := by decide +kernel
theorem d_B_remove_47 : decode b_B_remove 47 = .ok (.iconst 1, 1) := by decide +kernel
theorem d_B_remove_48 : decode b_B_remove 48 = .ok (.iadd, 1) := by decide +kernel
theorem d_B_remove_49 : decode b_B_remove 49 = .ok (.iload_n 2, 1) := by decide +kernel
theorem d_B_remove_50 : decode b_B_remove 50 = .ok (.iconst (-1), 1) := by decide +kernel
theorem d_B_remove_51 : decode b_B_remove 51 = .ok (.iconst (-1), 1) := by decide +kernel
theorem d_B_remove_52 : decode b_B_remove 52 = .ok (.invokevirtual 34, 3) := by decide +kernel
theorem d_B_remove_55 : decode b_B_remove 55 = .ok (.invokevirtual 38, 3) := by decide +kernel
theorem d_B_remove_58 : decode b_B_remove 58 = .ok (.ireturn, 1) := by decide +kernel
theorem hC_B_remove_2 (cI cZ cQ : ClassId) (q0 q1 q2 q3 q4 q5 q6 q7 q8 q9 q10 q11 q12 q13 q14 q15 q16 q17 : Nat) (S0 : (Nat → Option Nat)) (S1 : cL) (S2 : cP) : ([0, 1, 2, 3, 4, 5, 6, 7, 8, 9, 10] : List Nat).map (fun i => (wB cI cZ cQ q0 q1 q2 S0 ++ wL cI cZ q2 q3 q4 q5 q6 q7 q8 q9 q10 S1 ++ wP cI cZ q11 q12 q13 q14 q15 q16 q17 S2 : va_W)[i]?) = (wB cI cZ cQ q0 q1 q2 S0 ++ wL cI cZ q2 q3 q4 q5 q6 q7 q8 q9 q10 S1 : va_W).map some := rfl
theorem hU_B_remove_2 (cI cZ cQ : ClassId) (q0 q1 q2 q3 q4 q5 q6 q7 q8 q9 q10 q11 q12 q13 q14 q15 q16 q17 : Nat) (S0 : (Nat → Option Nat)) (S1 : cL) (S2 : cP)  : vz_put (wB cI cZ cQ q0 q1 q2 S0 ++ wL cI cZ q2 q3 q4 q5 q6 q7 q8 q9 q10 S1 ++ wP cI cZ q11 q12 q13 q14 q15 q16 q17 S2 : va_W) [0, 1, 2, 3, 4, 5, 6, 7, 8, 9, 10] (wB cI cZ cQ q0 q1 q2 S0 ++ wL cI cZ q2 q3 q4 q5 q6 q7 q8 q9 q10 S1 : va_W) = wB cI cZ cQ q0 q1 q2 S0 ++ wL cI cZ q2 q3 q4 q5 q6 q7 q8 q9 q10 S1 ++ wP cI cZ q11 q12 q13 q14 q15 q16 q17 S2 := (show vz_put ([(q0, .inr (3, [.ref q2, .ref q1])), (q1, .inl (cQ, 4, .inr (.inr (.inr (.inr S0))))), (q2, .inr (1, [.ref q3, .ref q4, .ref q5, .ref q6, .ref q7, .ref q8, .ref q9, .ref q10, .int S1.2.2.2.2.2.2.2.2.1, .int S1.2.2.2.2.2.2.2.2.2])), (q3, .inl (cI, 301, .inl S1.1)), (q4, .inl (cI, 301, .inl S1.2.1)), (q5, .inl (cI, 301, .inl S1.2.2.1)), (q6, .inl (cI, 301, .inl S1.2.2.2.1)), (q7, .inl (cI, 301, .inl S1.2.2.2.2.1)), (q8, .inl (cI, 301, .inl S1.2.2.2.2.2.1)), (q9, .inl (cI, 301, .inl S1.2.2.2.2.2.2.1)), (q10, .inl (cI, 300, .inl S1.2.2.2.2.2.2.2.1)), (q11, .inr (2, [.ref q12, .ref q13, .int S2.2.2.1, .int S2.2.2.2.1, .int S2.2.2.2.2])), (q12, .inl (cI, 301, .inl S2.1)), (q13, .inr (0, [.ref q14, .ref q15, .ref q16, .ref q17, .int S2.2.1.2.2.2.2])), (q14, .inl (cZ, 40, .inl S2.2.1.1)), (q15, .inl (cI, 40, .inl S2.2.1.2.1)), (q16, .inl (cI, 40, .inl S2.2.1.2.2.1)), (q17, .inl (cI, 40, .inl S2.2.1.2.2.2.1))] : va_W) [0, 1, 2, 3, 4, 5, 6, 7, 8, 9, 10] ([(q0, .inr (3, [.ref q2, .ref q1])), (q1, .inl (cQ, 4, .inr (.inr (.inr (.inr S0))))), (q2, .inr (1, [.ref q3, .ref q4, .ref q5, .ref q6, .ref q7, .ref q8, .ref q9, .ref q10, .int S1.2.2.2.2.2.2.2.2.1, .int S1.2.2.2.2.2.2.2.2.2])), (q3, .inl (cI, 301, .inl S1.1)), (q4, .inl (cI, 301, .inl S1.2.1)), (q5, .inl (cI, 301, .inl S1.2.2.1)), (q6, .inl (cI, 301, .inl S1.2.2.2.1)), (q7, .inl (cI, 301, .inl S1.2.2.2.2.1)), (q8, .inl (cI, 301, .inl S1.2.2.2.2.2.1)), (q9, .inl (cI, 301, .inl S1.2.2.2.2.2.2.1)), (q10, .inl (cI, 300, .inl S1.2.2.2.2.2.2.2.1))] : va_W) = [(q0, .inr (3, [.ref q2, .ref q1])), (q1, .inl (cQ, 4, .inr (.inr (.inr (.inr S0))))), (q2, .inr (1, [.ref q3, .ref q4, .ref q5, .ref q6, .ref q7, .ref q8, .ref q9, .ref q10, .int S1.2.2.2.2.2.2.2.2.1, .int S1.2.2.2.2.2.2.2.2.2])), (q3, .inl (cI, 301, .inl S1.1)), (q4, .inl (cI, 301, .inl S1.2.1)), (q5, .inl (cI, 301, .inl S1.2.2.1)), (q6, .inl (cI, 301, .inl S1.2.2.2.1)), (q7, .inl (cI, 301, .inl S1.2.2.2.2.1)), (q8, .inl (cI, 301, .inl S1.2.2.2.2.2.1)), (q9, .inl (cI, 301, .inl S1.2.2.2.2.2.2.1)), (q10, .inl (cI, 300, .inl S1.2.2.2.2.2.2.2.1)), (q11, .inr (2, [.ref q12, .ref q13, .int S2.2.2.1, .int S2.2.2.2.1, .int S2.2.2.2.2])), (q12, .inl (cI, 301, .inl S2.1)), (q13, .inr (0, [.ref q14, .ref q15, .ref q16, .ref q17, .int S2.2.1.2.2.2.2])), (q14, .inl (cZ, 40, .inl S2.2.1.1)), (q15, .inl (cI, 40, .inl S2.2.1.2.1)), (q16, .inl (cI, 40, .inl S2.2.1.2.2.1)), (q17, .inl (cI, 40, .inl S2.2.1.2.2.2.1))] from rfl).trans rfl
theorem hC_B_remove_10 (cI cZ cQ : ClassId) (q0 q1 q2 q3 q4 q5 q6 q7 q8 q9 q10 q11 q12 q13 q14 q15 q16 q17 : Nat) (S0 : (Nat → Option Nat)) (S1 : cL) (S2 : cP) : ([0, 1, 2, 3, 4, 5, 6, 7, 8, 9, 10] : List Nat).map (fun i => (wB cI cZ cQ q0 q1 q2 S0 ++ wL cI cZ q2 q3 q4 q5 q6 q7 q8 q9 q10 S1 ++ wP cI cZ q11 q12 q13 q14 q15 q16 q17 S2 : va_W)[i]?) = (wB cI cZ cQ q0 q1 q2 S0 ++ wL cI cZ q2 q3 q4 q5 q6 q7 q8 q9 q10 S1 : va_W).map some := rfl
theorem hU_B_remove_10 (cI cZ cQ : ClassId) (q0 q1 q2 q3 q4 q5 q6 q7 q8 q9 q10 q11 q12 q13 q14 q15 q16 q17 : Nat) (S0 : (Nat → Option Nat)) (S1 : cL) (S2 : cP)  : vz_put (wB cI cZ cQ q0 q1 q2 S0 ++ wL cI cZ q2 q3 q4 q5 q6 q7 q8 q9 q10 S1 ++ wP cI cZ q11 q12 q13 q14 q15 q16 q17 S2 : va_W) [0, 1, 2, 3, 4, 5, 6, 7, 8, 9, 10] (wB cI cZ cQ q0 q1 q2 S0 ++ wL cI cZ q2 q3 q4 q5 q6 q7 q8 q9 q10 S1 : va_W) = wB cI cZ cQ q0 q1 q2 S0 ++ wL cI cZ q2 q3 q4 q5 q6 q7 q8 q9 q10 S1 ++ wP cI cZ q11 q12 q13 q14 q15 q16 q17 S2 := (show vz_put ([(q0, .inr (3, [.ref q2, .ref q1])), (q1, .inl (cQ, 4, .inr (.inr (.inr (.inr S0))))), (q2, .inr (1, [.ref q3, .ref q4, .ref q5, .ref q6, .ref q7, .ref q8, .ref q9, .ref q10, .int S1.2.2.2.2.2.2.2.2.1, .int S1.2.2.2.2.2.2.2.2.2])), (q3, .inl (cI, 301, .inl S1.1)), (q4, .inl (cI, 301, .inl S1.2.1)), (q5, .inl (cI, 301, .inl S1.2.2.1)), (q6, .inl (cI, 301, .inl S1.2.2.2.1)), (q7, .inl (cI, 301, .inl S1.2.2.2.2.1)), (q8, .inl (cI, 301, .inl S1.2.2.2.2.2.1)), (q9, .inl (cI, 301, .inl S1.2.2.2.2.2.2.1)), (q10, .inl (cI, 300, .inl S1.2.2.2.2.2.2.2.1)), (q11, .inr (2, [.ref q12, .ref q13, .int S2.2.2.1, .int S2.2.2.2.1, .int S2.2.2.2.2])), (q12, .inl (cI, 301, .inl S2.1)), (q13, .inr (0, [.ref q14, .ref q15, .ref q16, .ref q17, .int S2.2.1.2.2.2.2])), (q14, .inl (cZ, 40, .inl S2.2.1.1)), (q15, .inl (cI, 40, .inl S2.2.1.2.1)), (q16, .inl (cI, 40, .inl S2.2.1.2.2.1)), (q17, .inl (cI, 40, .inl S2.2.1.2.2.2.1))] : va_W) [0, 1, 2, 3, 4, 5, 6, 7, 8, 9, 10] ([(q0, .inr (3, [.ref q2, .ref q1])), (q1, .inl (cQ, 4, .inr (.inr (.inr (.inr S0))))), (q2, .inr (1, [.ref q3, .ref q4, .ref q5, .ref q6, .ref q7, .ref q8, .ref q9, .ref q10, .int S1.2.2.2.2.2.2.2.2.1, .int S1.2.2.2.2.2.2.2.2.2])), (q3, .inl (cI, 301, .inl S1.1)), (q4, .inl (cI, 301, .inl S1.2.1)), (q5, .inl (cI, 301, .inl S1.2.2.1)), (q6, .inl (cI, 301, .inl S1.2.2.2.1)), (q7, .inl (cI, 301, .inl S1.2.2.2.2.1)), (q8, .inl (cI, 301, .inl S1.2.2.2.2.2.1)), (q9, .inl (cI, 301, .inl S1.2.2.2.2.2.2.1)), (q10, .inl (cI, 300, .inl S1.2.2.2.2.2.2.2.1))] : va_W) = [(q0, .inr (3, [.ref q2, .ref q1])), (q1, .inl (cQ, 4, .inr (.inr (.inr (.inr S0))))), (q2, .inr (1, [.ref q3, .ref q4, .ref q5, .ref q6, .ref q7, .ref q8, .ref q9, .ref q10, .int S1.2.2.2.2.2.2.2.2.1, .int S1.2.2.2.2.2.2.2.2.2])), (q3, .inl (cI, 301, .inl S1.1)), (q4, .inl (cI, 301, .inl S1.2.1)), (q5, .inl (cI, 301, .inl S1.2.2.1)), (q6, .inl (cI, 301, .inl S1.2.2.2.1)), (q7, .inl (cI, 301, .inl S1.2.2.2.2.1)), (q8, .inl (cI, 301, .inl S1.2.2.2.2.2.1)), (q9, .inl (cI, 301, .inl S1.2.2.2.2.2.2.1)), (q10, .inl (cI, 300, .inl S1.2.2.2.2.2.2.2.1)), (q11, .inr (2, [.ref q12, .ref q13, .int S2.2.2.1, .int S2.2.2.2.1, .int S2.2.2.2.2])), (q12, .inl (cI, 301, .inl S2.1)), (q13, .inr (0, [.ref q14, .ref q15, .ref q16, .ref q17, .int S2.2.1.2.2.2.2])), (q14, .inl (cZ, 40, .inl S2.2.1.1)), (q15, .inl (cI, 40, .inl S2.2.1.2.1)), (q16, .inl (cI, 40, .inl S2.2.1.2.2.1)), (q17, .inl (cI, 40, .inl S2.2.1.2.2.2.1))] from rfl).trans rfl
theorem hC_B_remove_52 (cI cZ cQ : ClassId) (q0 q1 q2 q3 q4 q5 q6 q7 q8 q9 q10 q11 q12 q13 q14 q15 q16 q17 : Nat) (S0 : (Nat → Option Nat)) (S1 : cL) (S2 : cP) : ([2, 3, 4, 5, 6, 7, 8, 9, 10] : List Nat).map (fun i => (wB cI cZ cQ q0 q1 q2 S0 ++ wL cI cZ q2 q3 q4 q5 q6 q7 q8 q9 q10 S1 ++ wP cI cZ q11 q12 q13 q14 q15 q16 q17 S2 : va_W)[i]?) = (wL cI cZ q2 q3 q4 q5 q6 q7 q8 q9 q10 S1 : va_W).map some := rfl
theorem hU_B_remove_52 (cI cZ cQ : ClassId) (q0 q1 q2 q3 q4 q5 q6 q7 q8 q9 q10 q11 q12 q13 q14 q15 q16 q17 : Nat) (S0 : (Nat → Option Nat)) (S1 : cL) (S2 : cP) (R0 : cL) : vz_put (wB cI cZ cQ q0 q1 q2 S0 ++ wL cI cZ q2 q3 q4 q5 q6 q7 q8 q9 q10 S1 ++ wP cI cZ q11 q12 q13 q14 q15 q16 q17 S2 : va_W) [2, 3, 4, 5, 6, 7, 8, 9, 10] (wL cI cZ q2 q3 q4 q5 q6 q7 q8 q9 q10 R0 : va_W) = wB cI cZ cQ q0 q1 q2 S0 ++ wL cI cZ q2 q3 q4 q5 q6 q7 q8 q9 q10 R0 ++ wP cI cZ q11 q12 q13 q14 q15 q16 q17 S2 := (show vz_put ([(q0, .inr (3, [.ref q2, .ref q1])), (q1, .inl (cQ, 4, .inr (.inr (.inr (.inr S0))))), (q2, .inr (1, [.ref q3, .ref q4, .ref q5, .ref q6, .ref q7, .ref q8, .ref q9, .ref q10, .int S1.2.2.2.2.2.2.2.2.1, .int S1.2.2.2.2.2.2.2.2.2])), (q3, .inl (cI, 301, .inl S1.1)), (q4, .inl (cI, 301, .inl S1.2.1)), (q5, .inl (cI, 301, .inl S1.2.2.1)), (q6, .inl (cI, 301, .inl S1.2.2.2.1)), (q7, .inl (cI, 301, .inl S1.2.2.2.2.1)), (q8, .inl (cI, 301, .inl S1.2.2.2.2.2.1)), (q9, .inl (cI, 301, .inl S1.2.2.2.2.2.2.1)), (q10, .inl (cI, 300, .inl S1.2.2.2.2.2.2.2.1)), (q11, .inr (2, [.ref q12, .ref q13, .int S2.2.2.1, .int S2.2.2.2.1, .int S2.2.2.2.2])), (q12, .inl (cI, 301, .inl S2.1)), (q13, .inr (0, [.ref q14, .ref q15, .ref q16, .ref q17, .int S2.2.1.2.2.2.2])), (q14, .inl (cZ, 40, .inl S2.2.1.1)), (q15, .inl (cI, 40, .inl S2.2.1.2.1)), (q16, .inl (cI, 40, .inl S2.2.1.2.2.1)), (q17, .inl (cI, 40, .inl S2.2.1.2.2.2.1))] : va_W) [2, 3, 4, 5, 6, 7, 8, 9, 10] ([(q2, .inr (1, [.ref q3, .ref q4, .ref q5, .ref q6, .ref q7, .ref q8, .ref q9, .ref q10, .int R0.2.2.2.2.2.2.2.2.1, .int R0.2.2.2.2.2.2.2.2.2])), (q3, .inl (cI, 301, .inl R0.1)), (q4, .inl (cI, 301, .inl R0.2.1)), (q5, .inl (cI, 301, .inl R0.2.2.1)), (q6, .inl (cI, 301, .inl R0.2.2.2.1)), (q7, .inl (cI, 301, .inl R0.2.2.2.2.1)), (q8, .inl (cI, 301, .inl R0.2.2.2.2.2.1)), (q9, .inl (cI, 301, .inl R0.2.2.2.2.2.2.1)), (q10, .inl (cI, 300, .inl R0.2.2.2.2.2.2.2.1))] : va_W) = [(q0, .inr (3, [.ref q2, .ref q1])), (q1, .inl (cQ, 4, .inr (.inr (.inr (.inr S0))))), (q2, .inr (1, [.ref q3, .ref q4, .ref q5, .ref q6, .ref q7, .ref q8, .ref q9, .ref q10, .int R0.2.2.2.2.2.2.2.2.1, .int R0.2.2.2.2.2.2.2.2.2])), (q3, .inl (cI, 301, .inl R0.1)), (q4, .inl (cI, 301, .inl R0.2.1)), (q5, .inl (cI, 301, .inl R0.2.2.1)), (q6, .inl (cI, 301, .inl R0.2.2.2.1)), (q7, .inl (cI, 301, .inl R0.2.2.2.2.1)), (q8, .inl (cI, 301, .inl R0.2.2.2.2.2.1)), (q9, .inl (cI, 301, .inl R0.2.2.2.2.2.2.1)), (q10, .inl (cI, 300, .inl R0.2.2.2.2.2.2.2.1)), (q11, .inr (2, [.ref q12, .ref q13, .int S2.2.2.1, .int S2.2.2.2.1, .int S2.2.2.2.2])), (q12, .inl (cI, 301, .inl S2.1)), (q13, .inr (0, [.ref q14, .ref q15, .ref q16, .ref q17, .int S2.2.1.2.2.2.2])), (q14, .inl (cZ, 40, .inl S2.2.1.1)), (q15, .inl (cI, 40, .inl S2.2.1.2.1)), (q16, .inl (cI, 40, .inl S2.2.1.2.2.1)), (q17, .inl (cI, 40, .inl S2.2.1.2.2.2.1))] from rfl).trans rfl
theorem hC_B_remove_55 (cI cZ cQ : ClassId) (q0 q1 q2 q3 q4 q5 q6 q7 q8 q9 q10 q11 q12 q13 q14 q15 q16 q17 : Nat) (S0 : (Nat → Option Nat)) (S1 : cL) (S2 : cP) : ([0, 1, 2, 3, 4, 5, 6, 7, 8, 9, 10, 11, 12, 13, 14, 15, 16, 17] : List Nat).map (fun i => (wB cI cZ cQ q0 q1 q2 S0 ++ wL cI cZ q2 q3 q4 q5 q6 q7 q8 q9 q10 S1 ++ wP cI cZ q11 q12 q13 q14 q15 q16 q17 S2 : va_W)[i]?) = (wB cI cZ cQ q0 q1 q2 S0 ++ wL cI cZ q2 q3 q4 q5 q6 q7 q8 q9 q10 S1 ++ wP cI cZ q11 q12 q13 q14 q15 q16 q17 S2 : va_W).map some := rfl
theorem hU_B_remove_55 (cI cZ cQ : ClassId) (q0 q1 q2 q3 q4 q5 q6 q7 q8 q9 q10 q11 q12 q13 q14 q15 q16 q17 : Nat) (S0 : (Nat → Option Nat)) (S1 : cL) (S2 : cP) (R2 : cP) : vz_put (wB cI cZ cQ q0 q1 q2 S0 ++ wL cI cZ q2 q3 q4 q5 q6 q7 q8 q9 q10 S1 ++ wP cI cZ q11 q12 q13 q14 q15 q16 q17 S2 : va_W) [0, 1, 2, 3, 4, 5, 6, 7, 8, 9, 10, 11, 12, 13, 14, 15, 16, 17] (wB cI cZ cQ q0 q1 q2 S0 ++ wL cI cZ q2 q3 q4 q5 q6 q7 q8 q9 q10 S1 ++ wP cI cZ q11 q12 q13 q14 q15 q16 q17 R2 : va_W) = wB cI cZ cQ q0 q1 q2 S0 ++ wL cI cZ q2 q3 q4 q5 q6 q7 q8 q9 q10 S1 ++ wP cI cZ q11 q12 q13 q14 q15 q16 q17 R2 := (show vz_put ([(q0, .inr (3, [.ref q2, .ref q1])), (q1, .inl (cQ, 4, .inr (.inr (.inr (.inr S0))))), (q2, .inr (1, [.ref q3, .ref q4, .ref q5, .ref q6, .ref q7, .ref q8, .ref q9, .ref q10, .int S1.2.2.2.2.2.2.2.2.1, .int S1.2.2.2.2.2.2.2.2.2])), (q3, .inl (cI, 301, .inl S1.1)), (q4, .inl (cI, 301, .inl S1.2.1)), (q5, .inl (cI, 301, .inl S1.2.2.1)), (q6, .inl (cI, 301, .inl S1.2.2.2.1)), (q7, .inl (cI, 301, .inl S1.2.2.2.2.1)), (q8, .inl (cI, 301, .inl S1.2.2.2.2.2.1)), (q9, .inl (cI, 301, .inl S1.2.2.2.2.2.2.1)), (q10, .inl (cI, 300, .inl S1.2.2.2.2.2.2.2.1)), (q11, .inr (2, [.ref q12, .ref q13, .int S2.2.2.1, .int S2.2.2.2.1, .int S2.2.2.2.2])), (q12, .inl (cI, 301, .inl S2.1)), (q13, .inr (0, [.ref q14, .ref q15, .ref q16, .ref q17, .int S2.2.1.2.2.2.2])), (q14, .inl (cZ, 40, .inl S2.2.1.1)), (q15, .inl (cI, 40, .inl S2.2.1.2.1)), (q16, .inl (cI, 40, .inl S2.2.1.2.2.1)), (q17, .inl (cI, 40, .inl S2.2.1.2.2.2.1))] : va_W) [0, 1, 2, 3, 4, 5, 6, 7, 8, 9, 10, 11, 12, 13, 14, 15, 16, 17] ([(q0, .inr (3, [.ref q2, .ref q1])), (q1, .inl (cQ, 4, .inr (.inr (.inr (.inr S0))))), (q2, .inr (1, [.ref q3, .ref q4, .ref q5, .ref q6, .ref q7, .ref q8, .ref q9, .ref q10, .int S1.2.2.2.2.2.2.2.2.1, .int S1.2.2.2.2.2.2.2.2.2])), (q3, .inl (cI, 301, .inl S1.1)), (q4, .inl (cI, 301, .inl S1.2.1)), (q5, .inl (cI, 301, .inl S1.2.2.1)), (q6, .inl (cI, 301, .inl S1.2.2.2.1)), (q7, .inl (cI, 301, .inl S1.2.2.2.2.1)), (q8, .inl (cI, 301, .inl S1.2.2.2.2.2.1)), (q9, .inl (cI, 301, .inl S1.2.2.2.2.2.2.1)), (q10, .inl (cI, 300, .inl S1.2.2.2.2.2.2.2.1)), (q11, .inr (2, [.ref q12, .ref q13, .int R2.2.2.1, .int R2.2.2.2.1, .int R2.2.2.2.2])), (q12, .inl (cI, 301, .inl R2.1)), (q13, .inr (0, [.ref q14, .ref q15, .ref q16, .ref q17, .int R2.2.1.2.2.2.2])), (q14, .inl (cZ, 40, .inl R2.2.1.1)), (q15, .inl (cI, 40, .inl R2.2.1.2.1)), (q16, .inl (cI, 40, .inl R2.2.1.2.2.1)), (q17, .inl (cI, 40, .inl R2.2.1.2.2.2.1))] : va_W) = [(q0, .inr (3, [.ref q2, .ref q1])), (q1, .inl (cQ, 4, .inr (.inr (.inr (.inr S0))))), (q2, .inr (1, [.ref q3, .ref q4, .ref q5, .ref q6, .ref q7, .ref q8, .ref q9, .ref q10, .int S1.2.2.2.2.2.2.2.2.1, .int S1.2.2.2.2.2.2.2.2.2])), (q3, .inl (cI, 301, .inl S1.1)), (q4, .inl (cI, 301, .inl S1.2.1)), (q5, .inl (cI, 301, .inl S1.2.2.1)), (q6, .inl (cI, 301, .inl S1.2.2.2.1)), (q7, .inl (cI, 301, .inl S1.2.2.2.2.1)), (q8, .inl (cI, 301, .inl S1.2.2.2.2.2.1)), (q9, .inl (cI, 301, .inl S1.2.2.2.2.2.2.1)), (q10, .inl (cI, 300, .inl S1.2.2.2.2.2.2.2.1)), (q11, .inr (2, [.ref q12, .ref q13, .int R2.2.2.1, .int R2.2.2.2.1, .int R2.2.2.2.2])), (q12, .inl (cI, 301, .inl R2.1)), (q13, .inr (0, [.ref q14, .ref q15, .ref q16, .ref q17, .int R2.2.1.2.2.2.2])), (q14, .inl (cZ, 40, .inl R2.2.1.1)), (q15, .inl (cI, 40, .inl R2.2.1.2.1)), (q16, .inl (cI, 40, .inl R2.2.1.2.2.1)), (q17, .inl (cI, 40, .inl R2.2.1.2.2.2.1))] from rfl).trans rfl
def m_B_remove (L : cL) (P : cP) (x1 : Int32) (x2 : Int32) (x3 : Int32) : Int32 × cL × cP := (if (m_B_mayWrite L x1) = 0 then (-1, L, P) else (if (m_B_isMade L x2) = 0 then (-1, L, P) else (if x3 = 0 then ((m_B_told (m_L_add L 2 x1 (P.2.2.2.1 + 1) x2 (-1) (-1)).2 P x1 (m_L_add L 2 x1 (P.2.2.2.1 + 1) x2 (-1) (-1)).1).1, (m_L_add L 2 x1 (P.2.2.2.1 + 1) x2 (-1) (-1)).2, (m_B_told (m_L_add L 2 x1 (P.2.2.2.1 + 1) x2 (-1) (-1)).2 P x1 (m_L_add L 2 x1 (P.2.2.2.1 + 1) x2 (-1) (-1)).1).2) else ((m_B_told (m_L_add L 3 x1 (P.2.2.2.1 + 1) x2 (-1) (-1)).2 P x1 (m_L_add L 3 x1 (P.2.2.2.1 + 1) x2 (-1) (-1)).1).1, (m_L_add L 3 x1 (P.2.2.2.1 + 1) x2 (-1) (-1)).2, (m_B_told (m_L_add L 3 x1 (P.2.2.2.1 + 1) x2 (-1) (-1)).2 P x1 (m_L_add L 3 x1 (P.2.2.2.1 + 1) x2 (-1) (-1)).1).2))))
set_option maxHeartbeats 1000000 in
set_option maxRecDepth 100000 in
theorem c_B_remove (l : Launch) (dC : Nat → ClassId) (dI : Nat → Nat → Nat) (cI cZ cQ : ClassId) (b0 : Nat) (b1 : Nat) (F : Nat → Option Nat) (u0 : Nat) (u1 : Nat) (u2 : Nat) (u3 : Nat) (u4 : Nat) (u5 : Nat) (u6 : Nat) (u7 : Nat) (u8 : Nat) (L : cL) (p0 : Nat) (p1 : Nat) (h0 : Nat) (a1 : Nat) (a2 : Nat) (a3 : Nat) (a4 : Nat) (P : cP) (x1 : Int32) (x2 : Int32) (x3 : Int32) (hF : 0 ≤ x1.toInt → x1.toInt < 4 → F x1.toNatClampNeg = some p0) (hL : okL L) (hz : 0 ≤ x2.toInt → True) (hA : (0 ≤ x1.toInt ∧ x1.toInt < 4) → L.2.2.2.2.2.2.2.2.1.toInt < 300 → (1 ≤ x2.toInt ∧ x2.toInt ≤ L.2.2.2.2.2.2.2.2.2.toInt) → ∀ y : Int32, y = 2 ∨ y = 3 → okTold (m_L_add L y x1 (P.2.2.2.1 + 1) x2 (-1) (-1)).2 P (m_L_add L y x1 (P.2.2.2.1 + 1) x2 (-1) (-1)).1) : vz_C l (dC, dI) classes [(cI, .int), (cZ, .boolean), (cQ, .object "BinTrees$Person")] y_B_remove (Cond.code y_B_remove b_B_remove 5 (some .int) :: vz_tbl) ({ frames := 6, cells := 0, slots := 0, locals := 141 }) [.ref b0, .int x1, .int x2, .int x3] (wB cI cZ cQ b0 b1 u0 F ++ wL cI cZ u0 u1 u2 u3 u4 u5 u6 u7 u8 L ++ wP cI cZ p0 p1 h0 a1 a2 a3 a4 P) (some (.int ((m_B_remove L P x1 x2 x3).1))) (wB cI cZ cQ b0 b1 u0 F ++ wL cI cZ u0 u1 u2 u3 u4 u5 u6 u7 u8 ((m_B_remove L P x1 x2 x3).2.1) ++ wP cI cZ p0 p1 h0 a1 a2 a3 a4 ((m_B_remove L P x1 x2 x3).2.2)) := by
  generalize hres : (m_B_remove L P x1 x2 x3) = RES
  refine vz_C.of (by decide) (Nat.le_of_ble_eq_true rfl) ?_
  intro p e s m below meth c ls E hl hK hP hD hS
  obtain ⟨hx, hb, hr, hml, hown, hT, hlocks⟩ := E
  obtain ⟨Q, hQ⟩ : ∃ Q, Q = MQ below (vz_Q (dC, dI) classes (wB cI cZ cQ b0 b1 u0 F ++ wL cI cZ u0 u1 u2 u3 u4 u5 u6 u7 u8 L ++ wP cI cZ p0 p1 h0 a1 a2 a3 a4 P) (some (.int RES.1)) (wB cI cZ cQ b0 b1 u0 F ++ wL cI cZ u0 u1 u2 u3 u4 u5 u6 u7 u8 RES.2.1 ++ wP cI cZ p0 p1 h0 a1 a2 a3 a4 RES.2.2)) ([.ref b0, .int x1, .int x2, .int x3] : List Value).toArray s 0 0 (vz_A (wB cI cZ cQ b0 b1 u0 F ++ wL cI cZ u0 u1 u2 u3 u4 u5 u6 u7 u8 L ++ wP cI cZ p0 p1 h0 a1 a2 a3 a4 P)) := ⟨_, rfl⟩
  rw [← hQ]
  have hl : lv_has ls 5 [(0, .ref b0), (1, .int x1), (2, .int x2), (3, .int x3)] := hl
  have T0 := ti_0
  have T1 := ti_1
  have Tm := ti_m1
  have T8 := ti_8
  have T39 := ti_39
  have T40 := ti_40
  have T4 := ti_4
  have T300 := ti_300
  have hS0 := hS
  refine lv_aload_n hx hb d_B_remove_0 rfl (lv_at hl 0 rfl) ?_
  refine lv_iload_n hx hb d_B_remove_1 rfl (lv_at hl 1 rfl) ?_
  have hc := c_B_mayWrite l dC dI cI cZ cQ b0 b1 F u0 u1 u2 u3 u4 u5 u6 u7 u8 L x1 
  generalize hg_2 : (m_B_mayWrite L x1) = g_2 at hc
  refine vz_callV (As := [.int x1]) (rest := []) ⟨hx, hb, hml, hown, hT⟩ hc (vz_goodV kw_143 kw_145 ks_0 kw_1 kw_146) ⟨rfl, hd_B_mayWrite⟩ ⟨⟨rfl, rfl⟩, Nat.le_of_ble_eq_true rfl, Nat.le_of_ble_eq_true rfl⟩ hK hP hD hS [0, 1, 2, 3, 4, 5, 6, 7, 8, 9, 10] rfl (hC_B_remove_2 cI cZ cQ b0 b1 u0 u1 u2 u3 u4 u5 u6 u7 u8 p0 p1 h0 a1 a2 a3 a4 F L P) (hF_B_mayWrite cI cZ cQ _ _ _ _) 0 3 rfl rfl rfl rfl hl.1 rfl (Nat.le_of_ble_eq_true rfl) ⟨Nat.zero_le _, Nat.zero_le _⟩ d_B_remove_2 (fun H locs hP hD hS => ?_)
  have hP : va_P (dC, dI) classes (wB cI cZ cQ b0 b1 u0 F ++ wL cI cZ u0 u1 u2 u3 u4 u5 u6 u7 u8 L ++ wP cI cZ p0 p1 h0 a1 a2 a3 a4 P) H := vz_reP (hU_B_remove_2 cI cZ cQ b0 b1 u0 u1 u2 u3 u4 u5 u6 u7 u8 p0 p1 h0 a1 a2 a3 a4 F L P ) hP
  have hD : va_D (vz_A (wB cI cZ cQ b0 b1 u0 F ++ wL cI cZ u0 u1 u2 u3 u4 u5 u6 u7 u8 L ++ wP cI cZ p0 p1 h0 a1 a2 a3 a4 P)) (wB cI cZ cQ b0 b1 u0 F ++ wL cI cZ u0 u1 u2 u3 u4 u5 u6 u7 u8 L ++ wP cI cZ p0 p1 h0 a1 a2 a3 a4 P) := vz_reD (hU_B_remove_2 cI cZ cQ b0 b1 u0 u1 u2 u3 u4 u5 u6 u7 u8 p0 p1 h0 a1 a2 a3 a4 F L P ) hD
  refine W.eq (g2 := F0 m 5 ls [.int g_2]) rfl ?_
  refine lv_if_eq (tgt := 16) hx hb d_B_remove_5 (by decide) (fun c_5 => ?_) (fun c_5 => ?_)
  · have z_5 := congrArg Int32.toInt c_5
    refine lv_iconst (v := -1) hx hb d_B_remove_16 (by decide) ?_
    rw [m_B_remove] at hres
    try rw [hg_2] at hres
    rw [if_pos c_5] at hres
    subst hres
    subst hQ
    exact vz_iret hx hb hr hlocks d_B_remove_17 hS rfl hP
  · have z_5 := mt Int32.toInt_inj.mp c_5
    refine lv_aload_n hx hb d_B_remove_8 rfl (lv_at hl 0 rfl) ?_
    refine lv_iload_n hx hb d_B_remove_9 rfl (lv_at hl 2 rfl) ?_
    have hc := c_B_isMade l dC dI cI cZ cQ b0 b1 F u0 u1 u2 u3 u4 u5 u6 u7 u8 L x2 
    generalize hg_10 : (m_B_isMade L x2) = g_10 at hc
    refine vz_callV (As := [.int x2]) (rest := []) ⟨hx, hb, hml, hown, hT⟩ hc (vz_goodV kw_231 kw_233 ks_9 kw_1 kw_234) ⟨rfl, hd_B_isMade⟩ ⟨⟨rfl, rfl⟩, Nat.le_of_ble_eq_true rfl, Nat.le_of_ble_eq_true rfl⟩ hK hP hD hS [0, 1, 2, 3, 4, 5, 6, 7, 8, 9, 10] rfl (hC_B_remove_10 cI cZ cQ b0 b1 u0 u1 u2 u3 u4 u5 u6 u7 u8 p0 p1 h0 a1 a2 a3 a4 F L P) (hF_B_isMade cI cZ cQ _ _ _ _) 0 3 rfl rfl rfl rfl hl.1 rfl (Nat.le_of_ble_eq_true rfl) ⟨Nat.zero_le _, Nat.zero_le _⟩ d_B_remove_10 (fun H locs hP hD hS => ?_)
    have hP : va_P (dC, dI) classes (wB cI cZ cQ b0 b1 u0 F ++ wL cI cZ u0 u1 u2 u3 u4 u5 u6 u7 u8 L ++ wP cI cZ p0 p1 h0 a1 a2 a3 a4 P) H := vz_reP (hU_B_remove_10 cI cZ cQ b0 b1 u0 u1 u2 u3 u4 u5 u6 u7 u8 p0 p1 h0 a1 a2 a3 a4 F L P ) hP
    have hD : va_D (vz_A (wB cI cZ cQ b0 b1 u0 F ++ wL cI cZ u0 u1 u2 u3 u4 u5 u6 u7 u8 L ++ wP cI cZ p0 p1 h0 a1 a2 a3 a4 P)) (wB cI cZ cQ b0 b1 u0 F ++ wL cI cZ u0 u1 u2 u3 u4 u5 u6 u7 u8 L ++ wP cI cZ p0 p1 h0 a1 a2 a3 a4 P) := vz_reD (hU_B_remove_10 cI cZ cQ b0 b1 u0 u1 u2 u3 u4 u5 u6 u7 u8 p0 p1 h0 a1 a2 a3 a4 F L P ) hD
    refine W.eq (g2 := F0 m 13 ls [.int g_10]) rfl ?_
    refine lv_if_ne (tgt := 18) hx hb d_B_remove_13 (by decide) (fun c_13 => ?_) (fun c_13 => ?_)
    · have z_13 := mt Int32.toInt_inj.mp c_13
      refine lv_iload_n hx hb d_B_remove_18 rfl (lv_at hl 3 rfl) ?_
      refine lv_if_eq (tgt := 26) hx hb d_B_remove_19 (by decide) (fun c_19 => ?_) (fun c_19 => ?_)
      · have z_19 := congrArg Int32.toInt c_19
        refine lv_iconst (v := 2) hx hb d_B_remove_26 (by decide) ?_
        refine lv_istore (lv' := [(4, .int 2), (0, .ref b0), (1, .int x1), (2, .int x2), (3, .int x3)]) hx hb d_B_remove_27 hl (by decide) rfl (fun ls hl => ?_)
        refine lv_aload_n hx hb d_B_remove_29 rfl (lv_at hl 1 rfl) ?_
        refine lv_iload_n hx hb d_B_remove_30 rfl (lv_at hl 2 rfl) ?_
        refine lv_aload_n hx hb d_B_remove_31 rfl (lv_at hl 1 rfl) ?_
        refine va_get (D := (dC, dI)) (ci := 3) (v := .ref u0) (C := R_B) (T := F_B) (N := 2) hx hb hT i_B hown hK hP 0 rfl rfl 0 (by decide) (hT _ kw_132) (fun _ h9 => h9) rfl d_B_remove_32 ?_
        refine lv_iload hx hb d_B_remove_35 (lv_at hl 0 rfl) ?_
        refine lv_iload_n hx hb d_B_remove_37 rfl (lv_at hl 2 rfl) ?_
        refine lv_aload_n hx hb d_B_remove_38 rfl (lv_at hl 1 rfl) ?_
        refine va_get (D := (dC, dI)) (ci := 3) (v := .ref b1) (C := R_B) (T := F_B) (N := 2) hx hb hT i_B hown hK hP 0 rfl rfl 1 (by decide) (hT _ kw_133) (fun _ h9 => h9) rfl d_B_remove_39 ?_
        refine lv_iload_n hx hb d_B_remove_42 rfl (lv_at hl 2 rfl) ?_
        refine va_aldq hx hb hK hP 1 2 rfl rfl (by have hn := mw_t (L := L) (x1 := x1) (by rw [hg_2]; assumption); exact ti_vp (by omega) (by omega)) d_B_remove_43 ?_
        rw [show va_rf (F x1.toNatClampNeg) = .ref p0 from by have hn := mw_t (L := L) (x1 := x1) (by rw [hg_2]; assumption); rw [hF hn.1.1 hn.1.2]; rfl]
        refine va_get (D := (dC, dI)) (ci := 2) (v := .int P.2.2.2.1) (C := R_P) (T := F_P) (N := 5) hx hb hT i_P hown hK hP 11 rfl rfl 3 (by decide) (hT _ kw_117) (fun _ h9 => h9) rfl d_B_remove_44 ?_
        refine lv_iconst (v := 1) hx hb d_B_remove_47 (by decide) ?_
        refine lv_iadd hx hb d_B_remove_48 ?_
        refine lv_iload_n hx hb d_B_remove_49 rfl (lv_at hl 3 rfl) ?_
        refine lv_iconst (v := -1) hx hb d_B_remove_50 (by decide) ?_
        refine lv_iconst (v := -1) hx hb d_B_remove_51 (by decide) ?_
        have hc := c_L_add l dC dI cI cZ cQ u0 u1 u2 u3 u4 u5 u6 u7 u8 L 2 x1 (P.2.2.2.1 + 1) x2 (-1) (-1) (by have hn := mw_t (L := L) (x1 := x1) (by rw [hg_2]; assumption); have hl1 := hL.1; (try dsimp only); omega) (hL.2.1) (by intro h; first | exact absurd h (by decide) | (have := hz h; omega))
        generalize hg_52 : (m_L_add L 2 x1 (P.2.2.2.1 + 1) x2 (-1) (-1)) = g_52 at hc
        refine vz_callV (As := [.int 2, .int x1, .int (P.2.2.2.1 + 1), .int x2, .int (-1), .int (-1)]) (rest := [.int x1, .ref b0]) ⟨hx, hb, hml, hown, hT⟩ hc (vz_goodV kw_150 kw_151 kw_152 kw_2 kw_153) ⟨rfl, hd_L_add⟩ ⟨⟨rfl, rfl⟩, Nat.le_of_ble_eq_true rfl, Nat.le_of_ble_eq_true rfl⟩ hK hP hD hS [2, 3, 4, 5, 6, 7, 8, 9, 10] rfl (hC_B_remove_52 cI cZ cQ b0 b1 u0 u1 u2 u3 u4 u5 u6 u7 u8 p0 p1 h0 a1 a2 a3 a4 F L P) (hF_L_add cI cZ cQ _ _) 0 1 rfl rfl rfl rfl hl.1 rfl (Nat.le_of_ble_eq_true rfl) ⟨Nat.zero_le _, Nat.zero_le _⟩ d_B_remove_52 (fun H locs hP hD hS => ?_)
        have hP : va_P (dC, dI) classes (wB cI cZ cQ b0 b1 u0 F ++ wL cI cZ u0 u1 u2 u3 u4 u5 u6 u7 u8 g_52.2 ++ wP cI cZ p0 p1 h0 a1 a2 a3 a4 P) H := vz_reP (hU_B_remove_52 cI cZ cQ b0 b1 u0 u1 u2 u3 u4 u5 u6 u7 u8 p0 p1 h0 a1 a2 a3 a4 F L P g_52.2) hP
        have hD : va_D (vz_A (wB cI cZ cQ b0 b1 u0 F ++ wL cI cZ u0 u1 u2 u3 u4 u5 u6 u7 u8 L ++ wP cI cZ p0 p1 h0 a1 a2 a3 a4 P)) (wB cI cZ cQ b0 b1 u0 F ++ wL cI cZ u0 u1 u2 u3 u4 u5 u6 u7 u8 g_52.2 ++ wP cI cZ p0 p1 h0 a1 a2 a3 a4 P) := vz_reD (hU_B_remove_52 cI cZ cQ b0 b1 u0 u1 u2 u3 u4 u5 u6 u7 u8 p0 p1 h0 a1 a2 a3 a4 F L P g_52.2) hD
        refine W.eq (g2 := F0 m 55 ls [.int g_52.1, .int x1, .ref b0]) rfl ?_
        have hc := c_B_told l dC dI cI cZ cQ b0 b1 F u0 u1 u2 u3 u4 u5 u6 u7 u8 g_52.2 p0 p1 h0 a1 a2 a3 a4 P x1 g_52.1 (by have hn := mw_t (L := L) (x1 := x1) (by rw [hg_2]; assumption); exact hF hn.1.1 hn.1.2) (by have hn := mw_t (L := L) (x1 := x1) (by rw [hg_2]; assumption); exact hn.1) (by have hn := mw_t (L := L) (x1 := x1) (by rw [hg_2]; assumption); rw [← hg_52]; exact hA hn.1 hn.2 (by have hm := ism_t (L := L) (x1 := x2) (by rw [hg_10]; assumption); exact hm) _ (by first | exact Or.inl rfl | exact Or.inr rfl))
        generalize hg_55 : (m_B_told g_52.2 P x1 g_52.1) = g_55 at hc
        refine vz_callV (As := [.int x1, .int g_52.1]) (rest := []) ⟨hx, hb, hml, hown, hT⟩ hc (vz_goodV kw_162 kw_164 ks_3 kw_1 kw_165) ⟨rfl, hd_B_told⟩ ⟨⟨rfl, rfl⟩, Nat.le_of_ble_eq_true rfl, Nat.le_of_ble_eq_true rfl⟩ hK hP hD hS [0, 1, 2, 3, 4, 5, 6, 7, 8, 9, 10, 11, 12, 13, 14, 15, 16, 17] rfl (hC_B_remove_55 cI cZ cQ b0 b1 u0 u1 u2 u3 u4 u5 u6 u7 u8 p0 p1 h0 a1 a2 a3 a4 F g_52.2 P) (hF_B_told cI cZ cQ _ _ _ _ _ _) 0 3 rfl rfl rfl rfl hl.1 rfl (Nat.le_of_ble_eq_true rfl) ⟨Nat.zero_le _, Nat.zero_le _⟩ d_B_remove_55 (fun H locs hP hD hS => ?_)
        have hP : va_P (dC, dI) classes (wB cI cZ cQ b0 b1 u0 F ++ wL cI cZ u0 u1 u2 u3 u4 u5 u6 u7 u8 g_52.2 ++ wP cI cZ p0 p1 h0 a1 a2 a3 a4 g_55.2) H := vz_reP (hU_B_remove_55 cI cZ cQ b0 b1 u0 u1 u2 u3 u4 u5 u6 u7 u8 p0 p1 h0 a1 a2 a3 a4 F g_52.2 P g_55.2) hP
        have hD : va_D (vz_A (wB cI cZ cQ b0 b1 u0 F ++ wL cI cZ u0 u1 u2 u3 u4 u5 u6 u7 u8 L ++ wP cI cZ p0 p1 h0 a1 a2 a3 a4 P)) (wB cI cZ cQ b0 b1 u0 F ++ wL cI cZ u0 u1 u2 u3 u4 u5 u6 u7 u8 g_52.2 ++ wP cI cZ p0 p1 h0 a1 a2 a3 a4 g_55.2) := vz_reD (hU_B_remove_55 cI cZ cQ b0 b1 u0 u1 u2 u3 u4 u5 u6 u7 u8 p0 p1 h0 a1 a2 a3 a4 F g_52.2 P g_55.2) hD
        refine W.eq (g2 := F0 m 58 ls [.int g_55.1]) rfl ?_
        rw [m_B_remove] at hres
        try rw [hg_2] at hres
        rw [if_neg c_5] at hres
        try rw [hg_10] at hres
        rw [if_neg c_13, if_pos c_19] at hres
        try rw [hg_52] at hres
        try rw [hg_55] at hres
        subst hres
        subst hQ
        exact vz_iret hx hb hr hlocks d_B_remove_58 hS rfl hP
      · have z_19 := mt Int32.toInt_inj.mp c_19
        refine lv_iconst (v := 3) hx hb d_B_remove_22 (by decide) ?_
        refine lv_goto (tgt := 27) hx hb d_B_remove_23 (by decide) ?_
        refine lv_istore (lv' := [(4, .int 3), (0, .ref b0), (1, .int x1), (2, .int x2), (3, .int x3)]) hx hb d_B_remove_27 hl (by decide) rfl (fun ls hl => ?_)
        refine lv_aload_n hx hb d_B_remove_29 rfl (lv_at hl 1 rfl) ?_
        refine lv_iload_n hx hb d_B_remove_30 rfl (lv_at hl 2 rfl) ?_
        refine lv_aload_n hx hb d_B_remove_31 rfl (lv_at hl 1 rfl) ?_
        refine va_get (D := (dC, dI)) (ci := 3) (v := .ref u0) (C := R_B) (T := F_B) (N := 2) hx hb hT i_B hown hK hP 0 rfl rfl 0 (by decide) (hT _ kw_132) (fun _ h9 => h9) rfl d_B_remove_32 ?_
        refine lv_iload hx hb d_B_remove_35 (lv_at hl 0 rfl) ?_
        refine lv_iload_n hx hb d_B_remove_37 rfl (lv_at hl 2 rfl) ?_
        refine lv_aload_n hx hb d_B_remove_38 rfl (lv_at hl 1 rfl) ?_
        refine va_get (D := (dC, dI)) (ci := 3) (v := .ref b1) (C := R_B) (T := F_B) (N := 2) hx hb hT i_B hown hK hP 0 rfl rfl 1 (by decide) (hT _ kw_133) (fun _ h9 => h9) rfl d_B_remove_39 ?_
        refine lv_iload_n hx hb d_B_remove_42 rfl (lv_at hl 2 rfl) ?_
        refine va_aldq hx hb hK hP 1 2 rfl rfl (by have hn := mw_t (L := L) (x1 := x1) (by rw [hg_2]; assumption); exact ti_vp (by omega) (by omega)) d_B_remove_43 ?_
        rw [show va_rf (F x1.toNatClampNeg) = .ref p0 from by have hn := mw_t (L := L) (x1 := x1) (by rw [hg_2]; assumption); rw [hF hn.1.1 hn.1.2]; rfl]
        refine va_get (D := (dC, dI)) (ci := 2) (v := .int P.2.2.2.1) (C := R_P) (T := F_P) (N := 5) hx hb hT i_P hown hK hP 11 rfl rfl 3 (by decide) (hT _ kw_117) (fun _ h9 => h9) rfl d_B_remove_44 ?_
        refine lv_iconst (v := 1) hx hb d_B_remove_47 (by decide) ?_
        refine lv_iadd hx hb d_B_remove_48 ?_
        refine lv_iload_n hx hb d_B_remove_49 rfl (lv_at hl 3 rfl) ?_
        refine lv_iconst (v := -1) hx hb d_B_remove_50 (by decide) ?_
        refine lv_iconst (v := -1) hx hb d_B_remove_51 (by decide) ?_
        have hc := c_L_add l dC dI cI cZ cQ u0 u1 u2 u3 u4 u5 u6 u7 u8 L 3 x1 (P.2.2.2.1 + 1) x2 (-1) (-1) (by have hn := mw_t (L := L) (x1 := x1) (by rw [hg_2]; assumption); have hl1 := hL.1; (try dsimp only); omega) (hL.2.1) (by intro h; first | exact absurd h (by decide) | (have := hz h; omega))
        generalize hg_52 : (m_L_add L 3 x1 (P.2.2.2.1 + 1) x2 (-1) (-1)) = g_52 at hc
        refine vz_callV (As := [.int 3, .int x1, .int (P.2.2.2.1 + 1), .int x2, .int (-1), .int (-1)]) (rest := [.int x1, .ref b0]) ⟨hx, hb, hml, hown, hT⟩ hc (vz_goodV kw_150 kw_151 kw_152 kw_2 kw_153) ⟨rfl, hd_L_add⟩ ⟨⟨rfl, rfl⟩, Nat.le_of_ble_eq_true rfl, Nat.le_of_ble_eq_true rfl⟩ hK hP hD hS [2, 3, 4, 5, 6, 7, 8, 9, 10] rfl (hC_B_remove_52 cI cZ cQ b0 b1 u0 u1 u2 u3 u4 u5 u6 u7 u8 p0 p1 h0 a1 a2 a3 a4 F L P) (hF_L_add cI cZ cQ _ _) 0 1 rfl rfl rfl rfl hl.1 rfl (Nat.le_of_ble_eq_true rfl) ⟨Nat.zero_le _, Nat.zero_le _⟩ d_B_remove_52 (fun H locs hP hD hS => ?_)
        have hP : va_P (dC, dI) classes (wB cI cZ cQ b0 b1 u0 F ++ wL cI cZ u0 u1 u2 u3 u4 u5 u6 u7 u8 g_52.2 ++ wP cI cZ p0 p1 h0 a1 a2 a3 a4 P) H := vz_reP (hU_B_remove_52 cI cZ cQ b0 b1 u0 u1 u2 u3 u4 u5 u6 u7 u8 p0 p1 h0 a1 a2 a3 a4 F L P g_52.2) hP
        have hD : va_D (vz_A (wB cI cZ cQ b0 b1 u0 F ++ wL cI cZ u0 u1 u2 u3 u4 u5 u6 u7 u8 L ++ wP cI cZ p0 p1 h0 a1 a2 a3 a4 P)) (wB cI cZ cQ b0 b1 u0 F ++ wL cI cZ u0 u1 u2 u3 u4 u5 u6 u7 u8 g_52.2 ++ wP cI cZ p0 p1 h0 a1 a2 a3 a4 P) := vz_reD (hU_B_remove_52 cI cZ cQ b0 b1 u0 u1 u2 u3 u4 u5 u6 u7 u8 p0 p1 h0 a1 a2 a3 a4 F L P g_52.2) hD
        refine W.eq (g2 := F0 m 55 ls [.int g_52.1, .int x1, .ref b0]) rfl ?_
        have hc := c_B_told l dC dI cI cZ cQ b0 b1 F u0 u1 u2 u3 u4 u5 u6 u7 u8 g_52.2 p0 p1 h0 a1 a2 a3 a4 P x1 g_52.1 (by have hn := mw_t (L := L) (x1 := x1) (by rw [hg_2]; assumption); exact hF hn.1.1 hn.1.2) (by have hn := mw_t (L := L) (x1 := x1) (by rw [hg_2]; assumption); exact hn.1) (by have hn := mw_t (L := L) (x1 := x1) (by rw [hg_2]; assumption); rw [← hg_52]; exact hA hn.1 hn.2 (by have hm := ism_t (L := L) (x1 := x2) (by rw [hg_10]; assumption); exact hm) _ (by first | exact Or.inl rfl | exact Or.inr rfl))
        generalize hg_55 : (m_B_told g_52.2 P x1 g_52.1) = g_55 at hc
        refine vz_callV (As := [.int x1, .int g_52.1]) (rest := []) ⟨hx, hb, hml, hown, hT⟩ hc (vz_goodV kw_162 kw_164 ks_3 kw_1 kw_165) ⟨rfl, hd_B_told⟩ ⟨⟨rfl, rfl⟩, Nat.le_of_ble_eq_true rfl, Nat.le_of_ble_eq_true rfl⟩ hK hP hD hS [0, 1, 2, 3, 4, 5, 6, 7, 8, 9, 10, 11, 12, 13, 14, 15, 16, 17] rfl (hC_B_remove_55 cI cZ cQ b0 b1 u0 u1 u2 u3 u4 u5 u6 u7 u8 p0 p1 h0 a1 a2 a3 a4 F g_52.2 P) (hF_B_told cI cZ cQ _ _ _ _ _ _) 0 3 rfl rfl rfl rfl hl.1 rfl (Nat.le_of_ble_eq_true rfl) ⟨Nat.zero_le _, Nat.zero_le _⟩ d_B_remove_55 (fun H locs hP hD hS => ?_)
        have hP : va_P (dC, dI) classes (wB cI cZ cQ b0 b1 u0 F ++ wL cI cZ u0 u1 u2 u3 u4 u5 u6 u7 u8 g_52.2 ++ wP cI cZ p0 p1 h0 a1 a2 a3 a4 g_55.2) H := vz_reP (hU_B_remove_55 cI cZ cQ b0 b1 u0 u1 u2 u3 u4 u5 u6 u7 u8 p0 p1 h0 a1 a2 a3 a4 F g_52.2 P g_55.2) hP
        have hD : va_D (vz_A (wB cI cZ cQ b0 b1 u0 F ++ wL cI cZ u0 u1 u2 u3 u4 u5 u6 u7 u8 L ++ wP cI cZ p0 p1 h0 a1 a2 a3 a4 P)) (wB cI cZ cQ b0 b1 u0 F ++ wL cI cZ u0 u1 u2 u3 u4 u5 u6 u7 u8 g_52.2 ++ wP cI cZ p0 p1 h0 a1 a2 a3 a4 g_55.2) := vz_reD (hU_B_remove_55 cI cZ cQ b0 b1 u0 u1 u2 u3 u4 u5 u6 u7 u8 p0 p1 h0 a1 a2 a3 a4 F g_52.2 P g_55.2) hD
        refine W.eq (g2 := F0 m 58 ls [.int g_55.1]) rfl ?_
        rw [m_B_remove] at hres
        try rw [hg_2] at hres
        rw [if_neg c_5] at hres
        try rw [hg_10] at hres
        rw [if_neg c_13, if_neg c_19] at hres
        try rw [hg_52] at hres
        try rw [hg_55] at hres
        subst hres
        subst hQ
        exact vz_iret hx hb hr hlocks d_B_remove_58 hS rfl hP
    · have z_13 := congrArg Int32.toInt c_13
      refine lv_iconst (v := -1) hx hb d_B_remove_16 (by decide) ?_
      rw [m_B_remove] at hres
      try rw [hg_2] at hres
      rw [if_neg c_5] at hres
      try rw [hg_10] at hres
      rw [if_pos c_13] at hres
      subst hres
      subst hQ
      exact vz_iret hx hb hr hlocks d_B_remove_17 hS rfl hP
end
section
theorem d_B_undo_0 : decode b_B_undo 0 = .ok (.aload_n 0, 1) := by decide +kernel
theorem d_B_undo_1 : decode b_B_undo 1 = .ok (.iload_n 1, 1) := by decide +kernel
theorem d_B_undo_2 : decode b_B_undo 2 = .ok (.invokevirtual 23, 3) := by decide +kernel
theorem d_B_undo_5 : decode b_B_undo 5 = .ok (.ifCond .eq 23, 3) := by decide +kernel
theorem d_B_undo_8 : decode b_B_undo 8 = .ok (.aload_n 0, 1) := by decide +kernel
theorem d_B_undo_9 : decode b_B_undo 9 = .ok (.iload_n 2, 1) := by decide +kernel
theorem d_B_undo_10 : decode b_B_undo 10 = .ok (.invokevirtual 48, 3) := by decide +kernel
theorem d_B_undo_13 : decode b_B_undo 13 = .ok (.ifCond .eq 15, 3) := by decide +kernel
theorem d_B_undo_16 : decode b_B_undo 16 = .ok (.aload_n 0, 1) := by decide +kernel
theorem d_B_undo_17 : decode b_B_undo 17 = .ok (.getfield 10, 3) := by decide +kernel
theorem d_B_undo_20 : decode b_B_undo 20 = .ok (.iload_n 1, 1) := by decide +kernel
theorem d_B_undo_21 : decode b_B_undo 21 = .ok (.iload_n 2, 1) := by decide +kernel
theorem d_B_undo_22 : decode b_B_undo 22 = .ok (.invokevirtual 51, 3) := by decide +kernel
theorem d_B_undo_25 : decode b_B_undo 25 = .ok (.ifCond .ne 5, 3) := by decide +kernel
theorem d_B_undo_28 : decode b_B_undo 28 = .ok (.iconst (-1), 1) := by decide +kernel
theorem d_B_undo_29 : decode b_B_undo 29 = .ok (.ireturn, 1) := by decide +kernel
theorem d_B_undo_30 : decode b_B_undo 30 = .ok (.aload_n 0, 1) := by decide +kernel
theorem d_B_undo_31 : decode b_B_undo 31 = .ok (.iload_n 1, 1) := by decide +kernel
theorem d_B_undo_32 : decode b_B_undo 32 = .ok (.aload_n 0, 1) := by decide +kernel
theorem d_B_undo_33 : decode b_B_undo 33 = .ok (.getfield 10, 3) := by decide +kernel
theorem d_B_undo_36 : decode b_B_undo 36 = .ok (.iconst 4, 1) := by decide +kernel
theorem d_B_undo_37 : decode b_B_undo 37 = .ok (.iload_n 1, 1) := by decide +kernel
theorem d_B_undo_38 : decode b_B_undo 38 = .ok (.aload_n 0, 1) := by decide +kernel
theorem d_B_undo_39 : decode b_B_undo 39 = .ok (.getfield 18, 3) := by decide +kernel
theorem d_B_undo_42 : decode b_B_undo 42 = .ok (.iload_n 1, 1) := by decide +kernel
theorem d_B_undo_43 : decode b_B_undo 43 = .ok (.aaload, 1) := by decide +kernel
theorem d_B_undo_44 : decode b_B_undo 44 = .ok (.getfield 31, 3) := by decide +kernel
theorem d_B_undo_47 : decode b_B_undo 47 = .ok (.iconst 1, 1) := by decide +kernel
theorem d_B_undo_48 : decode b_B_undo 48 = .ok (.iadd, 1) := by decide +kernel
theorem d_B_undo_49 : decode b_B_undo 49 = .ok (.iload_n 2, 1) := by decide +kernel
theorem d_B_undo_50 : decode b_B_undo 50 = .ok (.iconst (-1), 1) := by decide +kernel
theorem d_B_undo_51 : decode b_B_undo 51 = .ok (.iconst (-1), 1) := by decide +kernel
theorem d_B_undo_52 : decode b_B_undo 52 = .ok (.invokevirtual 34, 3) := by decide +kernel
theorem d_B_undo_55 : decode b_B_undo 55 = .ok (.invokevirtual 38, 3) := by decide +kernel
theorem d_B_undo_58 : decode b_B_undo 58 = .ok (.ireturn, 1) := by decide +kernel
theorem hC_B_undo_2 (cI cZ cQ : ClassId) (q0 q1 q2 q3 q4 q5 q6 q7 q8 q9 q10 q11 q12 q13 q14 q15 q16 q17 : Nat) (S0 : (Nat → Option Nat)) (S1 : cL) (S2 : cP) : ([0, 1, 2, 3, 4, 5, 6, 7, 8, 9, 10] : List Nat).map (fun i => (wB cI cZ cQ q0 q1 q2 S0 ++ wL cI cZ q2 q3 q4 q5 q6 q7 q8 q9 q10 S1 ++ wP cI cZ q11 q12 q13 q14 q15 q16 q17 S2 : va_W)[i]?) = (wB cI cZ cQ q0 q1 q2 S0 ++ wL cI cZ q2 q3 q4 q5 q6 q7 q8 q9 q10 S1 : va_W).map some := rfl
theorem hU_B_undo_2 (cI cZ cQ : ClassId) (q0 q1 q2 q3 q4 q5 q6 q7 q8 q9 q10 q11 q12 q13 q14 q15 q16 q17 : Nat) (S0 : (Nat → Option Nat)) (S1 : cL) (S2 : cP)  : vz_put (wB cI cZ cQ q0 q1 q2 S0 ++ wL cI cZ q2 q3 q4 q5 q6 q7 q8 q9 q10 S1 ++ wP cI cZ q11 q12 q13 q14 q15 q16 q17 S2 : va_W) [0, 1, 2, 3, 4, 5, 6, 7, 8, 9, 10] (wB cI cZ cQ q0 q1 q2 S0 ++ wL cI cZ q2 q3 q4 q5 q6 q7 q8 q9 q10 S1 : va_W) = wB cI cZ cQ q0 q1 q2 S0 ++ wL cI cZ q2 q3 q4 q5 q6 q7 q8 q9 q10 S1 ++ wP cI cZ q11 q12 q13 q14 q15 q16 q17 S2 := (show vz_put ([(q0, .inr (3, [.ref q2, .ref q1])), (q1, .inl (cQ, 4, .inr (.inr (.inr (.inr S0))))), (q2, .inr (1, [.ref q3, .ref q4, .ref q5, .ref q6, .ref q7, .ref q8, .ref q9, .ref q10, .int S1.2.2.2.2.2.2.2.2.1, .int S1.2.2.2.2.2.2.2.2.2])), (q3, .inl (cI, 301, .inl S1.1)), (q4, .inl (cI, 301, .inl S1.2.1)), (q5, .inl (cI, 301, .inl S1.2.2.1)), (q6, .inl (cI, 301, .inl S1.2.2.2.1)), (q7, .inl (cI, 301, .inl S1.2.2.2.2.1)), (q8, .inl (cI, 301, .inl S1.2.2.2.2.2.1)), (q9, .inl (cI, 301, .inl S1.2.2.2.2.2.2.1)), (q10, .inl (cI, 300, .inl S1.2.2.2.2.2.2.2.1)), (q11, .inr (2, [.ref q12, .ref q13, .int S2.2.2.1, .int S2.2.2.2.1, .int S2.2.2.2.2])), (q12, .inl (cI, 301, .inl S2.1)), (q13, .inr (0, [.ref q14, .ref q15, .ref q16, .ref q17, .int S2.2.1.2.2.2.2])), (q14, .inl (cZ, 40, .inl S2.2.1.1)), (q15, .inl (cI, 40, .inl S2.2.1.2.1)), (q16, .inl (cI, 40, .inl S2.2.1.2.2.1)), (q17, .inl (cI, 40, .inl S2.2.1.2.2.2.1))] : va_W) [0, 1, 2, 3, 4, 5, 6, 7, 8, 9, 10] ([(q0, .inr (3, [.ref q2, .ref q1])), (q1, .inl (cQ, 4, .inr (.inr (.inr (.inr S0))))), (q2, .inr (1, [.ref q3, .ref q4, .ref q5, .ref q6, .ref q7, .ref q8, .ref q9, .ref q10, .int S1.2.2.2.2.2.2.2.2.1, .int S1.2.2.2.2.2.2.2.2.2])), (q3, .inl (cI, 301, .inl S1.1)), (q4, .inl (cI, 301, .inl S1.2.1)), (q5, .inl (cI, 301, .inl S1.2.2.1)), (q6, .inl (cI, 301, .inl S1.2.2.2.1)), (q7, .inl (cI, 301, .inl S1.2.2.2.2.1)), (q8, .inl (cI, 301, .inl S1.2.2.2.2.2.1)), (q9, .inl (cI, 301, .inl S1.2.2.2.2.2.2.1)), (q10, .inl (cI, 300, .inl S1.2.2.2.2.2.2.2.1))] : va_W) = [(q0, .inr (3, [.ref q2, .ref q1])), (q1, .inl (cQ, 4, .inr (.inr (.inr (.inr S0))))), (q2, .inr (1, [.ref q3, .ref q4, .ref q5, .ref q6, .ref q7, .ref q8, .ref q9, .ref q10, .int S1.2.2.2.2.2.2.2.2.1, .int S1.2.2.2.2.2.2.2.2.2])), (q3, .inl (cI, 301, .inl S1.1)), (q4, .inl (cI, 301, .inl S1.2.1)), (q5, .inl (cI, 301, .inl S1.2.2.1)), (q6, .inl (cI, 301, .inl S1.2.2.2.1)), (q7, .inl (cI, 301, .inl S1.2.2.2.2.1)), (q8, .inl (cI, 301, .inl S1.2.2.2.2.2.1)), (q9, .inl (cI, 301, .inl S1.2.2.2.2.2.2.1)), (q10, .inl (cI, 300, .inl S1.2.2.2.2.2.2.2.1)), (q11, .inr (2, [.ref q12, .ref q13, .int S2.2.2.1, .int S2.2.2.2.1, .int S2.2.2.2.2])), (q12, .inl (cI, 301, .inl S2.1)), (q13, .inr (0, [.ref q14, .ref q15, .ref q16, .ref q17, .int S2.2.1.2.2.2.2])), (q14, .inl (cZ, 40, .inl S2.2.1.1)), (q15, .inl (cI, 40, .inl S2.2.1.2.1)), (q16, .inl (cI, 40, .inl S2.2.1.2.2.1)), (q17, .inl (cI, 40, .inl S2.2.1.2.2.2.1))] from rfl).trans rfl
theorem hC_B_undo_10 (cI cZ cQ : ClassId) (q0 q1 q2 q3 q4 q5 q6 q7 q8 q9 q10 q11 q12 q13 q14 q15 q16 q17 : Nat) (S0 : (Nat → Option Nat)) (S1 : cL) (S2 : cP) : ([0, 1, 2, 3, 4, 5, 6, 7, 8, 9, 10] : List Nat).map (fun i => (wB cI cZ cQ q0 q1 q2 S0 ++ wL cI cZ q2 q3 q4 q5 q6 q7 q8 q9 q10 S1 ++ wP cI cZ q11 q12 q13 q14 q15 q16 q17 S2 : va_W)[i]?) = (wB cI cZ cQ q0 q1 q2 S0 ++ wL cI cZ q2 q3 q4 q5 q6 q7 q8 q9 q10 S1 : va_W).map some := rfl
theorem hF_B_isRow (cI cZ cQ : ClassId) {b0 b1 u0 u1 u2 u3 u4 u5 u6 u7 u8 : Nat} (S0 R0 : (Nat → Option Nat)) (S1 R1 : cL) : (wB cI cZ cQ b0 b1 u0 R0 ++ wL cI cZ u0 u1 u2 u3 u4 u5 u6 u7 u8 R1 : va_W).map Prod.fst = (wB cI cZ cQ b0 b1 u0 S0 ++ wL cI cZ u0 u1 u2 u3 u4 u5 u6 u7 u8 S1 : va_W).map Prod.fst := rfl
theorem hU_B_undo_10 (cI cZ cQ : ClassId) (q0 q1 q2 q3 q4 q5 q6 q7 q8 q9 q10 q11 q12 q13 q14 q15 q16 q17 : Nat) (S0 : (Nat → Option Nat)) (S1 : cL) (S2 : cP)  : vz_put (wB cI cZ cQ q0 q1 q2 S0 ++ wL cI cZ q2 q3 q4 q5 q6 q7 q8 q9 q10 S1 ++ wP cI cZ q11 q12 q13 q14 q15 q16 q17 S2 : va_W) [0, 1, 2, 3, 4, 5, 6, 7, 8, 9, 10] (wB cI cZ cQ q0 q1 q2 S0 ++ wL cI cZ q2 q3 q4 q5 q6 q7 q8 q9 q10 S1 : va_W) = wB cI cZ cQ q0 q1 q2 S0 ++ wL cI cZ q2 q3 q4 q5 q6 q7 q8 q9 q10 S1 ++ wP cI cZ q11 q12 q13 q14 q15 q16 q17 S2 := (show vz_put ([(q0, .inr (3, [.ref q2, .ref q1])), (q1, .inl (cQ, 4, .inr (.inr (.inr (.inr S0))))), (q2, .inr (1, [.ref q3, .ref q4, .ref q5, .ref q6, .ref q7, .ref q8, .ref q9, .ref q10, .int S1.2.2.2.2.2.2.2.2.1, .int S1.2.2.2.2.2.2.2.2.2])), (q3, .inl (cI, 301, .inl S1.1)), (q4, .inl (cI, 301, .inl S1.2.1)), (q5, .inl (cI, 301, .inl S1.2.2.1)), (q6, .inl (cI, 301, .inl S1.2.2.2.1)), (q7, .inl (cI, 301, .inl S1.2.2.2.2.1)), (q8, .inl (cI, 301, .inl S1.2.2.2.2.2.1)), (q9, .inl (cI, 301, .inl S1.2.2.2.2.2.2.1)), (q10, .inl (cI, 300, .inl S1.2.2.2.2.2.2.2.1)), (q11, .inr (2, [.ref q12, .ref q13, .int S2.2.2.1, .int S2.2.2.2.1, .int S2.2.2.2.2])), (q12, .inl (cI, 301, .inl S2.1)), (q13, .inr (0, [.ref q14, .ref q15, .ref q16, .ref q17, .int S2.2.1.2.2.2.2])), (q14, .inl (cZ, 40, .inl S2.2.1.1)), (q15, .inl (cI, 40, .inl S2.2.1.2.1)), (q16, .inl (cI, 40, .inl S2.2.1.2.2.1)), (q17, .inl (cI, 40, .inl S2.2.1.2.2.2.1))] : va_W) [0, 1, 2, 3, 4, 5, 6, 7, 8, 9, 10] ([(q0, .inr (3, [.ref q2, .ref q1])), (q1, .inl (cQ, 4, .inr (.inr (.inr (.inr S0))))), (q2, .inr (1, [.ref q3, .ref q4, .ref q5, .ref q6, .ref q7, .ref q8, .ref q9, .ref q10, .int S1.2.2.2.2.2.2.2.2.1, .int S1.2.2.2.2.2.2.2.2.2])), (q3, .inl (cI, 301, .inl S1.1)), (q4, .inl (cI, 301, .inl S1.2.1)), (q5, .inl (cI, 301, .inl S1.2.2.1)), (q6, .inl (cI, 301, .inl S1.2.2.2.1)), (q7, .inl (cI, 301, .inl S1.2.2.2.2.1)), (q8, .inl (cI, 301, .inl S1.2.2.2.2.2.1)), (q9, .inl (cI, 301, .inl S1.2.2.2.2.2.2.1)), (q10, .inl (cI, 300, .inl S1.2.2.2.2.2.2.2.1))] : va_W) = [(q0, .inr (3, [.ref q2, .ref q1])), (q1, .inl (cQ, 4, .inr (.inr (.inr (.inr S0))))), (q2, .inr (1, [.ref q3, .ref q4, .ref q5, .ref q6, .ref q7, .ref q8, .ref q9, .ref q10, .int S1.2.2.2.2.2.2.2.2.1, .int S1.2.2.2.2.2.2.2.2.2])), (q3, .inl (cI, 301, .inl S1.1)), (q4, .inl (cI, 301, .inl S1.2.1)), (q5, .inl (cI, 301, .inl S1.2.2.1)), (q6, .inl (cI, 301, .inl S1.2.2.2.1)), (q7, .inl (cI, 301, .inl S1.2.2.2.2.1)), (q8, .inl (cI, 301, .inl S1.2.2.2.2.2.1)), (q9, .inl (cI, 301, .inl S1.2.2.2.2.2.2.1)), (q10, .inl (cI, 300, .inl S1.2.2.2.2.2.2.2.1)), (q11, .inr (2, [.ref q12, .ref q13, .int S2.2.2.1, .int S2.2.2.2.1, .int S2.2.2.2.2])), (q12, .inl (cI, 301, .inl S2.1)), (q13, .inr (0, [.ref q14, .ref q15, .ref q16, .ref q17, .int S2.2.1.2.2.2.2])), (q14, .inl (cZ, 40, .inl S2.2.1.1)), (q15, .inl (cI, 40, .inl S2.2.1.2.1)), (q16, .inl (cI, 40, .inl S2.2.1.2.2.1)), (q17, .inl (cI, 40, .inl S2.2.1.2.2.2.1))] from rfl).trans rfl
theorem hC_B_undo_22 (cI cZ cQ : ClassId) (q0 q1 q2 q3 q4 q5 q6 q7 q8 q9 q10 q11 q12 q13 q14 q15 q16 q17 : Nat) (S0 : (Nat → Option Nat)) (S1 : cL) (S2 : cP) : ([2, 3, 4, 5, 6, 7, 8, 9, 10] : List Nat).map (fun i => (wB cI cZ cQ q0 q1 q2 S0 ++ wL cI cZ q2 q3 q4 q5 q6 q7 q8 q9 q10 S1 ++ wP cI cZ q11 q12 q13 q14 q15 q16 q17 S2 : va_W)[i]?) = (wL cI cZ q2 q3 q4 q5 q6 q7 q8 q9 q10 S1 : va_W).map some := rfl
theorem hF_L_mayBeUndoneBy (cI cZ cQ : ClassId) {u0 u1 u2 u3 u4 u5 u6 u7 u8 : Nat} (S0 R0 : cL) : (wL cI cZ u0 u1 u2 u3 u4 u5 u6 u7 u8 R0 : va_W).map Prod.fst = (wL cI cZ u0 u1 u2 u3 u4 u5 u6 u7 u8 S0 : va_W).map Prod.fst := rfl
theorem hU_B_undo_22 (cI cZ cQ : ClassId) (q0 q1 q2 q3 q4 q5 q6 q7 q8 q9 q10 q11 q12 q13 q14 q15 q16 q17 : Nat) (S0 : (Nat → Option Nat)) (S1 : cL) (S2 : cP)  : vz_put (wB cI cZ cQ q0 q1 q2 S0 ++ wL cI cZ q2 q3 q4 q5 q6 q7 q8 q9 q10 S1 ++ wP cI cZ q11 q12 q13 q14 q15 q16 q17 S2 : va_W) [2, 3, 4, 5, 6, 7, 8, 9, 10] (wL cI cZ q2 q3 q4 q5 q6 q7 q8 q9 q10 S1 : va_W) = wB cI cZ cQ q0 q1 q2 S0 ++ wL cI cZ q2 q3 q4 q5 q6 q7 q8 q9 q10 S1 ++ wP cI cZ q11 q12 q13 q14 q15 q16 q17 S2 := (show vz_put ([(q0, .inr (3, [.ref q2, .ref q1])), (q1, .inl (cQ, 4, .inr (.inr (.inr (.inr S0))))), (q2, .inr (1, [.ref q3, .ref q4, .ref q5, .ref q6, .ref q7, .ref q8, .ref q9, .ref q10, .int S1.2.2.2.2.2.2.2.2.1, .int S1.2.2.2.2.2.2.2.2.2])), (q3, .inl (cI, 301, .inl S1.1)), (q4, .inl (cI, 301, .inl S1.2.1)), (q5, .inl (cI, 301, .inl S1.2.2.1)), (q6, .inl (cI, 301, .inl S1.2.2.2.1)), (q7, .inl (cI, 301, .inl S1.2.2.2.2.1)), (q8, .inl (cI, 301, .inl S1.2.2.2.2.2.1)), (q9, .inl (cI, 301, .inl S1.2.2.2.2.2.2.1)), (q10, .inl (cI, 300, .inl S1.2.2.2.2.2.2.2.1)), (q11, .inr (2, [.ref q12, .ref q13, .int S2.2.2.1, .int S2.2.2.2.1, .int S2.2.2.2.2])), (q12, .inl (cI, 301, .inl S2.1)), (q13, .inr (0, [.ref q14, .ref q15, .ref q16, .ref q17, .int S2.2.1.2.2.2.2])), (q14, .inl (cZ, 40, .inl S2.2.1.1)), (q15, .inl (cI, 40, .inl S2.2.1.2.1)), (q16, .inl (cI, 40, .inl S2.2.1.2.2.1)), (q17, .inl (cI, 40, .inl S2.2.1.2.2.2.1))] : va_W) [2, 3, 4, 5, 6, 7, 8, 9, 10] ([(q2, .inr (1, [.ref q3, .ref q4, .ref q5, .ref q6, .ref q7, .ref q8, .ref q9, .ref q10, .int S1.2.2.2.2.2.2.2.2.1, .int S1.2.2.2.2.2.2.2.2.2])), (q3, .inl (cI, 301, .inl S1.1)), (q4, .inl (cI, 301, .inl S1.2.1)), (q5, .inl (cI, 301, .inl S1.2.2.1)), (q6, .inl (cI, 301, .inl S1.2.2.2.1)), (q7, .inl (cI, 301, .inl S1.2.2.2.2.1)), (q8, .inl (cI, 301, .inl S1.2.2.2.2.2.1)), (q9, .inl (cI, 301, .inl S1.2.2.2.2.2.2.1)), (q10, .inl (cI, 300, .inl S1.2.2.2.2.2.2.2.1))] : va_W) = [(q0, .inr (3, [.ref q2, .ref q1])), (q1, .inl (cQ, 4, .inr (.inr (.inr (.inr S0))))), (q2, .inr (1, [.ref q3, .ref q4, .ref q5, .ref q6, .ref q7, .ref q8, .ref q9, .ref q10, .int S1.2.2.2.2.2.2.2.2.1, .int S1.2.2.2.2.2.2.2.2.2])), (q3, .inl (cI, 301, .inl S1.1)), (q4, .inl (cI, 301, .inl S1.2.1)), (q5, .inl (cI, 301, .inl S1.2.2.1)), (q6, .inl (cI, 301, .inl S1.2.2.2.1)), (q7, .inl (cI, 301, .inl S1.2.2.2.2.1)), (q8, .inl (cI, 301, .inl S1.2.2.2.2.2.1)), (q9, .inl (cI, 301, .inl S1.2.2.2.2.2.2.1)), (q10, .inl (cI, 300, .inl S1.2.2.2.2.2.2.2.1)), (q11, .inr (2, [.ref q12, .ref q13, .int S2.2.2.1, .int S2.2.2.2.1, .int S2.2.2.2.2])), (q12, .inl (cI, 301, .inl S2.1)), (q13, .inr (0, [.ref q14, .ref q15, .ref q16, .ref q17, .int S2.2.1.2.2.2.2])), (q14, .inl (cZ, 40, .inl S2.2.1.1)), (q15, .inl (cI, 40, .inl S2.2.1.2.1)), (q16, .inl (cI, 40, .inl S2.2.1.2.2.1)), (q17, .inl (cI, 40, .inl S2.2.1.2.2.2.1))] from rfl).trans rfl
theorem hC_B_undo_52 (cI cZ cQ : ClassId) (q0 q1 q2 q3 q4 q5 q6 q7 q8 q9 q10 q11 q12 q13 q14 q15 q16 q17 : Nat) (S0 : (Nat → Option Nat)) (S1 : cL) (S2 : cP) : ([2, 3, 4, 5, 6, 7, 8, 9, 10] : List Nat).map (fun i => (wB cI cZ cQ q0 q1 q2 S0 ++ wL cI cZ q2 q3 q4 q5 q6 q7 q8 q9 q10 S1 ++ wP cI cZ q11 q12 q13 q14 q15 q16 q17 S2 : va_W)[i]?) = (wL cI cZ q2 q3 q4 q5 q6 q7 q8 q9 q10 S1 : va_W).map some := rfl
theorem hU_B_undo_52 (cI cZ cQ : ClassId) (q0 q1 q2 q3 q4 q5 q6 q7 q8 q9 q10 q11 q12 q13 q14 q15 q16 q17 : Nat) (S0 : (Nat → Option Nat)) (S1 : cL) (S2 : cP) (R0 : cL) : vz_put (wB cI cZ cQ q0 q1 q2 S0 ++ wL cI cZ q2 q3 q4 q5 q6 q7 q8 q9 q10 S1 ++ wP cI cZ q11 q12 q13 q14 q15 q16 q17 S2 : va_W) [2, 3, 4, 5, 6, 7, 8, 9, 10] (wL cI cZ q2 q3 q4 q5 q6 q7 q8 q9 q10 R0 : va_W) = wB cI cZ cQ q0 q1 q2 S0 ++ wL cI cZ q2 q3 q4 q5 q6 q7 q8 q9 q10 R0 ++ wP cI cZ q11 q12 q13 q14 q15 q16 q17 S2 := (show vz_put ([(q0, .inr (3, [.ref q2, .ref q1])), (q1, .inl (cQ, 4, .inr (.inr (.inr (.inr S0))))), (q2, .inr (1, [.ref q3, .ref q4, .ref q5, .ref q6, .ref q7, .ref q8, .ref q9, .ref q10, .int S1.2.2.2.2.2.2.2.2.1, .int S1.2.2.2.2.2.2.2.2.2])), (q3, .inl (cI, 301, .inl S1.1)), (q4, .inl (cI, 301, .inl S1.2.1)), (q5, .inl (cI, 301, .inl S1.2.2.1)), (q6, .inl (cI, 301, .inl S1.2.2.2.1)), (q7, .inl (cI, 301, .inl S1.2.2.2.2.1)), (q8, .inl (cI, 301, .inl S1.2.2.2.2.2.1)), (q9, .inl (cI, 301, .inl S1.2.2.2.2.2.2.1)), (q10, .inl (cI, 300, .inl S1.2.2.2.2.2.2.2.1)), (q11, .inr (2, [.ref q12, .ref q13, .int S2.2.2.1, .int S2.2.2.2.1, .int S2.2.2.2.2])), (q12, .inl (cI, 301, .inl S2.1)), (q13, .inr (0, [.ref q14, .ref q15, .ref q16, .ref q17, .int S2.2.1.2.2.2.2])), (q14, .inl (cZ, 40, .inl S2.2.1.1)), (q15, .inl (cI, 40, .inl S2.2.1.2.1)), (q16, .inl (cI, 40, .inl S2.2.1.2.2.1)), (q17, .inl (cI, 40, .inl S2.2.1.2.2.2.1))] : va_W) [2, 3, 4, 5, 6, 7, 8, 9, 10] ([(q2, .inr (1, [.ref q3, .ref q4, .ref q5, .ref q6, .ref q7, .ref q8, .ref q9, .ref q10, .int R0.2.2.2.2.2.2.2.2.1, .int R0.2.2.2.2.2.2.2.2.2])), (q3, .inl (cI, 301, .inl R0.1)), (q4, .inl (cI, 301, .inl R0.2.1)), (q5, .inl (cI, 301, .inl R0.2.2.1)), (q6, .inl (cI, 301, .inl R0.2.2.2.1)), (q7, .inl (cI, 301, .inl R0.2.2.2.2.1)), (q8, .inl (cI, 301, .inl R0.2.2.2.2.2.1)), (q9, .inl (cI, 301, .inl R0.2.2.2.2.2.2.1)), (q10, .inl (cI, 300, .inl R0.2.2.2.2.2.2.2.1))] : va_W) = [(q0, .inr (3, [.ref q2, .ref q1])), (q1, .inl (cQ, 4, .inr (.inr (.inr (.inr S0))))), (q2, .inr (1, [.ref q3, .ref q4, .ref q5, .ref q6, .ref q7, .ref q8, .ref q9, .ref q10, .int R0.2.2.2.2.2.2.2.2.1, .int R0.2.2.2.2.2.2.2.2.2])), (q3, .inl (cI, 301, .inl R0.1)), (q4, .inl (cI, 301, .inl R0.2.1)), (q5, .inl (cI, 301, .inl R0.2.2.1)), (q6, .inl (cI, 301, .inl R0.2.2.2.1)), (q7, .inl (cI, 301, .inl R0.2.2.2.2.1)), (q8, .inl (cI, 301, .inl R0.2.2.2.2.2.1)), (q9, .inl (cI, 301, .inl R0.2.2.2.2.2.2.1)), (q10, .inl (cI, 300, .inl R0.2.2.2.2.2.2.2.1)), (q11, .inr (2, [.ref q12, .ref q13, .int S2.2.2.1, .int S2.2.2.2.1, .int S2.2.2.2.2])), (q12, .inl (cI, 301, .inl S2.1)), (q13, .inr (0, [.ref q14, .ref q15, .ref q16, .ref q17, .int S2.2.1.2.2.2.2])), (q14, .inl (cZ, 40, .inl S2.2.1.1)), (q15, .inl (cI, 40, .inl S2.2.1.2.1)), (q16, .inl (cI, 40, .inl S2.2.1.2.2.1)), (q17, .inl (cI, 40, .inl S2.2.1.2.2.2.1))] from rfl).trans rfl
theorem hC_B_undo_55 (cI cZ cQ : ClassId) (q0 q1 q2 q3 q4 q5 q6 q7 q8 q9 q10 q11 q12 q13 q14 q15 q16 q17 : Nat) (S0 : (Nat → Option Nat)) (S1 : cL) (S2 : cP) : ([0, 1, 2, 3, 4, 5, 6, 7, 8, 9, 10, 11, 12, 13, 14, 15, 16, 17] : List Nat).map (fun i => (wB cI cZ cQ q0 q1 q2 S0 ++ wL cI cZ q2 q3 q4 q5 q6 q7 q8 q9 q10 S1 ++ wP cI cZ q11 q12 q13 q14 q15 q16 q17 S2 : va_W)[i]?) = (wB cI cZ cQ q0 q1 q2 S0 ++ wL cI cZ q2 q3 q4 q5 q6 q7 q8 q9 q10 S1 ++ wP cI cZ q11 q12 q13 q14 q15 q16 q17 S2 : va_W).map some := rfl
theorem hU_B_undo_55 (cI cZ cQ : ClassId) (q0 q1 q2 q3 q4 q5 q6 q7 q8 q9 q10 q11 q12 q13 q14 q15 q16 q17 : Nat) (S0 : (Nat → Option Nat)) (S1 : cL) (S2 : cP) (R2 : cP) : vz_put (wB cI cZ cQ q0 q1 q2 S0 ++ wL cI cZ q2 q3 q4 q5 q6 q7 q8 q9 q10 S1 ++ wP cI cZ q11 q12 q13 q14 q15 q16 q17 S2 : va_W) [0, 1, 2, 3, 4, 5, 6, 7, 8, 9, 10, 11, 12, 13, 14, 15, 16, 17] (wB cI cZ cQ q0 q1 q2 S0 ++ wL cI cZ q2 q3 q4 q5 q6 q7 q8 q9 q10 S1 ++ wP cI cZ q11 q12 q13 q14 q15 q16 q17 R2 : va_W) = wB cI cZ cQ q0 q1 q2 S0 ++ wL cI cZ q2 q3 q4 q5 q6 q7 q8 q9 q10 S1 ++ wP cI cZ q11 q12 q13 q14 q15 q16 q17 R2 := (show vz_put ([(q0, .inr (3, [.ref q2, .ref q1])), (q1, .inl (cQ, 4, .inr (.inr (.inr (.inr S0))))), (q2, .inr (1, [.ref q3, .ref q4, .ref q5, .ref q6, .ref q7, .ref q8, .ref q9, .ref q10, .int S1.2.2.2.2.2.2.2.2.1, .int S1.2.2.2.2.2.2.2.2.2])), (q3, .inl (cI, 301, .inl S1.1)), (q4, .inl (cI, 301, .inl S1.2.1)), (q5, .inl (cI, 301, .inl S1.2.2.1)), (q6, .inl (cI, 301, .inl S1.2.2.2.1)), (q7, .inl (cI, 301, .inl S1.2.2.2.2.1)), (q8, .inl (cI, 301, .inl S1.2.2.2.2.2.1)), (q9, .inl (cI, 301, .inl S1.2.2.2.2.2.2.1)), (q10, .inl (cI, 300, .inl S1.2.2.2.2.2.2.2.1)), (q11, .inr (2, [.ref q12, .ref q13, .int S2.2.2.1, .int S2.2.2.2.1, .int S2.2.2.2.2])), (q12, .inl (cI, 301, .inl S2.1)), (q13, .inr (0, [.ref q14, .ref q15, .ref q16, .ref q17, .int S2.2.1.2.2.2.2])), (q14, .inl (cZ, 40, .inl S2.2.1.1)), (q15, .inl (cI, 40, .inl S2.2.1.2.1)), (q16, .inl (cI, 40, .inl S2.2.1.2.2.1)), (q17, .inl (cI, 40, .inl S2.2.1.2.2.2.1))] : va_W) [0, 1, 2, 3, 4, 5, 6, 7, 8, 9, 10, 11, 12, 13, 14, 15, 16, 17] ([(q0, .inr (3, [.ref q2, .ref q1])), (q1, .inl (cQ, 4, .inr (.inr (.inr (.inr S0))))), (q2, .inr (1, [.ref q3, .ref q4, .ref q5, .ref q6, .ref q7, .ref q8, .ref q9, .ref q10, .int S1.2.2.2.2.2.2.2.2.1, .int S1.2.2.2.2.2.2.2.2.2])), (q3, .inl (cI, 301, .inl S1.1)), (q4, .inl (cI, 301, .inl S1.2.1)), (q5, .inl (cI, 301, .inl S1.2.2.1)), (q6, .inl (cI, 301, .inl S1.2.2.2.1)), (q7, .inl (cI, 301, .inl S1.2.2.2.2.1)), (q8, .inl (cI, 301, .inl S1.2.2.2.2.2.1)), (q9, .inl (cI, 301, .inl S1.2.2.2.2.2.2.1)), (q10, .inl (cI, 300, .inl S1.2.2.2.2.2.2.2.1)), (q11, .inr (2, [.ref q12, .ref q13, .int R2.2.2.1, .int R2.2.2.2.1, .int R2.2.2.2.2])), (q12, .inl (cI, 301, .inl R2.1)), (q13, .inr (0, [.ref q14, .ref q15, .ref q16, .ref q17, .int R2.2.1.2.2.2.2])), (q14, .inl (cZ, 40, .inl R2.2.1.1)), (q15, .inl (cI, 40, .inl R2.2.1.2.1)), (q16, .inl (cI, 40, .inl R2.2.1.2.2.1)), (q17, .inl (cI, 40, .inl R2.2.1.2.2.2.1))] : va_W) = [(q0, .inr (3, [.ref q2, .ref q1])), (q1, .inl (cQ, 4, .inr (.inr (.inr (.inr S0))))), (q2, .inr (1, [.ref q3, .ref q4, .ref q5, .ref q6, .ref q7, .ref q8, .ref q9, .ref q10, .int S1.2.2.2.2.2.2.2.2.1, .int S1.2.2.2.2.2.2.2.2.2])), (q3, .inl (cI, 301, .inl S1.1)), (q4, .inl (cI, 301, .inl S1.2.1)), (q5, .inl (cI, 301, .inl S1.2.2.1)), (q6, .inl (cI, 301, .inl S1.2.2.2.1)), (q7, .inl (cI, 301, .inl S1.2.2.2.2.1)), (q8, .inl (cI, 301, .inl S1.2.2.2.2.2.1)), (q9, .inl (cI, 301, .inl S1.2.2.2.2.2.2.1)), (q10, .inl (cI, 300, .inl S1.2.2.2.2.2.2.2.1)), (q11, .inr (2, [.ref q12, .ref q13, .int R2.2.2.1, .int R2.2.2.2.1, .int R2.2.2.2.2])), (q12, .inl (cI, 301, .inl R2.1)), (q13, .inr (0, [.ref q14, .ref q15, .ref q16, .ref q17, .int R2.2.1.2.2.2.2])), (q14, .inl (cZ, 40, .inl R2.2.1.1)), (q15, .inl (cI, 40, .inl R2.2.1.2.1)), (q16, .inl (cI, 40, .inl R2.2.1.2.2.1)), (q17, .inl (cI, 40, .inl R2.2.1.2.2.2.1))] from rfl).trans rfl
def m_B_undo (L : cL) (P : cP) (x1 : Int32) (x2 : Int32) : Int32 × cL × cP := (if (m_B_mayWrite L x1) = 0 then (-1, L, P) else (if (m_B_isRow L x2) = 0 then (-1, L, P) else (if (m_L_mayBeUndoneBy L x1 x2) = 0 then (-1, L, P) else ((m_B_told (m_L_add L 4 x1 (P.2.2.2.1 + 1) x2 (-1) (-1)).2 P x1 (m_L_add L 4 x1 (P.2.2.2.1 + 1) x2 (-1) (-1)).1).1, (m_L_add L 4 x1 (P.2.2.2.1 + 1) x2 (-1) (-1)).2, (m_B_told (m_L_add L 4 x1 (P.2.2.2.1 + 1) x2 (-1) (-1)).2 P x1 (m_L_add L 4 x1 (P.2.2.2.1 + 1) x2 (-1) (-1)).1).2))))
set_option maxHeartbeats 1000000 in
set_option maxRecDepth 100000 in
theorem c_B_undo (l : Launch) (dC : Nat → ClassId) (dI : Nat → Nat → Nat) (cI cZ cQ : ClassId) (b0 : Nat) (b1 : Nat) (F : Nat → Option Nat) (u0 : Nat) (u1 : Nat) (u2 : Nat) (u3 : Nat) (u4 : Nat) (u5 : Nat) (u6 : Nat) (u7 : Nat) (u8 : Nat) (L : cL) (p0 : Nat) (p1 : Nat) (h0 : Nat) (a1 : Nat) (a2 : Nat) (a3 : Nat) (a4 : Nat) (P : cP) (x1 : Int32) (x2 : Int32) (hF : 0 ≤ x1.toInt → x1.toInt < 4 → F x1.toNatClampNeg = some p0) (hL : okL L) (hA : (0 ≤ x1.toInt ∧ x1.toInt < 4) → L.2.2.2.2.2.2.2.2.1.toInt < 300 → (1 ≤ x2.toInt ∧ x2.toInt ≤ L.2.2.2.2.2.2.2.2.1.toInt) → (¬ m_L_mayBeUndoneBy L x1 x2 = 0) → okTold (m_L_add L 4 x1 (P.2.2.2.1 + 1) x2 (-1) (-1)).2 P (m_L_add L 4 x1 (P.2.2.2.1 + 1) x2 (-1) (-1)).1) : vz_C l (dC, dI) classes [(cI, .int), (cZ, .boolean), (cQ, .object "BinTrees$Person")] y_B_undo (Cond.code y_B_undo b_B_undo 3 (some .int) :: vz_tbl) ({ frames := 6, cells := 0, slots := 0, locals := 141 }) [.ref b0, .int x1, .int x2] (wB cI cZ cQ b0 b1 u0 F ++ wL cI cZ u0 u1 u2 u3 u4 u5 u6 u7 u8 L ++ wP cI cZ p0 p1 h0 a1 a2 a3 a4 P) (some (.int ((m_B_undo L P x1 x2).1))) (wB cI cZ cQ b0 b1 u0 F ++ wL cI cZ u0 u1 u2 u3 u4 u5 u6 u7 u8 ((m_B_undo L P x1 x2).2.1) ++ wP cI cZ p0 p1 h0 a1 a2 a3 a4 ((m_B_undo L P x1 x2).2.2)) := by
  generalize hres : (m_B_undo L P x1 x2) = RES
  refine vz_C.of (by decide) (Nat.le_of_ble_eq_true rfl) ?_
  intro p e s m below meth c ls E hl hK hP hD hS
  obtain ⟨hx, hb, hr, hml, hown, hT, hlocks⟩ := E
  obtain ⟨Q, hQ⟩ : ∃ Q, Q = MQ below (vz_Q (dC, dI) classes (wB cI cZ cQ b0 b1 u0 F ++ wL cI cZ u0 u1 u2 u3 u4 u5 u6 u7 u8 L ++ wP cI cZ p0 p1 h0 a1 a2 a3 a4 P) (some (.int RES.1)) (wB cI cZ cQ b0 b1 u0 F ++ wL cI cZ u0 u1 u2 u3 u4 u5 u6 u7 u8 RES.2.1 ++ wP cI cZ p0 p1 h0 a1 a2 a3 a4 RES.2.2)) ([.ref b0, .int x1, .int x2] : List Value).toArray s 0 0 (vz_A (wB cI cZ cQ b0 b1 u0 F ++ wL cI cZ u0 u1 u2 u3 u4 u5 u6 u7 u8 L ++ wP cI cZ p0 p1 h0 a1 a2 a3 a4 P)) := ⟨_, rfl⟩
  rw [← hQ]
  have hl : lv_has ls 3 [(0, .ref b0), (1, .int x1), (2, .int x2)] := hl
  have T0 := ti_0
  have T1 := ti_1
  have Tm := ti_m1
  have T8 := ti_8
  have T39 := ti_39
  have T40 := ti_40
  have T4 := ti_4
  have T300 := ti_300
  have hS0 := hS
  refine lv_aload_n hx hb d_B_undo_0 rfl (lv_at hl 0 rfl) ?_
  refine lv_iload_n hx hb d_B_undo_1 rfl (lv_at hl 1 rfl) ?_
  have hc := c_B_mayWrite l dC dI cI cZ cQ b0 b1 F u0 u1 u2 u3 u4 u5 u6 u7 u8 L x1 
  generalize hg_2 : (m_B_mayWrite L x1) = g_2 at hc
  refine vz_callV (As := [.int x1]) (rest := []) ⟨hx, hb, hml, hown, hT⟩ hc (vz_goodV kw_143 kw_145 ks_0 kw_1 kw_146) ⟨rfl, hd_B_mayWrite⟩ ⟨⟨rfl, rfl⟩, Nat.le_of_ble_eq_true rfl, Nat.le_of_ble_eq_true rfl⟩ hK hP hD hS [0, 1, 2, 3, 4, 5, 6, 7, 8, 9, 10] rfl (hC_B_undo_2 cI cZ cQ b0 b1 u0 u1 u2 u3 u4 u5 u6 u7 u8 p0 p1 h0 a1 a2 a3 a4 F L P) (hF_B_mayWrite cI cZ cQ _ _ _ _) 0 3 rfl rfl rfl rfl hl.1 rfl (Nat.le_of_ble_eq_true rfl) ⟨Nat.zero_le _, Nat.zero_le _⟩ d_B_undo_2 (fun H locs hP hD hS => ?_)
  have hP : va_P (dC, dI) classes (wB cI cZ cQ b0 b1 u0 F ++ wL cI cZ u0 u1 u2 u3 u4 u5 u6 u7 u8 L ++ wP cI cZ p0 p1 h0 a1 a2 a3 a4 P) H := vz_reP (hU_B_undo_2 cI cZ cQ b0 b1 u0 u1 u2 u3 u4 u5 u6 u7 u8 p0 p1 h0 a1 a2 a3 a4 F L P ) hP
  have hD : va_D (vz_A (wB cI cZ cQ b0 b1 u0 F ++ wL cI cZ u0 u1 u2 u3 u4 u5 u6 u7 u8 L ++ wP cI cZ p0 p1 h0 a1 a2 a3 a4 P)) (wB cI cZ cQ b0 b1 u0 F ++ wL cI cZ u0 u1 u2 u3 u4 u5 u6 u7 u8 L ++ wP cI cZ p0 p1 h0 a1 a2 a3 a4 P) := vz_reD (hU_B_undo_2 cI cZ cQ b0 b1 u0 u1 u2 u3 u4 u5 u6 u7 u8 p0 p1 h0 a1 a2 a3 a4 F L P ) hD
  refine W.eq (g2 := F0 m 5 ls [.int g_2]) rfl ?_
  refine lv_if_eq (tgt := 28) hx hb d_B_undo_5 (by decide) (fun c_5 => ?_) (fun c_5 => ?_)
  · have z_5 := congrArg Int32.toInt c_5
    refine lv_iconst (v := -1) hx hb d_B_undo_28 (by decide) ?_
    rw [m_B_undo] at hres
    try rw [hg_2] at hres
    rw [if_pos c_5] at hres
    subst hres
    subst hQ
    exact vz_iret hx hb hr hlocks d_B_undo_29 hS rfl hP
  · have z_5 := mt Int32.toInt_inj.mp c_5
    refine lv_aload_n hx hb d_B_undo_8 rfl (lv_at hl 0 rfl) ?_
    refine lv_iload_n hx hb d_B_undo_9 rfl (lv_at hl 2 rfl) ?_
    have hc := c_B_isRow l dC dI cI cZ cQ b0 b1 F u0 u1 u2 u3 u4 u5 u6 u7 u8 L x2 
    generalize hg_10 : (m_B_isRow L x2) = g_10 at hc
    refine vz_callV (As := [.int x2]) (rest := []) ⟨hx, hb, hml, hown, hT⟩ hc (vz_goodV kw_247 kw_249 ks_11 kw_1 kw_250) ⟨rfl, hd_B_isRow⟩ ⟨⟨rfl, rfl⟩, Nat.le_of_ble_eq_true rfl, Nat.le_of_ble_eq_true rfl⟩ hK hP hD hS [0, 1, 2, 3, 4, 5, 6, 7, 8, 9, 10] rfl (hC_B_undo_10 cI cZ cQ b0 b1 u0 u1 u2 u3 u4 u5 u6 u7 u8 p0 p1 h0 a1 a2 a3 a4 F L P) (hF_B_isRow cI cZ cQ _ _ _ _) 0 3 rfl rfl rfl rfl hl.1 rfl (Nat.le_of_ble_eq_true rfl) ⟨Nat.zero_le _, Nat.zero_le _⟩ d_B_undo_10 (fun H locs hP hD hS => ?_)
    have hP : va_P (dC, dI) classes (wB cI cZ cQ b0 b1 u0 F ++ wL cI cZ u0 u1 u2 u3 u4 u5 u6 u7 u8 L ++ wP cI cZ p0 p1 h0 a1 a2 a3 a4 P) H := vz_reP (hU_B_undo_10 cI cZ cQ b0 b1 u0 u1 u2 u3 u4 u5 u6 u7 u8 p0 p1 h0 a1 a2 a3 a4 F L P ) hP
    have hD : va_D (vz_A (wB cI cZ cQ b0 b1 u0 F ++ wL cI cZ u0 u1 u2 u3 u4 u5 u6 u7 u8 L ++ wP cI cZ p0 p1 h0 a1 a2 a3 a4 P)) (wB cI cZ cQ b0 b1 u0 F ++ wL cI cZ u0 u1 u2 u3 u4 u5 u6 u7 u8 L ++ wP cI cZ p0 p1 h0 a1 a2 a3 a4 P) := vz_reD (hU_B_undo_10 cI cZ cQ b0 b1 u0 u1 u2 u3 u4 u5 u6 u7 u8 p0 p1 h0 a1 a2 a3 a4 F L P ) hD
    refine W.eq (g2 := F0 m 13 ls [.int g_10]) rfl ?_
    refine lv_if_eq (tgt := 28) hx hb d_B_undo_13 (by decide) (fun c_13 => ?_) (fun c_13 => ?_)
    · have z_13 := congrArg Int32.toInt c_13
      refine lv_iconst (v := -1) hx hb d_B_undo_28 (by decide) ?_
      rw [m_B_undo] at hres
      try rw [hg_2] at hres
      rw [if_neg c_5] at hres
      try rw [hg_10] at hres
      rw [if_pos c_13] at hres
      subst hres
      subst hQ
      exact vz_iret hx hb hr hlocks d_B_undo_29 hS rfl hP
    · have z_13 := mt Int32.toInt_inj.mp c_13
      refine lv_aload_n hx hb d_B_undo_16 rfl (lv_at hl 0 rfl) ?_
      refine va_get (D := (dC, dI)) (ci := 3) (v := .ref u0) (C := R_B) (T := F_B) (N := 2) hx hb hT i_B hown hK hP 0 rfl rfl 0 (by decide) (hT _ kw_132) (fun _ h9 => h9) rfl d_B_undo_17 ?_
      refine lv_iload_n hx hb d_B_undo_20 rfl (lv_at hl 1 rfl) ?_
      refine lv_iload_n hx hb d_B_undo_21 rfl (lv_at hl 2 rfl) ?_
      have hc := c_L_mayBeUndoneBy l dC dI cI cZ cQ u0 u1 u2 u3 u4 u5 u6 u7 u8 L x1 x2 (by have hr1 := isr_t (L := L) (x1 := x2) (by rw [hg_10]; assumption); have hl1 := hL.1; omega)
      generalize hg_22 : (m_L_mayBeUndoneBy L x1 x2) = g_22 at hc
      refine vz_callV (As := [.int x1, .int x2]) (rest := []) ⟨hx, hb, hml, hown, hT⟩ hc (vz_goodV kw_251 kw_252 kw_253 kw_2 kw_254) ⟨rfl, hd_L_mayBeUndoneBy⟩ ⟨⟨rfl, rfl⟩, Nat.le_of_ble_eq_true rfl, Nat.le_of_ble_eq_true rfl⟩ hK hP hD hS [2, 3, 4, 5, 6, 7, 8, 9, 10] rfl (hC_B_undo_22 cI cZ cQ b0 b1 u0 u1 u2 u3 u4 u5 u6 u7 u8 p0 p1 h0 a1 a2 a3 a4 F L P) (hF_L_mayBeUndoneBy cI cZ cQ _ _) 0 1 rfl rfl rfl rfl hl.1 rfl (Nat.le_of_ble_eq_true rfl) ⟨Nat.zero_le _, Nat.zero_le _⟩ d_B_undo_22 (fun H locs hP hD hS => ?_)
      have hP : va_P (dC, dI) classes (wB cI cZ cQ b0 b1 u0 F ++ wL cI cZ u0 u1 u2 u3 u4 u5 u6 u7 u8 L ++ wP cI cZ p0 p1 h0 a1 a2 a3 a4 P) H := vz_reP (hU_B_undo_22 cI cZ cQ b0 b1 u0 u1 u2 u3 u4 u5 u6 u7 u8 p0 p1 h0 a1 a2 a3 a4 F L P ) hP
      have hD : va_D (vz_A (wB cI cZ cQ b0 b1 u0 F ++ wL cI cZ u0 u1 u2 u3 u4 u5 u6 u7 u8 L ++ wP cI cZ p0 p1 h0 a1 a2 a3 a4 P)) (wB cI cZ cQ b0 b1 u0 F ++ wL cI cZ u0 u1 u2 u3 u4 u5 u6 u7 u8 L ++ wP cI cZ p0 p1 h0 a1 a2 a3 a4 P) := vz_reD (hU_B_undo_22 cI cZ cQ b0 b1 u0 u1 u2 u3 u4 u5 u6 u7 u8 p0 p1 h0 a1 a2 a3 a4 F L P ) hD
      refine W.eq (g2 := F0 m 25 ls [.int g_22]) rfl ?_
      refine lv_if_ne (tgt := 30) hx hb d_B_undo_25 (by decide) (fun c_25 => ?_) (fun c_25 => ?_)
      · have z_25 := mt Int32.toInt_inj.mp c_25
        refine lv_aload_n hx hb d_B_undo_30 rfl (lv_at hl 0 rfl) ?_
        refine lv_iload_n hx hb d_B_undo_31 rfl (lv_at hl 1 rfl) ?_
        refine lv_aload_n hx hb d_B_undo_32 rfl (lv_at hl 0 rfl) ?_
        refine va_get (D := (dC, dI)) (ci := 3) (v := .ref u0) (C := R_B) (T := F_B) (N := 2) hx hb hT i_B hown hK hP 0 rfl rfl 0 (by decide) (hT _ kw_132) (fun _ h9 => h9) rfl d_B_undo_33 ?_
        refine lv_iconst (v := 4) hx hb d_B_undo_36 (by decide) ?_
        refine lv_iload_n hx hb d_B_undo_37 rfl (lv_at hl 1 rfl) ?_
        refine lv_aload_n hx hb d_B_undo_38 rfl (lv_at hl 0 rfl) ?_
        refine va_get (D := (dC, dI)) (ci := 3) (v := .ref b1) (C := R_B) (T := F_B) (N := 2) hx hb hT i_B hown hK hP 0 rfl rfl 1 (by decide) (hT _ kw_133) (fun _ h9 => h9) rfl d_B_undo_39 ?_
        refine lv_iload_n hx hb d_B_undo_42 rfl (lv_at hl 1 rfl) ?_
        refine va_aldq hx hb hK hP 1 2 rfl rfl (by have hn := mw_t (L := L) (x1 := x1) (by rw [hg_2]; assumption); exact ti_vp (by omega) (by omega)) d_B_undo_43 ?_
        rw [show va_rf (F x1.toNatClampNeg) = .ref p0 from by have hn := mw_t (L := L) (x1 := x1) (by rw [hg_2]; assumption); rw [hF hn.1.1 hn.1.2]; rfl]
        refine va_get (D := (dC, dI)) (ci := 2) (v := .int P.2.2.2.1) (C := R_P) (T := F_P) (N := 5) hx hb hT i_P hown hK hP 11 rfl rfl 3 (by decide) (hT _ kw_117) (fun _ h9 => h9) rfl d_B_undo_44 ?_
        refine lv_iconst (v := 1) hx hb d_B_undo_47 (by decide) ?_
        refine lv_iadd hx hb d_B_undo_48 ?_
        refine lv_iload_n hx hb d_B_undo_49 rfl (lv_at hl 2 rfl) ?_
        refine lv_iconst (v := -1) hx hb d_B_undo_50 (by decide) ?_
        refine lv_iconst (v := -1) hx hb d_B_undo_51 (by decide) ?_
        have hc := c_L_add l dC dI cI cZ cQ u0 u1 u2 u3 u4 u5 u6 u7 u8 L 4 x1 (P.2.2.2.1 + 1) x2 (-1) (-1) (by have hn := mw_t (L := L) (x1 := x1) (by rw [hg_2]; assumption); have hl1 := hL.1; (try dsimp only); omega) (hL.2.1) (by intro _; have hr1 := isr_t (L := L) (x1 := x2) (by rw [hg_10]; assumption); have hl1 := hL.1; omega)
        generalize hg_52 : (m_L_add L 4 x1 (P.2.2.2.1 + 1) x2 (-1) (-1)) = g_52 at hc
        refine vz_callV (As := [.int 4, .int x1, .int (P.2.2.2.1 + 1), .int x2, .int (-1), .int (-1)]) (rest := [.int x1, .ref b0]) ⟨hx, hb, hml, hown, hT⟩ hc (vz_goodV kw_150 kw_151 kw_152 kw_2 kw_153) ⟨rfl, hd_L_add⟩ ⟨⟨rfl, rfl⟩, Nat.le_of_ble_eq_true rfl, Nat.le_of_ble_eq_true rfl⟩ hK hP hD hS [2, 3, 4, 5, 6, 7, 8, 9, 10] rfl (hC_B_undo_52 cI cZ cQ b0 b1 u0 u1 u2 u3 u4 u5 u6 u7 u8 p0 p1 h0 a1 a2 a3 a4 F L P) (hF_L_add cI cZ cQ _ _) 0 1 rfl rfl rfl rfl hl.1 rfl (Nat.le_of_ble_eq_true rfl) ⟨Nat.zero_le _, Nat.zero_le _⟩ d_B_undo_52 (fun H locs hP hD hS => ?_)
        have hP : va_P (dC, dI) classes (wB cI cZ cQ b0 b1 u0 F ++ wL cI cZ u0 u1 u2 u3 u4 u5 u6 u7 u8 g_52.2 ++ wP cI cZ p0 p1 h0 a1 a2 a3 a4 P) H := vz_reP (hU_B_undo_52 cI cZ cQ b0 b1 u0 u1 u2 u3 u4 u5 u6 u7 u8 p0 p1 h0 a1 a2 a3 a4 F L P g_52.2) hP
        have hD : va_D (vz_A (wB cI cZ cQ b0 b1 u0 F ++ wL cI cZ u0 u1 u2 u3 u4 u5 u6 u7 u8 L ++ wP cI cZ p0 p1 h0 a1 a2 a3 a4 P)) (wB cI cZ cQ b0 b1 u0 F ++ wL cI cZ u0 u1 u2 u3 u4 u5 u6 u7 u8 g_52.2 ++ wP cI cZ p0 p1 h0 a1 a2 a3 a4 P) := vz_reD (hU_B_undo_52 cI cZ cQ b0 b1 u0 u1 u2 u3 u4 u5 u6 u7 u8 p0 p1 h0 a1 a2 a3 a4 F L P g_52.2) hD
        refine W.eq (g2 := F0 m 55 ls [.int g_52.1, .int x1, .ref b0]) rfl ?_
        have hc := c_B_told l dC dI cI cZ cQ b0 b1 F u0 u1 u2 u3 u4 u5 u6 u7 u8 g_52.2 p0 p1 h0 a1 a2 a3 a4 P x1 g_52.1 (by have hn := mw_t (L := L) (x1 := x1) (by rw [hg_2]; assumption); exact hF hn.1.1 hn.1.2) (by have hn := mw_t (L := L) (x1 := x1) (by rw [hg_2]; assumption); exact hn.1) (by have hn := mw_t (L := L) (x1 := x1) (by rw [hg_2]; assumption); rw [← hg_52]; exact hA hn.1 hn.2 (by have hr1 := isr_t (L := L) (x1 := x2) (by rw [hg_10]; assumption); exact hr1) (by rw [hg_22]; assumption))
        generalize hg_55 : (m_B_told g_52.2 P x1 g_52.1) = g_55 at hc
        refine vz_callV (As := [.int x1, .int g_52.1]) (rest := []) ⟨hx, hb, hml, hown, hT⟩ hc (vz_goodV kw_162 kw_164 ks_3 kw_1 kw_165) ⟨rfl, hd_B_told⟩ ⟨⟨rfl, rfl⟩, Nat.le_of_ble_eq_true rfl, Nat.le_of_ble_eq_true rfl⟩ hK hP hD hS [0, 1, 2, 3, 4, 5, 6, 7, 8, 9, 10, 11, 12, 13, 14, 15, 16, 17] rfl (hC_B_undo_55 cI cZ cQ b0 b1 u0 u1 u2 u3 u4 u5 u6 u7 u8 p0 p1 h0 a1 a2 a3 a4 F g_52.2 P) (hF_B_told cI cZ cQ _ _ _ _ _ _) 0 3 rfl rfl rfl rfl hl.1 rfl (Nat.le_of_ble_eq_true rfl) ⟨Nat.zero_le _, Nat.zero_le _⟩ d_B_undo_55 (fun H locs hP hD hS => ?_)
        have hP : va_P (dC, dI) classes (wB cI cZ cQ b0 b1 u0 F ++ wL cI cZ u0 u1 u2 u3 u4 u5 u6 u7 u8 g_52.2 ++ wP cI cZ p0 p1 h0 a1 a2 a3 a4 g_55.2) H := vz_reP (hU_B_undo_55 cI cZ cQ b0 b1 u0 u1 u2 u3 u4 u5 u6 u7 u8 p0 p1 h0 a1 a2 a3 a4 F g_52.2 P g_55.2) hP
        have hD : va_D (vz_A (wB cI cZ cQ b0 b1 u0 F ++ wL cI cZ u0 u1 u2 u3 u4 u5 u6 u7 u8 L ++ wP cI cZ p0 p1 h0 a1 a2 a3 a4 P)) (wB cI cZ cQ b0 b1 u0 F ++ wL cI cZ u0 u1 u2 u3 u4 u5 u6 u7 u8 g_52.2 ++ wP cI cZ p0 p1 h0 a1 a2 a3 a4 g_55.2) := vz_reD (hU_B_undo_55 cI cZ cQ b0 b1 u0 u1 u2 u3 u4 u5 u6 u7 u8 p0 p1 h0 a1 a2 a3 a4 F g_52.2 P g_55.2) hD
        refine W.eq (g2 := F0 m 58 ls [.int g_55.1]) rfl ?_
        rw [m_B_undo] at hres
        try rw [hg_2] at hres
        rw [if_neg c_5] at hres
        try rw [hg_10] at hres
        rw [if_neg c_13] at hres
        try rw [hg_22] at hres
        rw [if_neg c_25] at hres
        try rw [hg_52] at hres
        try rw [hg_55] at hres
        subst hres
        subst hQ
        exact vz_iret hx hb hr hlocks d_B_undo_58 hS rfl hP
      · have z_25 := congrArg Int32.toInt c_25
        refine lv_iconst (v := -1) hx hb d_B_undo_28 (by decide) ?_
        rw [m_B_undo] at hres
        try rw [hg_2] at hres
        rw [if_neg c_5] at hres
        try rw [hg_10] at hres
        rw [if_neg c_13] at hres
        try rw [hg_22] at hres
        rw [if_pos c_25] at hres
        subst hres
        subst hQ
        exact vz_iret hx hb hr hlocks d_B_undo_29 hS rfl hP
end
section
theorem d_B_see_0 : decode b_B_see 0 = .ok (.iload_n 1, 1) := by decide +kernel
theorem d_B_see_1 : decode b_B_see 1 = .ok (.invokestatic 55, 3) := by decide +kernel
theorem d_B_see_4 : decode b_B_see 4 = .ok (.ifCond .eq 24, 3) := by decide +kernel
theorem d_B_see_7 : decode b_B_see 7 = .ok (.aload_n 0, 1) := by decide +kernel
theorem d_B_see_8 : decode b_B_see 8 = .ok (.iload_n 2, 1) := by decide +kernel
theorem d_B_see_9 : decode b_B_see 9 = .ok (.invokevirtual 48, 3) := by decide +kernel
theorem d_B_see_12 : decode b_B_see 12 = .ok (.ifCond .eq 16, 3) := by decide +kernel
theorem d_B_see_15 : decode b_B_see 15 = .ok (.aload_n 0, 1) := by decide +kernel
theorem d_B_see_16 : decode b_B_see 16 = .ok (.getfield 18, 3) := by decide +kernel
theorem d_B_see_19 : decode b_B_see 19 = .ok (.iload_n 1, 1) := by decide +kernel
theorem d_B_see_20 : decode b_B_see 20 = .ok (.aaload, 1) := by decide +kernel
theorem d_B_see_21 : decode b_B_see 21 = .ok (.iload_n 2, 1) := by decide +kernel
theorem d_B_see_22 : decode b_B_see 22 = .ok (.invokevirtual 58, 3) := by decide +kernel
theorem d_B_see_25 : decode b_B_see 25 = .ok (.ifCond .eq 5, 3) := by decide +kernel
theorem d_B_see_28 : decode b_B_see 28 = .ok (.iconst (-1), 1) := by decide +kernel
theorem d_B_see_29 : decode b_B_see 29 = .ok (.ireturn, 1) := by decide +kernel
theorem d_B_see_30 : decode b_B_see 30 = .ok (.aload_n 0, 1) := by decide +kernel
theorem d_B_see_31 : decode b_B_see 31 = .ok (.iload_n 1, 1) := by decide +kernel
theorem d_B_see_32 : decode b_B_see 32 = .ok (.iload_n 2, 1) := by decide +kernel
theorem d_B_see_33 : decode b_B_see 33 = .ok (.invokevirtual 38, 3) := by decide +kernel
theorem d_B_see_36 : decode b_B_see 36 = .ok (.pop, 1) := by decide +kernel
theorem d_B_see_37 : decode b_B_see 37 = .ok (.aload_n 0, 1) := by decide +kernel
theorem d_B_see_38 : decode b_B_see 38 = .ok (.getfield 18, 3) := by decide +kernel
theorem d_B_see_41 : decode b_B_see 41 = .ok (.iload_n 1, 1) := by decide +kernel
theorem d_B_see_42 : decode b_B_see 42 = .ok (.aaload, 1) := by decide +kernel
theorem d_B_see_43 : decode b_B_see 43 = .ok (.getfield 61, 3) := by decide +kernel
theorem d_B_see_46 : decode b_B_see 46 = .ok (.ireturn, 1) := by decide +kernel
theorem hC_B_see_1 (cI cZ cQ : ClassId) (q0 q1 q2 q3 q4 q5 q6 q7 q8 q9 q10 q11 q12 q13 q14 q15 q16 q17 : Nat) (S0 : (Nat → Option Nat)) (S1 : cL) (S2 : cP) : ([] : List Nat).map (fun i => (wB cI cZ cQ q0 q1 q2 S0 ++ wL cI cZ q2 q3 q4 q5 q6 q7 q8 q9 q10 S1 ++ wP cI cZ q11 q12 q13 q14 q15 q16 q17 S2 : va_W)[i]?) = (([] : va_W) : va_W).map some := rfl
theorem hU_B_see_1 (cI cZ cQ : ClassId) (q0 q1 q2 q3 q4 q5 q6 q7 q8 q9 q10 q11 q12 q13 q14 q15 q16 q17 : Nat) (S0 : (Nat → Option Nat)) (S1 : cL) (S2 : cP)  : vz_put (wB cI cZ cQ q0 q1 q2 S0 ++ wL cI cZ q2 q3 q4 q5 q6 q7 q8 q9 q10 S1 ++ wP cI cZ q11 q12 q13 q14 q15 q16 q17 S2 : va_W) [] (([] : va_W) : va_W) = wB cI cZ cQ q0 q1 q2 S0 ++ wL cI cZ q2 q3 q4 q5 q6 q7 q8 q9 q10 S1 ++ wP cI cZ q11 q12 q13 q14 q15 q16 q17 S2 := (show vz_put ([(q0, .inr (3, [.ref q2, .ref q1])), (q1, .inl (cQ, 4, .inr (.inr (.inr (.inr S0))))), (q2, .inr (1, [.ref q3, .ref q4, .ref q5, .ref q6, .ref q7, .ref q8, .ref q9, .ref q10, .int S1.2.2.2.2.2.2.2.2.1, .int S1.2.2.2.2.2.2.2.2.2])), (q3, .inl (cI, 301, .inl S1.1)), (q4, .inl (cI, 301, .inl S1.2.1)), (q5, .inl (cI, 301, .inl S1.2.2.1)), (q6, .inl (cI, 301, .inl S1.2.2.2.1)), (q7, .inl (cI, 301, .inl S1.2.2.2.2.1)), (q8, .inl (cI, 301, .inl S1.2.2.2.2.2.1)), (q9, .inl (cI, 301, .inl S1.2.2.2.2.2.2.1)), (q10, .inl (cI, 300, .inl S1.2.2.2.2.2.2.2.1)), (q11, .inr (2, [.ref q12, .ref q13, .int S2.2.2.1, .int S2.2.2.2.1, .int S2.2.2.2.2])), (q12, .inl (cI, 301, .inl S2.1)), (q13, .inr (0, [.ref q14, .ref q15, .ref q16, .ref q17, .int S2.2.1.2.2.2.2])), (q14, .inl (cZ, 40, .inl S2.2.1.1)), (q15, .inl (cI, 40, .inl S2.2.1.2.1)), (q16, .inl (cI, 40, .inl S2.2.1.2.2.1)), (q17, .inl (cI, 40, .inl S2.2.1.2.2.2.1))] : va_W) [] ([] : va_W) = [(q0, .inr (3, [.ref q2, .ref q1])), (q1, .inl (cQ, 4, .inr (.inr (.inr (.inr S0))))), (q2, .inr (1, [.ref q3, .ref q4, .ref q5, .ref q6, .ref q7, .ref q8, .ref q9, .ref q10, .int S1.2.2.2.2.2.2.2.2.1, .int S1.2.2.2.2.2.2.2.2.2])), (q3, .inl (cI, 301, .inl S1.1)), (q4, .inl (cI, 301, .inl S1.2.1)), (q5, .inl (cI, 301, .inl S1.2.2.1)), (q6, .inl (cI, 301, .inl S1.2.2.2.1)), (q7, .inl (cI, 301, .inl S1.2.2.2.2.1)), (q8, .inl (cI, 301, .inl S1.2.2.2.2.2.1)), (q9, .inl (cI, 301, .inl S1.2.2.2.2.2.2.1)), (q10, .inl (cI, 300, .inl S1.2.2.2.2.2.2.2.1)), (q11, .inr (2, [.ref q12, .ref q13, .int S2.2.2.1, .int S2.2.2.2.1, .int S2.2.2.2.2])), (q12, .inl (cI, 301, .inl S2.1)), (q13, .inr (0, [.ref q14, .ref q15, .ref q16, .ref q17, .int S2.2.1.2.2.2.2])), (q14, .inl (cZ, 40, .inl S2.2.1.1)), (q15, .inl (cI, 40, .inl S2.2.1.2.1)), (q16, .inl (cI, 40, .inl S2.2.1.2.2.1)), (q17, .inl (cI, 40, .inl S2.2.1.2.2.2.1))] from rfl).trans rfl
theorem hC_B_see_9 (cI cZ cQ : ClassId) (q0 q1 q2 q3 q4 q5 q6 q7 q8 q9 q10 q11 q12 q13 q14 q15 q16 q17 : Nat) (S0 : (Nat → Option Nat)) (S1 : cL) (S2 : cP) : ([0, 1, 2, 3, 4, 5, 6, 7, 8, 9, 10] : List Nat).map (fun i => (wB cI cZ cQ q0 q1 q2 S0 ++ wL cI cZ q2 q3 q4 q5 q6 q7 q8 q9 q10 S1 ++ wP cI cZ q11 q12 q13 q14 q15 q16 q17 S2 : va_W)[i]?) = (wB cI cZ cQ q0 q1 q2 S0 ++ wL cI cZ q2 q3 q4 q5 q6 q7 q8 q9 q10 S1 : va_W).map some := rfl
theorem hU_B_see_9 (cI cZ cQ : ClassId) (q0 q1 q2 q3 q4 q5 q6 q7 q8 q9 q10 q11 q12 q13 q14 q15 q16 q17 : Nat) (S0 : (Nat → Option Nat)) (S1 : cL) (S2 : cP)  : vz_put (wB cI cZ cQ q0 q1 q2 S0 ++ wL cI cZ q2 q3 q4 q5 q6 q7 q8 q9 q10 S1 ++ wP cI cZ q11 q12 q13 q14 q15 q16 q17 S2 : va_W) [0, 1, 2, 3, 4, 5, 6, 7, 8, 9, 10] (wB cI cZ cQ q0 q1 q2 S0 ++ wL cI cZ q2 q3 q4 q5 q6 q7 q8 q9 q10 S1 : va_W) = wB cI cZ cQ q0 q1 q2 S0 ++ wL cI cZ q2 q3 q4 q5 q6 q7 q8 q9 q10 S1 ++ wP cI cZ q11 q12 q13 q14 q15 q16 q17 S2 := (show vz_put ([(q0, .inr (3, [.ref q2, .ref q1])), (q1, .inl (cQ, 4, .inr (.inr (.inr (.inr S0))))), (q2, .inr (1, [.ref q3, .ref q4, .ref q5, .ref q6, .ref q7, .ref q8, .ref q9, .ref q10, .int S1.2.2.2.2.2.2.2.2.1, .int S1.2.2.2.2.2.2.2.2.2])), (q3, .inl (cI, 301, .inl S1.1)), (q4, .inl (cI, 301, .inl S1.2.1)), (q5, .inl (cI, 301, .inl S1.2.2.1)), (q6, .inl (cI, 301, .inl S1.2.2.2.1)), (q7, .inl (cI, 301, .inl S1.2.2.2.2.1)), (q8, .inl (cI, 301, .inl S1.2.2.2.2.2.1)), (q9, .inl (cI, 301, .inl S1.2.2.2.2.2.2.1)), (q10, .inl (cI, 300, .inl S1.2.2.2.2.2.2.2.1)), (q11, .inr (2, [.ref q12, .ref q13, .int S2.2.2.1, .int S2.2.2.2.1, .int S2.2.2.2.2])), (q12, .inl (cI, 301, .inl S2.1)), (q13, .inr (0, [.ref q14, .ref q15, .ref q16, .ref q17, .int S2.2.1.2.2.2.2])), (q14, .inl (cZ, 40, .inl S2.2.1.1)), (q15, .inl (cI, 40, .inl S2.2.1.2.1)), (q16, .inl (cI, 40, .inl S2.2.1.2.2.1)), (q17, .inl (cI, 40, .inl S2.2.1.2.2.2.1))] : va_W) [0, 1, 2, 3, 4, 5, 6, 7, 8, 9, 10] ([(q0, .inr (3, [.ref q2, .ref q1])), (q1, .inl (cQ, 4, .inr (.inr (.inr (.inr S0))))), (q2, .inr (1, [.ref q3, .ref q4, .ref q5, .ref q6, .ref q7, .ref q8, .ref q9, .ref q10, .int S1.2.2.2.2.2.2.2.2.1, .int S1.2.2.2.2.2.2.2.2.2])), (q3, .inl (cI, 301, .inl S1.1)), (q4, .inl (cI, 301, .inl S1.2.1)), (q5, .inl (cI, 301, .inl S1.2.2.1)), (q6, .inl (cI, 301, .inl S1.2.2.2.1)), (q7, .inl (cI, 301, .inl S1.2.2.2.2.1)), (q8, .inl (cI, 301, .inl S1.2.2.2.2.2.1)), (q9, .inl (cI, 301, .inl S1.2.2.2.2.2.2.1)), (q10, .inl (cI, 300, .inl S1.2.2.2.2.2.2.2.1))] : va_W) = [(q0, .inr (3, [.ref q2, .ref q1])), (q1, .inl (cQ, 4, .inr (.inr (.inr (.inr S0))))), (q2, .inr (1, [.ref q3, .ref q4, .ref q5, .ref q6, .ref q7, .ref q8, .ref q9, .ref q10, .int S1.2.2.2.2.2.2.2.2.1, .int S1.2.2.2.2.2.2.2.2.2])), (q3, .inl (cI, 301, .inl S1.1)), (q4, .inl (cI, 301, .inl S1.2.1)), (q5, .inl (cI, 301, .inl S1.2.2.1)), (q6, .inl (cI, 301, .inl S1.2.2.2.1)), (q7, .inl (cI, 301, .inl S1.2.2.2.2.1)), (q8, .inl (cI, 301, .inl S1.2.2.2.2.2.1)), (q9, .inl (cI, 301, .inl S1.2.2.2.2.2.2.1)), (q10, .inl (cI, 300, .inl S1.2.2.2.2.2.2.2.1)), (q11, .inr (2, [.ref q12, .ref q13, .int S2.2.2.1, .int S2.2.2.2.1, .int S2.2.2.2.2])), (q12, .inl (cI, 301, .inl S2.1)), (q13, .inr (0, [.ref q14, .ref q15, .ref q16, .ref q17, .int S2.2.1.2.2.2.2])), (q14, .inl (cZ, 40, .inl S2.2.1.1)), (q15, .inl (cI, 40, .inl S2.2.1.2.1)), (q16, .inl (cI, 40, .inl S2.2.1.2.2.1)), (q17, .inl (cI, 40, .inl S2.2.1.2.2.2.1))] from rfl).trans rfl
theorem hC_B_see_22 (cI cZ cQ : ClassId) (q0 q1 q2 q3 q4 q5 q6 q7 q8 q9 q10 q11 q12 q13 q14 q15 q16 q17 : Nat) (S0 : (Nat → Option Nat)) (S1 : cL) (S2 : cP) : ([11, 12, 13, 14, 15, 16, 17] : List Nat).map (fun i => (wB cI cZ cQ q0 q1 q2 S0 ++ wL cI cZ q2 q3 q4 q5 q6 q7 q8 q9 q10 S1 ++ wP cI cZ q11 q12 q13 q14 q15 q16 q17 S2 : va_W)[i]?) = (wP cI cZ q11 q12 q13 q14 q15 q16 q17 S2 : va_W).map some := rfl
theorem hU_B_see_22 (cI cZ cQ : ClassId) (q0 q1 q2 q3 q4 q5 q6 q7 q8 q9 q10 q11 q12 q13 q14 q15 q16 q17 : Nat) (S0 : (Nat → Option Nat)) (S1 : cL) (S2 : cP)  : vz_put (wB cI cZ cQ q0 q1 q2 S0 ++ wL cI cZ q2 q3 q4 q5 q6 q7 q8 q9 q10 S1 ++ wP cI cZ q11 q12 q13 q14 q15 q16 q17 S2 : va_W) [11, 12, 13, 14, 15, 16, 17] (wP cI cZ q11 q12 q13 q14 q15 q16 q17 S2 : va_W) = wB cI cZ cQ q0 q1 q2 S0 ++ wL cI cZ q2 q3 q4 q5 q6 q7 q8 q9 q10 S1 ++ wP cI cZ q11 q12 q13 q14 q15 q16 q17 S2 := (show vz_put ([(q0, .inr (3, [.ref q2, .ref q1])), (q1, .inl (cQ, 4, .inr (.inr (.inr (.inr S0))))), (q2, .inr (1, [.ref q3, .ref q4, .ref q5, .ref q6, .ref q7, .ref q8, .ref q9, .ref q10, .int S1.2.2.2.2.2.2.2.2.1, .int S1.2.2.2.2.2.2.2.2.2])), (q3, .inl (cI, 301, .inl S1.1)), (q4, .inl (cI, 301, .inl S1.2.1)), (q5, .inl (cI, 301, .inl S1.2.2.1)), (q6, .inl (cI, 301, .inl S1.2.2.2.1)), (q7, .inl (cI, 301, .inl S1.2.2.2.2.1)), (q8, .inl (cI, 301, .inl S1.2.2.2.2.2.1)), (q9, .inl (cI, 301, .inl S1.2.2.2.2.2.2.1)), (q10, .inl (cI, 300, .inl S1.2.2.2.2.2.2.2.1)), (q11, .inr (2, [.ref q12, .ref q13, .int S2.2.2.1, .int S2.2.2.2.1, .int S2.2.2.2.2])), (q12, .inl (cI, 301, .inl S2.1)), (q13, .inr (0, [.ref q14, .ref q15, .ref q16, .ref q17, .int S2.2.1.2.2.2.2])), (q14, .inl (cZ, 40, .inl S2.2.1.1)), (q15, .inl (cI, 40, .inl S2.2.1.2.1)), (q16, .inl (cI, 40, .inl S2.2.1.2.2.1)), (q17, .inl (cI, 40, .inl S2.2.1.2.2.2.1))] : va_W) [11, 12, 13, 14, 15, 16, 17] ([(q11, .inr (2, [.ref q12, .ref q13, .int S2.2.2.1, .int S2.2.2.2.1, .int S2.2.2.2.2])), (q12, .inl (cI, 301, .inl S2.1)), (q13, .inr (0, [.ref q14, .ref q15, .ref q16, .ref q17, .int S2.2.1.2.2.2.2])), (q14, .inl (cZ, 40, .inl S2.2.1.1)), (q15, .inl (cI, 40, .inl S2.2.1.2.1)), (q16, .inl (cI, 40, .inl S2.2.1.2.2.1)), (q17, .inl (cI, 40, .inl S2.2.1.2.2.2.1))] : va_W) = [(q0, .inr (3, [.ref q2, .ref q1])), (q1, .inl (cQ, 4, .inr (.inr (.inr (.inr S0))))), (q2, .inr (1, [.ref q3, .ref q4, .ref q5, .ref q6, .ref q7, .ref q8, .ref q9, .ref q10, .int S1.2.2.2.2.2.2.2.2.1, .int S1.2.2.2.2.2.2.2.2.2])), (q3, .inl (cI, 301, .inl S1.1)), (q4, .inl (cI, 301, .inl S1.2.1)), (q5, .inl (cI, 301, .inl S1.2.2.1)), (q6, .inl (cI, 301, .inl S1.2.2.2.1)), (q7, .inl (cI, 301, .inl S1.2.2.2.2.1)), (q8, .inl (cI, 301, .inl S1.2.2.2.2.2.1)), (q9, .inl (cI, 301, .inl S1.2.2.2.2.2.2.1)), (q10, .inl (cI, 300, .inl S1.2.2.2.2.2.2.2.1)), (q11, .inr (2, [.ref q12, .ref q13, .int S2.2.2.1, .int S2.2.2.2.1, .int S2.2.2.2.2])), (q12, .inl (cI, 301, .inl S2.1)), (q13, .inr (0, [.ref q14, .ref q15, .ref q16, .ref q17, .int S2.2.1.2.2.2.2])), (q14, .inl (cZ, 40, .inl S2.2.1.1)), (q15, .inl (cI, 40, .inl S2.2.1.2.1)), (q16, .inl (cI, 40, .inl S2.2.1.2.2.1)), (q17, .inl (cI, 40, .inl S2.2.1.2.2.2.1))] from rfl).trans rfl
theorem hC_B_see_33 (cI cZ cQ : ClassId) (q0 q1 q2 q3 q4 q5 q6 q7 q8 q9 q10 q11 q12 q13 q14 q15 q16 q17 : Nat) (S0 : (Nat → Option Nat)) (S1 : cL) (S2 : cP) : ([0, 1, 2, 3, 4, 5, 6, 7, 8, 9, 10, 11, 12, 13, 14, 15, 16, 17] : List Nat).map (fun i => (wB cI cZ cQ q0 q1 q2 S0 ++ wL cI cZ q2 q3 q4 q5 q6 q7 q8 q9 q10 S1 ++ wP cI cZ q11 q12 q13 q14 q15 q16 q17 S2 : va_W)[i]?) = (wB cI cZ cQ q0 q1 q2 S0 ++ wL cI cZ q2 q3 q4 q5 q6 q7 q8 q9 q10 S1 ++ wP cI cZ q11 q12 q13 q14 q15 q16 q17 S2 : va_W).map some := rfl
theorem hU_B_see_33 (cI cZ cQ : ClassId) (q0 q1 q2 q3 q4 q5 q6 q7 q8 q9 q10 q11 q12 q13 q14 q15 q16 q17 : Nat) (S0 : (Nat → Option Nat)) (S1 : cL) (S2 : cP) (R2 : cP) : vz_put (wB cI cZ cQ q0 q1 q2 S0 ++ wL cI cZ q2 q3 q4 q5 q6 q7 q8 q9 q10 S1 ++ wP cI cZ q11 q12 q13 q14 q15 q16 q17 S2 : va_W) [0, 1, 2, 3, 4, 5, 6, 7, 8, 9, 10, 11, 12, 13, 14, 15, 16, 17] (wB cI cZ cQ q0 q1 q2 S0 ++ wL cI cZ q2 q3 q4 q5 q6 q7 q8 q9 q10 S1 ++ wP cI cZ q11 q12 q13 q14 q15 q16 q17 R2 : va_W) = wB cI cZ cQ q0 q1 q2 S0 ++ wL cI cZ q2 q3 q4 q5 q6 q7 q8 q9 q10 S1 ++ wP cI cZ q11 q12 q13 q14 q15 q16 q17 R2 := (show vz_put ([(q0, .inr (3, [.ref q2, .ref q1])), (q1, .inl (cQ, 4, .inr (.inr (.inr (.inr S0))))), (q2, .inr (1, [.ref q3, .ref q4, .ref q5, .ref q6, .ref q7, .ref q8, .ref q9, .ref q10, .int S1.2.2.2.2.2.2.2.2.1, .int S1.2.2.2.2.2.2.2.2.2])), (q3, .inl (cI, 301, .inl S1.1)), (q4, .inl (cI, 301, .inl S1.2.1)), (q5, .inl (cI, 301, .inl S1.2.2.1)), (q6, .inl (cI, 301, .inl S1.2.2.2.1)), (q7, .inl (cI, 301, .inl S1.2.2.2.2.1)), (q8, .inl (cI, 301, .inl S1.2.2.2.2.2.1)), (q9, .inl (cI, 301, .inl S1.2.2.2.2.2.2.1)), (q10, .inl (cI, 300, .inl S1.2.2.2.2.2.2.2.1)), (q11, .inr (2, [.ref q12, .ref q13, .int S2.2.2.1, .int S2.2.2.2.1, .int S2.2.2.2.2])), (q12, .inl (cI, 301, .inl S2.1)), (q13, .inr (0, [.ref q14, .ref q15, .ref q16, .ref q17, .int S2.2.1.2.2.2.2])), (q14, .inl (cZ, 40, .inl S2.2.1.1)), (q15, .inl (cI, 40, .inl S2.2.1.2.1)), (q16, .inl (cI, 40, .inl S2.2.1.2.2.1)), (q17, .inl (cI, 40, .inl S2.2.1.2.2.2.1))] : va_W) [0, 1, 2, 3, 4, 5, 6, 7, 8, 9, 10, 11, 12, 13, 14, 15, 16, 17] ([(q0, .inr (3, [.ref q2, .ref q1])), (q1, .inl (cQ, 4, .inr (.inr (.inr (.inr S0))))), (q2, .inr (1, [.ref q3, .ref q4, .ref q5, .ref q6, .ref q7, .ref q8, .ref q9, .ref q10, .int S1.2.2.2.2.2.2.2.2.1, .int S1.2.2.2.2.2.2.2.2.2])), (q3, .inl (cI, 301, .inl S1.1)), (q4, .inl (cI, 301, .inl S1.2.1)), (q5, .inl (cI, 301, .inl S1.2.2.1)), (q6, .inl (cI, 301, .inl S1.2.2.2.1)), (q7, .inl (cI, 301, .inl S1.2.2.2.2.1)), (q8, .inl (cI, 301, .inl S1.2.2.2.2.2.1)), (q9, .inl (cI, 301, .inl S1.2.2.2.2.2.2.1)), (q10, .inl (cI, 300, .inl S1.2.2.2.2.2.2.2.1)), (q11, .inr (2, [.ref q12, .ref q13, .int R2.2.2.1, .int R2.2.2.2.1, .int R2.2.2.2.2])), (q12, .inl (cI, 301, .inl R2.1)), (q13, .inr (0, [.ref q14, .ref q15, .ref q16, .ref q17, .int R2.2.1.2.2.2.2])), (q14, .inl (cZ, 40, .inl R2.2.1.1)), (q15, .inl (cI, 40, .inl R2.2.1.2.1)), (q16, .inl (cI, 40, .inl R2.2.1.2.2.1)), (q17, .inl (cI, 40, .inl R2.2.1.2.2.2.1))] : va_W) = [(q0, .inr (3, [.ref q2, .ref q1])), (q1, .inl (cQ, 4, .inr (.inr (.inr (.inr S0))))), (q2, .inr (1, [.ref q3, .ref q4, .ref q5, .ref q6, .ref q7, .ref q8, .ref q9, .ref q10, .int S1.2.2.2.2.2.2.2.2.1, .int S1.2.2.2.2.2.2.2.2.2])), (q3, .inl (cI, 301, .inl S1.1)), (q4, .inl (cI, 301, .inl S1.2.1)), (q5, .inl (cI, 301, .inl S1.2.2.1)), (q6, .inl (cI, 301, .inl S1.2.2.2.1)), (q7, .inl (cI, 301, .inl S1.2.2.2.2.1)), (q8, .inl (cI, 301, .inl S1.2.2.2.2.2.1)), (q9, .inl (cI, 301, .inl S1.2.2.2.2.2.2.1)), (q10, .inl (cI, 300, .inl S1.2.2.2.2.2.2.2.1)), (q11, .inr (2, [.ref q12, .ref q13, .int R2.2.2.1, .int R2.2.2.2.1, .int R2.2.2.2.2])), (q12, .inl (cI, 301, .inl R2.1)), (q13, .inr (0, [.ref q14, .ref q15, .ref q16, .ref q17, .int R2.2.1.2.2.2.2])), (q14, .inl (cZ, 40, .inl R2.2.1.1)), (q15, .inl (cI, 40, .inl R2.2.1.2.1)), (q16, .inl (cI, 40, .inl R2.2.1.2.2.1)), (q17, .inl (cI, 40, .inl R2.2.1.2.2.2.1))] from rfl).trans rfl
def m_B_see (L : cL) (P : cP) (x1 : Int32) (x2 : Int32) : Int32 × cP := (if (m_B_isNode x1) = 0 then (-1, P) else (if (m_B_isRow L x2) = 0 then (-1, P) else (if (m_P_knows P x2) = 0 then ((m_B_told L P x1 x2).2.2.2.2.2, (m_B_told L P x1 x2).2) else (-1, P))))
set_option maxHeartbeats 1000000 in
set_option maxRecDepth 100000 in
theorem c_B_see (l : Launch) (dC : Nat → ClassId) (dI : Nat → Nat → Nat) (cI cZ cQ : ClassId) (b0 : Nat) (b1 : Nat) (F : Nat → Option Nat) (u0 : Nat) (u1 : Nat) (u2 : Nat) (u3 : Nat) (u4 : Nat) (u5 : Nat) (u6 : Nat) (u7 : Nat) (u8 : Nat) (L : cL) (p0 : Nat) (p1 : Nat) (h0 : Nat) (a1 : Nat) (a2 : Nat) (a3 : Nat) (a4 : Nat) (P : cP) (x1 : Int32) (x2 : Int32) (hF : 0 ≤ x1.toInt → x1.toInt < 4 → F x1.toNatClampNeg = some p0) (hL : okL L) (hA : (0 ≤ x1.toInt ∧ x1.toInt < 4) → (1 ≤ x2.toInt ∧ x2.toInt ≤ L.2.2.2.2.2.2.2.2.1.toInt) → okTold L P x2) : vz_C l (dC, dI) classes [(cI, .int), (cZ, .boolean), (cQ, .object "BinTrees$Person")] y_B_see (Cond.code y_B_see b_B_see 3 (some .int) :: vz_tbl) ({ frames := 6, cells := 0, slots := 0, locals := 141 }) [.ref b0, .int x1, .int x2] (wB cI cZ cQ b0 b1 u0 F ++ wL cI cZ u0 u1 u2 u3 u4 u5 u6 u7 u8 L ++ wP cI cZ p0 p1 h0 a1 a2 a3 a4 P) (some (.int ((m_B_see L P x1 x2).1))) (wB cI cZ cQ b0 b1 u0 F ++ wL cI cZ u0 u1 u2 u3 u4 u5 u6 u7 u8 L ++ wP cI cZ p0 p1 h0 a1 a2 a3 a4 ((m_B_see L P x1 x2).2)) := by
  generalize hres : (m_B_see L P x1 x2) = RES
  refine vz_C.of (by decide) (Nat.le_of_ble_eq_true rfl) ?_
  intro p e s m below meth c ls E hl hK hP hD hS
  obtain ⟨hx, hb, hr, hml, hown, hT, hlocks⟩ := E
  obtain ⟨Q, hQ⟩ : ∃ Q, Q = MQ below (vz_Q (dC, dI) classes (wB cI cZ cQ b0 b1 u0 F ++ wL cI cZ u0 u1 u2 u3 u4 u5 u6 u7 u8 L ++ wP cI cZ p0 p1 h0 a1 a2 a3 a4 P) (some (.int RES.1)) (wB cI cZ cQ b0 b1 u0 F ++ wL cI cZ u0 u1 u2 u3 u4 u5 u6 u7 u8 L ++ wP cI cZ p0 p1 h0 a1 a2 a3 a4 RES.2)) ([.ref b0, .int x1, .int x2] : List Value).toArray s 0 0 (vz_A (wB cI cZ cQ b0 b1 u0 F ++ wL cI cZ u0 u1 u2 u3 u4 u5 u6 u7 u8 L ++ wP cI cZ p0 p1 h0 a1 a2 a3 a4 P)) := ⟨_, rfl⟩
  rw [← hQ]
  have hl : lv_has ls 3 [(0, .ref b0), (1, .int x1), (2, .int x2)] := hl
  have T0 := ti_0
  have T1 := ti_1
  have Tm := ti_m1
  have T8 := ti_8
  have T39 := ti_39
  have T40 := ti_40
  have T4 := ti_4
  have T300 := ti_300
  have hS0 := hS
  refine lv_iload_n hx hb d_B_see_0 rfl (lv_at hl 1 rfl) ?_
  have hc := c_B_isNode l dC dI cI cZ cQ x1 
  generalize hg_1 : (m_B_isNode x1) = g_1 at hc
  refine vz_callS (As := [.int x1]) (rest := []) ⟨hx, hb, hml, hown, hT⟩ hc (vz_goodS kw_147 kw_148 kw_1 kw_149) hd_B_isNode ⟨⟨rfl, rfl⟩, Nat.le_of_ble_eq_true rfl, Nat.le_of_ble_eq_true rfl⟩ hK hP hD hS [] rfl (hC_B_see_1 cI cZ cQ b0 b1 u0 u1 u2 u3 u4 u5 u6 u7 u8 p0 p1 h0 a1 a2 a3 a4 F L P) (hF_B_isNode cI cZ cQ ) rfl hl.1 rfl (Nat.le_of_ble_eq_true rfl) ⟨Nat.zero_le _, Nat.zero_le _⟩ d_B_see_1 (fun H locs hP hD hS => ?_)
  have hP : va_P (dC, dI) classes (wB cI cZ cQ b0 b1 u0 F ++ wL cI cZ u0 u1 u2 u3 u4 u5 u6 u7 u8 L ++ wP cI cZ p0 p1 h0 a1 a2 a3 a4 P) H := vz_reP (hU_B_see_1 cI cZ cQ b0 b1 u0 u1 u2 u3 u4 u5 u6 u7 u8 p0 p1 h0 a1 a2 a3 a4 F L P ) hP
  have hD : va_D (vz_A (wB cI cZ cQ b0 b1 u0 F ++ wL cI cZ u0 u1 u2 u3 u4 u5 u6 u7 u8 L ++ wP cI cZ p0 p1 h0 a1 a2 a3 a4 P)) (wB cI cZ cQ b0 b1 u0 F ++ wL cI cZ u0 u1 u2 u3 u4 u5 u6 u7 u8 L ++ wP cI cZ p0 p1 h0 a1 a2 a3 a4 P) := vz_reD (hU_B_see_1 cI cZ cQ b0 b1 u0 u1 u2 u3 u4 u5 u6 u7 u8 p0 p1 h0 a1 a2 a3 a4 F L P ) hD
  refine W.eq (g2 := F0 m 4 ls [.int g_1]) rfl ?_
  refine lv_if_eq (tgt := 28) hx hb d_B_see_4 (by decide) (fun c_4 => ?_) (fun c_4 => ?_)
  · have z_4 := congrArg Int32.toInt c_4
    refine lv_iconst (v := -1) hx hb d_B_see_28 (by decide) ?_
    rw [m_B_see] at hres
    try rw [hg_1] at hres
    rw [if_pos c_4] at hres
    subst hres
    subst hQ
    exact vz_iret hx hb hr hlocks d_B_see_29 hS rfl hP
  · have z_4 := mt Int32.toInt_inj.mp c_4
    refine lv_aload_n hx hb d_B_see_7 rfl (lv_at hl 0 rfl) ?_
    refine lv_iload_n hx hb d_B_see_8 rfl (lv_at hl 2 rfl) ?_
    have hc := c_B_isRow l dC dI cI cZ cQ b0 b1 F u0 u1 u2 u3 u4 u5 u6 u7 u8 L x2 
    generalize hg_9 : (m_B_isRow L x2) = g_9 at hc
    refine vz_callV (As := [.int x2]) (rest := []) ⟨hx, hb, hml, hown, hT⟩ hc (vz_goodV kw_247 kw_249 ks_11 kw_1 kw_250) ⟨rfl, hd_B_isRow⟩ ⟨⟨rfl, rfl⟩, Nat.le_of_ble_eq_true rfl, Nat.le_of_ble_eq_true rfl⟩ hK hP hD hS [0, 1, 2, 3, 4, 5, 6, 7, 8, 9, 10] rfl (hC_B_see_9 cI cZ cQ b0 b1 u0 u1 u2 u3 u4 u5 u6 u7 u8 p0 p1 h0 a1 a2 a3 a4 F L P) (hF_B_isRow cI cZ cQ _ _ _ _) 0 3 rfl rfl rfl rfl hl.1 rfl (Nat.le_of_ble_eq_true rfl) ⟨Nat.zero_le _, Nat.zero_le _⟩ d_B_see_9 (fun H locs hP hD hS => ?_)
    have hP : va_P (dC, dI) classes (wB cI cZ cQ b0 b1 u0 F ++ wL cI cZ u0 u1 u2 u3 u4 u5 u6 u7 u8 L ++ wP cI cZ p0 p1 h0 a1 a2 a3 a4 P) H := vz_reP (hU_B_see_9 cI cZ cQ b0 b1 u0 u1 u2 u3 u4 u5 u6 u7 u8 p0 p1 h0 a1 a2 a3 a4 F L P ) hP
    have hD : va_D (vz_A (wB cI cZ cQ b0 b1 u0 F ++ wL cI cZ u0 u1 u2 u3 u4 u5 u6 u7 u8 L ++ wP cI cZ p0 p1 h0 a1 a2 a3 a4 P)) (wB cI cZ cQ b0 b1 u0 F ++ wL cI cZ u0 u1 u2 u3 u4 u5 u6 u7 u8 L ++ wP cI cZ p0 p1 h0 a1 a2 a3 a4 P) := vz_reD (hU_B_see_9 cI cZ cQ b0 b1 u0 u1 u2 u3 u4 u5 u6 u7 u8 p0 p1 h0 a1 a2 a3 a4 F L P ) hD
    refine W.eq (g2 := F0 m 12 ls [.int g_9]) rfl ?_
    refine lv_if_eq (tgt := 28) hx hb d_B_see_12 (by decide) (fun c_12 => ?_) (fun c_12 => ?_)
    · have z_12 := congrArg Int32.toInt c_12
      refine lv_iconst (v := -1) hx hb d_B_see_28 (by decide) ?_
      rw [m_B_see] at hres
      try rw [hg_1] at hres
      rw [if_neg c_4] at hres
      try rw [hg_9] at hres
      rw [if_pos c_12] at hres
      subst hres
      subst hQ
      exact vz_iret hx hb hr hlocks d_B_see_29 hS rfl hP
    · have z_12 := mt Int32.toInt_inj.mp c_12
      refine lv_aload_n hx hb d_B_see_15 rfl (lv_at hl 0 rfl) ?_
      refine va_get (D := (dC, dI)) (ci := 3) (v := .ref b1) (C := R_B) (T := F_B) (N := 2) hx hb hT i_B hown hK hP 0 rfl rfl 1 (by decide) (hT _ kw_133) (fun _ h9 => h9) rfl d_B_see_16 ?_
      refine lv_iload_n hx hb d_B_see_19 rfl (lv_at hl 1 rfl) ?_
      refine va_aldq hx hb hK hP 1 2 rfl rfl (by have hn := isn_t (x0 := x1) (by rw [hg_1]; assumption); exact ti_vp (by omega) (by omega)) d_B_see_20 ?_
      rw [show va_rf (F x1.toNatClampNeg) = .ref p0 from by have hn := isn_t (x0 := x1) (by rw [hg_1]; assumption); rw [hF hn.1 hn.2]; rfl]
      refine lv_iload_n hx hb d_B_see_21 rfl (lv_at hl 2 rfl) ?_
      have hc := c_P_knows l dC dI cI cZ cQ p0 p1 h0 a1 a2 a3 a4 P x2 (by have hr1 := isr_t (L := L) (x1 := x2) (by rw [hg_9]; assumption); have hl1 := hL.1; omega)
      generalize hg_22 : (m_P_knows P x2) = g_22 at hc
      refine vz_callV (As := [.int x2]) (rest := []) ⟨hx, hb, hml, hown, hT⟩ hc (vz_goodV kw_259 kw_178 kw_179 kw_3 kw_180) ⟨rfl, hd_P_knows⟩ ⟨⟨rfl, rfl⟩, Nat.le_of_ble_eq_true rfl, Nat.le_of_ble_eq_true rfl⟩ hK hP hD hS [11, 12, 13, 14, 15, 16, 17] rfl (hC_B_see_22 cI cZ cQ b0 b1 u0 u1 u2 u3 u4 u5 u6 u7 u8 p0 p1 h0 a1 a2 a3 a4 F L P) (hF_P_knows cI cZ cQ _ _) 0 2 rfl rfl rfl rfl hl.1 rfl (Nat.le_of_ble_eq_true rfl) ⟨Nat.zero_le _, Nat.zero_le _⟩ d_B_see_22 (fun H locs hP hD hS => ?_)
      have hP : va_P (dC, dI) classes (wB cI cZ cQ b0 b1 u0 F ++ wL cI cZ u0 u1 u2 u3 u4 u5 u6 u7 u8 L ++ wP cI cZ p0 p1 h0 a1 a2 a3 a4 P) H := vz_reP (hU_B_see_22 cI cZ cQ b0 b1 u0 u1 u2 u3 u4 u5 u6 u7 u8 p0 p1 h0 a1 a2 a3 a4 F L P ) hP
      have hD : va_D (vz_A (wB cI cZ cQ b0 b1 u0 F ++ wL cI cZ u0 u1 u2 u3 u4 u5 u6 u7 u8 L ++ wP cI cZ p0 p1 h0 a1 a2 a3 a4 P)) (wB cI cZ cQ b0 b1 u0 F ++ wL cI cZ u0 u1 u2 u3 u4 u5 u6 u7 u8 L ++ wP cI cZ p0 p1 h0 a1 a2 a3 a4 P) := vz_reD (hU_B_see_22 cI cZ cQ b0 b1 u0 u1 u2 u3 u4 u5 u6 u7 u8 p0 p1 h0 a1 a2 a3 a4 F L P ) hD
      refine W.eq (g2 := F0 m 25 ls [.int g_22]) rfl ?_
      refine lv_if_eq (tgt := 30) hx hb d_B_see_25 (by decide) (fun c_25 => ?_) (fun c_25 => ?_)
      · have z_25 := congrArg Int32.toInt c_25
        refine lv_aload_n hx hb d_B_see_30 rfl (lv_at hl 0 rfl) ?_
        refine lv_iload_n hx hb d_B_see_31 rfl (lv_at hl 1 rfl) ?_
        refine lv_iload_n hx hb d_B_see_32 rfl (lv_at hl 2 rfl) ?_
        have hc := c_B_told l dC dI cI cZ cQ b0 b1 F u0 u1 u2 u3 u4 u5 u6 u7 u8 L p0 p1 h0 a1 a2 a3 a4 P x1 x2 (by have hn := isn_t (x0 := x1) (by rw [hg_1]; assumption); exact hF hn.1 hn.2) (by have hn := isn_t (x0 := x1) (by rw [hg_1]; assumption); exact hn) (by have hn := isn_t (x0 := x1) (by rw [hg_1]; assumption); have hr1 := isr_t (L := L) (x1 := x2) (by rw [hg_9]; assumption); exact hA hn hr1)
        generalize hg_33 : (m_B_told L P x1 x2) = g_33 at hc
        refine vz_callV (As := [.int x1, .int x2]) (rest := []) ⟨hx, hb, hml, hown, hT⟩ hc (vz_goodV kw_162 kw_164 ks_3 kw_1 kw_165) ⟨rfl, hd_B_told⟩ ⟨⟨rfl, rfl⟩, Nat.le_of_ble_eq_true rfl, Nat.le_of_ble_eq_true rfl⟩ hK hP hD hS [0, 1, 2, 3, 4, 5, 6, 7, 8, 9, 10, 11, 12, 13, 14, 15, 16, 17] rfl (hC_B_see_33 cI cZ cQ b0 b1 u0 u1 u2 u3 u4 u5 u6 u7 u8 p0 p1 h0 a1 a2 a3 a4 F L P) (hF_B_told cI cZ cQ _ _ _ _ _ _) 0 3 rfl rfl rfl rfl hl.1 rfl (Nat.le_of_ble_eq_true rfl) ⟨Nat.zero_le _, Nat.zero_le _⟩ d_B_see_33 (fun H locs hP hD hS => ?_)
        have hP : va_P (dC, dI) classes (wB cI cZ cQ b0 b1 u0 F ++ wL cI cZ u0 u1 u2 u3 u4 u5 u6 u7 u8 L ++ wP cI cZ p0 p1 h0 a1 a2 a3 a4 g_33.2) H := vz_reP (hU_B_see_33 cI cZ cQ b0 b1 u0 u1 u2 u3 u4 u5 u6 u7 u8 p0 p1 h0 a1 a2 a3 a4 F L P g_33.2) hP
        have hD : va_D (vz_A (wB cI cZ cQ b0 b1 u0 F ++ wL cI cZ u0 u1 u2 u3 u4 u5 u6 u7 u8 L ++ wP cI cZ p0 p1 h0 a1 a2 a3 a4 P)) (wB cI cZ cQ b0 b1 u0 F ++ wL cI cZ u0 u1 u2 u3 u4 u5 u6 u7 u8 L ++ wP cI cZ p0 p1 h0 a1 a2 a3 a4 g_33.2) := vz_reD (hU_B_see_33 cI cZ cQ b0 b1 u0 u1 u2 u3 u4 u5 u6 u7 u8 p0 p1 h0 a1 a2 a3 a4 F L P g_33.2) hD
        refine W.eq (g2 := F0 m 36 ls [.int g_33.1]) rfl ?_
        refine lv_pop hx hb d_B_see_36 rfl ?_
        refine lv_aload_n hx hb d_B_see_37 rfl (lv_at hl 0 rfl) ?_
        refine va_get (D := (dC, dI)) (ci := 3) (v := .ref b1) (C := R_B) (T := F_B) (N := 2) hx hb hT i_B hown hK hP 0 rfl rfl 1 (by decide) (hT _ kw_133) (fun _ h9 => h9) rfl d_B_see_38 ?_
        refine lv_iload_n hx hb d_B_see_41 rfl (lv_at hl 1 rfl) ?_
        refine va_aldq hx hb hK hP 1 2 rfl rfl (by have hn := isn_t (x0 := x1) (by rw [hg_1]; assumption); exact ti_vp (by omega) (by omega)) d_B_see_42 ?_
        rw [show va_rf (F x1.toNatClampNeg) = .ref p0 from by have hn := isn_t (x0 := x1) (by rw [hg_1]; assumption); rw [hF hn.1 hn.2]; rfl]
        refine va_get (D := (dC, dI)) (ci := 2) (v := .int g_33.2.2.2.2.2) (C := R_P) (T := F_P) (N := 5) hx hb hT i_P hown hK hP 11 rfl rfl 4 (by decide) (hT _ kw_120) (fun _ h9 => h9) rfl d_B_see_43 ?_
        rw [m_B_see] at hres
        try rw [hg_1] at hres
        rw [if_neg c_4] at hres
        try rw [hg_9] at hres
        rw [if_neg c_12] at hres
        try rw [hg_22] at hres
        rw [if_pos c_25] at hres
        try rw [hg_33] at hres
        subst hres
        subst hQ
        exact vz_iret hx hb hr hlocks d_B_see_46 hS rfl hP
      · have z_25 := mt Int32.toInt_inj.mp c_25
        refine lv_iconst (v := -1) hx hb d_B_see_28 (by decide) ?_
        rw [m_B_see] at hres
        try rw [hg_1] at hres
        rw [if_neg c_4] at hres
        try rw [hg_9] at hres
        rw [if_neg c_12] at hres
        try rw [hg_22] at hres
        rw [if_neg c_25] at hres
        subst hres
        subst hQ
        exact vz_iret hx hb hr hlocks d_B_see_29 hS rfl hP
end
section
theorem d_B_cost_0 : decode b_B_cost 0 = .ok (.iload_n 1, 1) := by decide +kernel
theorem d_B_cost_1 : decode b_B_cost 1 = .ok (.invokestatic 55, 3) := by decide +kernel
theorem d_B_cost_4 : decode b_B_cost 4 = .ok (.ifCond .eq 15, 3) := by decide +kernel
theorem d_B_cost_7 : decode b_B_cost 7 = .ok (.aload_n 0, 1) := by decide +kernel
theorem d_B_cost_8 : decode b_B_cost 8 = .ok (.getfield 18, 3) := by decide +kernel
theorem d_B_cost_11 : decode b_B_cost 11 = .ok (.iload_n 1, 1) := by decide +kernel
theorem d_B_cost_12 : decode b_B_cost 12 = .ok (.aaload, 1) := by decide +kernel
theorem d_B_cost_13 : decode b_B_cost 13 = .ok (.getfield 61, 3) := by decide +kernel
theorem d_B_cost_16 : decode b_B_cost 16 = .ok (.goto 4, 3) := by decide +kernel
theorem d_B_cost_19 : decode b_B_cost 19 = .ok (.iconst (-1), 1) := by decide +kernel
theorem d_B_cost_20 : decode b_B_cost 20 = .ok (.ireturn, 1) := by decide +kernel
theorem hC_B_cost_1 (cI cZ cQ : ClassId) (q0 q1 q2 q3 q4 q5 q6 q7 q8 q9 q10 q11 q12 q13 q14 q15 q16 q17 : Nat) (S0 : (Nat → Option Nat)) (S1 : cL) (S2 : cP) : ([] : List Nat).map (fun i => (wB cI cZ cQ q0 q1 q2 S0 ++ wL cI cZ q2 q3 q4 q5 q6 q7 q8 q9 q10 S1 ++ wP cI cZ q11 q12 q13 q14 q15 q16 q17 S2 : va_W)[i]?) = (([] : va_W) : va_W).map some := rfl
theorem hU_B_cost_1 (cI cZ cQ : ClassId) (q0 q1 q2 q3 q4 q5 q6 q7 q8 q9 q10 q11 q12 q13 q14 q15 q16 q17 : Nat) (S0 : (Nat → Option Nat)) (S1 : cL) (S2 : cP)  : vz_put (wB cI cZ cQ q0 q1 q2 S0 ++ wL cI cZ q2 q3 q4 q5 q6 q7 q8 q9 q10 S1 ++ wP cI cZ q11 q12 q13 q14 q15 q16 q17 S2 : va_W) [] (([] : va_W) : va_W) = wB cI cZ cQ q0 q1 q2 S0 ++ wL cI cZ q2 q3 q4 q5 q6 q7 q8 q9 q10 S1 ++ wP cI cZ q11 q12 q13 q14 q15 q16 q17 S2 := (show vz_put ([(q0, .inr (3, [.ref q2, .ref q1])), (q1, .inl (cQ, 4, .inr (.inr (.inr (.inr S0))))), (q2, .inr (1, [.ref q3, .ref q4, .ref q5, .ref q6, .ref q7, .ref q8, .ref q9, .ref q10, .int S1.2.2.2.2.2.2.2.2.1, .int S1.2.2.2.2.2.2.2.2.2])), (q3, .inl (cI, 301, .inl S1.1)), (q4, .inl (cI, 301, .inl S1.2.1)), (q5, .inl (cI, 301, .inl S1.2.2.1)), (q6, .inl (cI, 301, .inl S1.2.2.2.1)), (q7, .inl (cI, 301, .inl S1.2.2.2.2.1)), (q8, .inl (cI, 301, .inl S1.2.2.2.2.2.1)), (q9, .inl (cI, 301, .inl S1.2.2.2.2.2.2.1)), (q10, .inl (cI, 300, .inl S1.2.2.2.2.2.2.2.1)), (q11, .inr (2, [.ref q12, .ref q13, .int S2.2.2.1, .int S2.2.2.2.1, .int S2.2.2.2.2])), (q12, .inl (cI, 301, .inl S2.1)), (q13, .inr (0, [.ref q14, .ref q15, .ref q16, .ref q17, .int S2.2.1.2.2.2.2])), (q14, .inl (cZ, 40, .inl S2.2.1.1)), (q15, .inl (cI, 40, .inl S2.2.1.2.1)), (q16, .inl (cI, 40, .inl S2.2.1.2.2.1)), (q17, .inl (cI, 40, .inl S2.2.1.2.2.2.1))] : va_W) [] ([] : va_W) = [(q0, .inr (3, [.ref q2, .ref q1])), (q1, .inl (cQ, 4, .inr (.inr (.inr (.inr S0))))), (q2, .inr (1, [.ref q3, .ref q4, .ref q5, .ref q6, .ref q7, .ref q8, .ref q9, .ref q10, .int S1.2.2.2.2.2.2.2.2.1, .int S1.2.2.2.2.2.2.2.2.2])), (q3, .inl (cI, 301, .inl S1.1)), (q4, .inl (cI, 301, .inl S1.2.1)), (q5, .inl (cI, 301, .inl S1.2.2.1)), (q6, .inl (cI, 301, .inl S1.2.2.2.1)), (q7, .inl (cI, 301, .inl S1.2.2.2.2.1)), (q8, .inl (cI, 301, .inl S1.2.2.2.2.2.1)), (q9, .inl (cI, 301, .inl S1.2.2.2.2.2.2.1)), (q10, .inl (cI, 300, .inl S1.2.2.2.2.2.2.2.1)), (q11, .inr (2, [.ref q12, .ref q13, .int S2.2.2.1, .int S2.2.2.2.1, .int S2.2.2.2.2])), (q12, .inl (cI, 301, .inl S2.1)), (q13, .inr (0, [.ref q14, .ref q15, .ref q16, .ref q17, .int S2.2.1.2.2.2.2])), (q14, .inl (cZ, 40, .inl S2.2.1.1)), (q15, .inl (cI, 40, .inl S2.2.1.2.1)), (q16, .inl (cI, 40, .inl S2.2.1.2.2.1)), (q17, .inl (cI, 40, .inl S2.2.1.2.2.2.1))] from rfl).trans rfl
def m_B_cost (L : cL) (P : cP) (x1 : Int32) : Int32 := (if (m_B_isNode x1) = 0 then -1 else P.2.2.2.2)
set_option maxHeartbeats 1000000 in
set_option maxRecDepth 100000 in
theorem c_B_cost (l : Launch) (dC : Nat → ClassId) (dI : Nat → Nat → Nat) (cI cZ cQ : ClassId) (b0 : Nat) (b1 : Nat) (F : Nat → Option Nat) (u0 : Nat) (u1 : Nat) (u2 : Nat) (u3 : Nat) (u4 : Nat) (u5 : Nat) (u6 : Nat) (u7 : Nat) (u8 : Nat) (L : cL) (p0 : Nat) (p1 : Nat) (h0 : Nat) (a1 : Nat) (a2 : Nat) (a3 : Nat) (a4 : Nat) (P : cP) (x1 : Int32) (hF : 0 ≤ x1.toInt → x1.toInt < 4 → F x1.toNatClampNeg = some p0) : vz_C l (dC, dI) classes [(cI, .int), (cZ, .boolean), (cQ, .object "BinTrees$Person")] y_B_cost (Cond.code y_B_cost b_B_cost 2 (some .int) :: vz_tbl) ({ frames := 1, cells := 0, slots := 0, locals := 20 }) [.ref b0, .int x1] (wB cI cZ cQ b0 b1 u0 F ++ wL cI cZ u0 u1 u2 u3 u4 u5 u6 u7 u8 L ++ wP cI cZ p0 p1 h0 a1 a2 a3 a4 P) (some (.int (m_B_cost L P x1))) (wB cI cZ cQ b0 b1 u0 F ++ wL cI cZ u0 u1 u2 u3 u4 u5 u6 u7 u8 L ++ wP cI cZ p0 p1 h0 a1 a2 a3 a4 P) := by
  generalize hres : (m_B_cost L P x1) = RES
  refine vz_C.of (by decide) (Nat.le_of_ble_eq_true rfl) ?_
  intro p e s m below meth c ls E hl hK hP hD hS
  obtain ⟨hx, hb, hr, hml, hown, hT, hlocks⟩ := E
  obtain ⟨Q, hQ⟩ : ∃ Q, Q = MQ below (vz_Q (dC, dI) classes (wB cI cZ cQ b0 b1 u0 F ++ wL cI cZ u0 u1 u2 u3 u4 u5 u6 u7 u8 L ++ wP cI cZ p0 p1 h0 a1 a2 a3 a4 P) (some (.int RES)) (wB cI cZ cQ b0 b1 u0 F ++ wL cI cZ u0 u1 u2 u3 u4 u5 u6 u7 u8 L ++ wP cI cZ p0 p1 h0 a1 a2 a3 a4 P)) ([.ref b0, .int x1] : List Value).toArray s 0 0 (vz_A (wB cI cZ cQ b0 b1 u0 F ++ wL cI cZ u0 u1 u2 u3 u4 u5 u6 u7 u8 L ++ wP cI cZ p0 p1 h0 a1 a2 a3 a4 P)) := ⟨_, rfl⟩
  rw [← hQ]
  have hl : lv_has ls 2 [(0, .ref b0), (1, .int x1)] := hl
  have T0 := ti_0
  have T1 := ti_1
  have Tm := ti_m1
  have T8 := ti_8
  have T39 := ti_39
  have T40 := ti_40
  have T4 := ti_4
  have T300 := ti_300
  have hS0 := hS
  refine lv_iload_n hx hb d_B_cost_0 rfl (lv_at hl 1 rfl) ?_
  have hc := c_B_isNode l dC dI cI cZ cQ x1 
  generalize hg_1 : (m_B_isNode x1) = g_1 at hc
  refine vz_callS (As := [.int x1]) (rest := []) ⟨hx, hb, hml, hown, hT⟩ hc (vz_goodS kw_147 kw_148 kw_1 kw_149) hd_B_isNode ⟨⟨rfl, rfl⟩, Nat.le_of_ble_eq_true rfl, Nat.le_of_ble_eq_true rfl⟩ hK hP hD hS [] rfl (hC_B_cost_1 cI cZ cQ b0 b1 u0 u1 u2 u3 u4 u5 u6 u7 u8 p0 p1 h0 a1 a2 a3 a4 F L P) (hF_B_isNode cI cZ cQ ) rfl hl.1 rfl (Nat.le_of_ble_eq_true rfl) ⟨Nat.zero_le _, Nat.zero_le _⟩ d_B_cost_1 (fun H locs hP hD hS => ?_)
  have hP : va_P (dC, dI) classes (wB cI cZ cQ b0 b1 u0 F ++ wL cI cZ u0 u1 u2 u3 u4 u5 u6 u7 u8 L ++ wP cI cZ p0 p1 h0 a1 a2 a3 a4 P) H := vz_reP (hU_B_cost_1 cI cZ cQ b0 b1 u0 u1 u2 u3 u4 u5 u6 u7 u8 p0 p1 h0 a1 a2 a3 a4 F L P ) hP
  have hD : va_D (vz_A (wB cI cZ cQ b0 b1 u0 F ++ wL cI cZ u0 u1 u2 u3 u4 u5 u6 u7 u8 L ++ wP cI cZ p0 p1 h0 a1 a2 a3 a4 P)) (wB cI cZ cQ b0 b1 u0 F ++ wL cI cZ u0 u1 u2 u3 u4 u5 u6 u7 u8 L ++ wP cI cZ p0 p1 h0 a1 a2 a3 a4 P) := vz_reD (hU_B_cost_1 cI cZ cQ b0 b1 u0 u1 u2 u3 u4 u5 u6 u7 u8 p0 p1 h0 a1 a2 a3 a4 F L P ) hD
  refine W.eq (g2 := F0 m 4 ls [.int g_1]) rfl ?_
  refine lv_if_eq (tgt := 19) hx hb d_B_cost_4 (by decide) (fun c_4 => ?_) (fun c_4 => ?_)
  · have z_4 := congrArg Int32.toInt c_4
    refine lv_iconst (v := -1) hx hb d_B_cost_19 (by decide) ?_
    rw [m_B_cost] at hres
    try rw [hg_1] at hres
    rw [if_pos c_4] at hres
    subst hres
    subst hQ
    exact vz_iret hx hb hr hlocks d_B_cost_20 hS rfl hP
  · have z_4 := mt Int32.toInt_inj.mp c_4
    refine lv_aload_n hx hb d_B_cost_7 rfl (lv_at hl 0 rfl) ?_
    refine va_get (D := (dC, dI)) (ci := 3) (v := .ref b1) (C := R_B) (T := F_B) (N := 2) hx hb hT i_B hown hK hP 0 rfl rfl 1 (by decide) (hT _ kw_133) (fun _ h9 => h9) rfl d_B_cost_8 ?_
    refine lv_iload_n hx hb d_B_cost_11 rfl (lv_at hl 1 rfl) ?_
    refine va_aldq hx hb hK hP 1 2 rfl rfl (by have hn := isn_t (x0 := x1) (by rw [hg_1]; assumption); exact ti_vp (by omega) (by omega)) d_B_cost_12 ?_
    rw [show va_rf (F x1.toNatClampNeg) = .ref p0 from by have hn := isn_t (x0 := x1) (by rw [hg_1]; assumption); rw [hF hn.1 hn.2]; rfl]
    refine va_get (D := (dC, dI)) (ci := 2) (v := .int P.2.2.2.2) (C := R_P) (T := F_P) (N := 5) hx hb hT i_P hown hK hP 11 rfl rfl 4 (by decide) (hT _ kw_120) (fun _ h9 => h9) rfl d_B_cost_13 ?_
    refine lv_goto (tgt := 20) hx hb d_B_cost_16 (by decide) ?_
    rw [m_B_cost] at hres
    try rw [hg_1] at hres
    rw [if_neg c_4] at hres
    subst hres
    subst hQ
    exact vz_iret hx hb hr hlocks d_B_cost_20 hS rfl hP
end
section
theorem d_B_judged_0 : decode b_B_judged 0 = .ok (.iload_n 1, 1) := by decide +kernel
theorem d_B_judged_1 : decode b_B_judged 1 = .ok (.invokestatic 55, 3) := by decide +kernel
theorem d_B_judged_4 : decode b_B_judged 4 = .ok (.ifCond .eq 25, 3) := by decide +kernel
theorem d_B_judged_7 : decode b_B_judged 7 = .ok (.aload_n 0, 1) := by decide +kernel
theorem d_B_judged_8 : decode b_B_judged 8 = .ok (.iload_n 2, 1) := by decide +kernel
theorem d_B_judged_9 : decode b_B_judged 9 = .ok (.invokevirtual 48, 3) := by decide +kernel
theorem d_B_judged_12 : decode b_B_judged 12 = .ok (.ifCond .eq 17, 3) := by decide +kernel
theorem d_B_judged_15 : decode b_B_judged 15 = .ok (.aload_n 0, 1) := by decide +kernel
theorem d_B_judged_16 : decode b_B_judged 16 = .ok (.getfield 18, 3) := by decide +kernel
theorem d_B_judged_19 : decode b_B_judged 19 = .ok (.iload_n 1, 1) := by decide +kernel
theorem d_B_judged_20 : decode b_B_judged 20 = .ok (.aaload, 1) := by decide +kernel
theorem d_B_judged_21 : decode b_B_judged 21 = .ok (.getfield 126, 3) := by decide +kernel
theorem d_B_judged_24 : decode b_B_judged 24 = .ok (.iload_n 2, 1) := by decide +kernel
theorem d_B_judged_25 : decode b_B_judged 25 = .ok (.iaload, 1) := by decide +kernel
theorem d_B_judged_26 : decode b_B_judged 26 = .ok (.goto 4, 3) := by decide +kernel
theorem d_B_judged_29 : decode b_B_judged 29 = .ok (.iconst (-1), 1) := by decide +kernel
theorem d_B_judged_30 : decode b_B_judged 30 = .ok (.ireturn, 1) := by decide +kernel
theorem hC_B_judged_1 (cI cZ cQ : ClassId) (q0 q1 q2 q3 q4 q5 q6 q7 q8 q9 q10 q11 q12 q13 q14 q15 q16 q17 : Nat) (S0 : (Nat → Option Nat)) (S1 : cL) (S2 : cP) : ([] : List Nat).map (fun i => (wB cI cZ cQ q0 q1 q2 S0 ++ wL cI cZ q2 q3 q4 q5 q6 q7 q8 q9 q10 S1 ++ wP cI cZ q11 q12 q13 q14 q15 q16 q17 S2 : va_W)[i]?) = (([] : va_W) : va_W).map some := rfl
theorem hU_B_judged_1 (cI cZ cQ : ClassId) (q0 q1 q2 q3 q4 q5 q6 q7 q8 q9 q10 q11 q12 q13 q14 q15 q16 q17 : Nat) (S0 : (Nat → Option Nat)) (S1 : cL) (S2 : cP)  : vz_put (wB cI cZ cQ q0 q1 q2 S0 ++ wL cI cZ q2 q3 q4 q5 q6 q7 q8 q9 q10 S1 ++ wP cI cZ q11 q12 q13 q14 q15 q16 q17 S2 : va_W) [] (([] : va_W) : va_W) = wB cI cZ cQ q0 q1 q2 S0 ++ wL cI cZ q2 q3 q4 q5 q6 q7 q8 q9 q10 S1 ++ wP cI cZ q11 q12 q13 q14 q15 q16 q17 S2 := (show vz_put ([(q0, .inr (3, [.ref q2, .ref q1])), (q1, .inl (cQ, 4, .inr (.inr (.inr (.inr S0))))), (q2, .inr (1, [.ref q3, .ref q4, .ref q5, .ref q6, .ref q7, .ref q8, .ref q9, .ref q10, .int S1.2.2.2.2.2.2.2.2.1, .int S1.2.2.2.2.2.2.2.2.2])), (q3, .inl (cI, 301, .inl S1.1)), (q4, .inl (cI, 301, .inl S1.2.1)), (q5, .inl (cI, 301, .inl S1.2.2.1)), (q6, .inl (cI, 301, .inl S1.2.2.2.1)), (q7, .inl (cI, 301, .inl S1.2.2.2.2.1)), (q8, .inl (cI, 301, .inl S1.2.2.2.2.2.1)), (q9, .inl (cI, 301, .inl S1.2.2.2.2.2.2.1)), (q10, .inl (cI, 300, .inl S1.2.2.2.2.2.2.2.1)), (q11, .inr (2, [.ref q12, .ref q13, .int S2.2.2.1, .int S2.2.2.2.1, .int S2.2.2.2.2])), (q12, .inl (cI, 301, .inl S2.1)), (q13, .inr (0, [.ref q14, .ref q15, .ref q16, .ref q17, .int S2.2.1.2.2.2.2])), (q14, .inl (cZ, 40, .inl S2.2.1.1)), (q15, .inl (cI, 40, .inl S2.2.1.2.1)), (q16, .inl (cI, 40, .inl S2.2.1.2.2.1)), (q17, .inl (cI, 40, .inl S2.2.1.2.2.2.1))] : va_W) [] ([] : va_W) = [(q0, .inr (3, [.ref q2, .ref q1])), (q1, .inl (cQ, 4, .inr (.inr (.inr (.inr S0))))), (q2, .inr (1, [.ref q3, .ref q4, .ref q5, .ref q6, .ref q7, .ref q8, .ref q9, .ref q10, .int S1.2.2.2.2.2.2.2.2.1, .int S1.2.2.2.2.2.2.2.2.2])), (q3, .inl (cI, 301, .inl S1.1)), (q4, .inl (cI, 301, .inl S1.2.1)), (q5, .inl (cI, 301, .inl S1.2.2.1)), (q6, .inl (cI, 301, .inl S1.2.2.2.1)), (q7, .inl (cI, 301, .inl S1.2.2.2.2.1)), (q8, .inl (cI, 301, .inl S1.2.2.2.2.2.1)), (q9, .inl (cI, 301, .inl S1.2.2.2.2.2.2.1)), (q10, .inl (cI, 300, .inl S1.2.2.2.2.2.2.2.1)), (q11, .inr (2, [.ref q12, .ref q13, .int S2.2.2.1, .int S2.2.2.2.1, .int S2.2.2.2.2])), (q12, .inl (cI, 301, .inl S2.1)), (q13, .inr (0, [.ref q14, .ref q15, .ref q16, .ref q17, .int S2.2.1.2.2.2.2])), (q14, .inl (cZ, 40, .inl S2.2.1.1)), (q15, .inl (cI, 40, .inl S2.2.1.2.1)), (q16, .inl (cI, 40, .inl S2.2.1.2.2.1)), (q17, .inl (cI, 40, .inl S2.2.1.2.2.2.1))] from rfl).trans rfl
theorem hC_B_judged_9 (cI cZ cQ : ClassId) (q0 q1 q2 q3 q4 q5 q6 q7 q8 q9 q10 q11 q12 q13 q14 q15 q16 q17 : Nat) (S0 : (Nat → Option Nat)) (S1 : cL) (S2 : cP) : ([0, 1, 2, 3, 4, 5, 6, 7, 8, 9, 10] : List Nat).map (fun i => (wB cI cZ cQ q0 q1 q2 S0 ++ wL cI cZ q2 q3 q4 q5 q6 q7 q8 q9 q10 S1 ++ wP cI cZ q11 q12 q13 q14 q15 q16 q17 S2 : va_W)[i]?) = (wB cI cZ cQ q0 q1 q2 S0 ++ wL cI cZ q2 q3 q4 q5 q6 q7 q8 q9 q10 S1 : va_W).map some := rfl
theorem hU_B_judged_9 (cI cZ cQ : ClassId) (q0 q1 q2 q3 q4 q5 q6 q7 q8 q9 q10 q11 q12 q13 q14 q15 q16 q17 : Nat) (S0 : (Nat → Option Nat)) (S1 : cL) (S2 : cP)  : vz_put (wB cI cZ cQ q0 q1 q2 S0 ++ wL cI cZ q2 q3 q4 q5 q6 q7 q8 q9 q10 S1 ++ wP cI cZ q11 q12 q13 q14 q15 q16 q17 S2 : va_W) [0, 1, 2, 3, 4, 5, 6, 7, 8, 9, 10] (wB cI cZ cQ q0 q1 q2 S0 ++ wL cI cZ q2 q3 q4 q5 q6 q7 q8 q9 q10 S1 : va_W) = wB cI cZ cQ q0 q1 q2 S0 ++ wL cI cZ q2 q3 q4 q5 q6 q7 q8 q9 q10 S1 ++ wP cI cZ q11 q12 q13 q14 q15 q16 q17 S2 := (show vz_put ([(q0, .inr (3, [.ref q2, .ref q1])), (q1, .inl (cQ, 4, .inr (.inr (.inr (.inr S0))))), (q2, .inr (1, [.ref q3, .ref q4, .ref q5, .ref q6, .ref q7, .ref q8, .ref q9, .ref q10, .int S1.2.2.2.2.2.2.2.2.1, .int S1.2.2.2.2.2.2.2.2.2])), (q3, .inl (cI, 301, .inl S1.1)), (q4, .inl (cI, 301, .inl S1.2.1)), (q5, .inl (cI, 301, .inl S1.2.2.1)), (q6, .inl (cI, 301, .inl S1.2.2.2.1)), (q7, .inl (cI, 301, .inl S1.2.2.2.2.1)), (q8, .inl (cI, 301, .inl S1.2.2.2.2.2.1)), (q9, .inl (cI, 301, .inl S1.2.2.2.2.2.2.1)), (q10, .inl (cI, 300, .inl S1.2.2.2.2.2.2.2.1)), (q11, .inr (2, [.ref q12, .ref q13, .int S2.2.2.1, .int S2.2.2.2.1, .int S2.2.2.2.2])), (q12, .inl (cI, 301, .inl S2.1)), (q13, .inr (0, [.ref q14, .ref q15, .ref q16, .ref q17, .int S2.2.1.2.2.2.2])), (q14, .inl (cZ, 40, .inl S2.2.1.1)), (q15, .inl (cI, 40, .inl S2.2.1.2.1)), (q16, .inl (cI, 40, .inl S2.2.1.2.2.1)), (q17, .inl (cI, 40, .inl S2.2.1.2.2.2.1))] : va_W) [0, 1, 2, 3, 4, 5, 6, 7, 8, 9, 10] ([(q0, .inr (3, [.ref q2, .ref q1])), (q1, .inl (cQ, 4, .inr (.inr (.inr (.inr S0))))), (q2, .inr (1, [.ref q3, .ref q4, .ref q5, .ref q6, .ref q7, .ref q8, .ref q9, .ref q10, .int S1.2.2.2.2.2.2.2.2.1, .int S1.2.2.2.2.2.2.2.2.2])), (q3, .inl (cI, 301, .inl S1.1)), (q4, .inl (cI, 301, .inl S1.2.1)), (q5, .inl (cI, 301, .inl S1.2.2.1)), (q6, .inl (cI, 301, .inl S1.2.2.2.1)), (q7, .inl (cI, 301, .inl S1.2.2.2.2.1)), (q8, .inl (cI, 301, .inl S1.2.2.2.2.2.1)), (q9, .inl (cI, 301, .inl S1.2.2.2.2.2.2.1)), (q10, .inl (cI, 300, .inl S1.2.2.2.2.2.2.2.1))] : va_W) = [(q0, .inr (3, [.ref q2, .ref q1])), (q1, .inl (cQ, 4, .inr (.inr (.inr (.inr S0))))), (q2, .inr (1, [.ref q3, .ref q4, .ref q5, .ref q6, .ref q7, .ref q8, .ref q9, .ref q10, .int S1.2.2.2.2.2.2.2.2.1, .int S1.2.2.2.2.2.2.2.2.2])), (q3, .inl (cI, 301, .inl S1.1)), (q4, .inl (cI, 301, .inl S1.2.1)), (q5, .inl (cI, 301, .inl S1.2.2.1)), (q6, .inl (cI, 301, .inl S1.2.2.2.1)), (q7, .inl (cI, 301, .inl S1.2.2.2.2.1)), (q8, .inl (cI, 301, .inl S1.2.2.2.2.2.1)), (q9, .inl (cI, 301, .inl S1.2.2.2.2.2.2.1)), (q10, .inl (cI, 300, .inl S1.2.2.2.2.2.2.2.1)), (q11, .inr (2, [.ref q12, .ref q13, .int S2.2.2.1, .int S2.2.2.2.1, .int S2.2.2.2.2])), (q12, .inl (cI, 301, .inl S2.1)), (q13, .inr (0, [.ref q14, .ref q15, .ref q16, .ref q17, .int S2.2.1.2.2.2.2])), (q14, .inl (cZ, 40, .inl S2.2.1.1)), (q15, .inl (cI, 40, .inl S2.2.1.2.1)), (q16, .inl (cI, 40, .inl S2.2.1.2.2.1)), (q17, .inl (cI, 40, .inl S2.2.1.2.2.2.1))] from rfl).trans rfl
def m_B_judged (L : cL) (P : cP) (x1 : Int32) (x2 : Int32) : Int32 := (if (m_B_isNode x1) = 0 then -1 else (if (m_B_isRow L x2) = 0 then -1 else P.1 x2.toNatClampNeg))
set_option maxHeartbeats 1000000 in
set_option maxRecDepth 100000 in
theorem c_B_judged (l : Launch) (dC : Nat → ClassId) (dI : Nat → Nat → Nat) (cI cZ cQ : ClassId) (b0 : Nat) (b1 : Nat) (F : Nat → Option Nat) (u0 : Nat) (u1 : Nat) (u2 : Nat) (u3 : Nat) (u4 : Nat) (u5 : Nat) (u6 : Nat) (u7 : Nat) (u8 : Nat) (L : cL) (p0 : Nat) (p1 : Nat) (h0 : Nat) (a1 : Nat) (a2 : Nat) (a3 : Nat) (a4 : Nat) (P : cP) (x1 : Int32) (x2 : Int32) (hF : 0 ≤ x1.toInt → x1.toInt < 4 → F x1.toNatClampNeg = some p0) (hL : okL L) : vz_C l (dC, dI) classes [(cI, .int), (cZ, .boolean), (cQ, .object "BinTrees$Person")] y_B_judged (Cond.code y_B_judged b_B_judged 3 (some .int) :: vz_tbl) ({ frames := 1, cells := 0, slots := 0, locals := 21 }) [.ref b0, .int x1, .int x2] (wB cI cZ cQ b0 b1 u0 F ++ wL cI cZ u0 u1 u2 u3 u4 u5 u6 u7 u8 L ++ wP cI cZ p0 p1 h0 a1 a2 a3 a4 P) (some (.int (m_B_judged L P x1 x2))) (wB cI cZ cQ b0 b1 u0 F ++ wL cI cZ u0 u1 u2 u3 u4 u5 u6 u7 u8 L ++ wP cI cZ p0 p1 h0 a1 a2 a3 a4 P) := by
  generalize hres : (m_B_judged L P x1 x2) = RES
  refine vz_C.of (by decide) (Nat.le_of_ble_eq_true rfl) ?_
  intro p e s m below meth c ls E hl hK hP hD hS
  obtain ⟨hx, hb, hr, hml, hown, hT, hlocks⟩ := E
  obtain ⟨Q, hQ⟩ : ∃ Q, Q = MQ below (vz_Q (dC, dI) classes (wB cI cZ cQ b0 b1 u0 F ++ wL cI cZ u0 u1 u2 u3 u4 u5 u6 u7 u8 L ++ wP cI cZ p0 p1 h0 a1 a2 a3 a4 P) (some (.int RES)) (wB cI cZ cQ b0 b1 u0 F ++ wL cI cZ u0 u1 u2 u3 u4 u5 u6 u7 u8 L ++ wP cI cZ p0 p1 h0 a1 a2 a3 a4 P)) ([.ref b0, .int x1, .int x2] : List Value).toArray s 0 0 (vz_A (wB cI cZ cQ b0 b1 u0 F ++ wL cI cZ u0 u1 u2 u3 u4 u5 u6 u7 u8 L ++ wP cI cZ p0 p1 h0 a1 a2 a3 a4 P)) := ⟨_, rfl⟩
  rw [← hQ]
  have hl : lv_has ls 3 [(0, .ref b0), (1, .int x1), (2, .int x2)] := hl
  have T0 := ti_0
  have T1 := ti_1
  have Tm := ti_m1
  have T8 := ti_8
  have T39 := ti_39
  have T40 := ti_40
  have T4 := ti_4
  have T300 := ti_300
  have hS0 := hS
  refine lv_iload_n hx hb d_B_judged_0 rfl (lv_at hl 1 rfl) ?_
  have hc := c_B_isNode l dC dI cI cZ cQ x1 
  generalize hg_1 : (m_B_isNode x1) = g_1 at hc
  refine vz_callS (As := [.int x1]) (rest := []) ⟨hx, hb, hml, hown, hT⟩ hc (vz_goodS kw_147 kw_148 kw_1 kw_149) hd_B_isNode ⟨⟨rfl, rfl⟩, Nat.le_of_ble_eq_true rfl, Nat.le_of_ble_eq_true rfl⟩ hK hP hD hS [] rfl (hC_B_judged_1 cI cZ cQ b0 b1 u0 u1 u2 u3 u4 u5 u6 u7 u8 p0 p1 h0 a1 a2 a3 a4 F L P) (hF_B_isNode cI cZ cQ ) rfl hl.1 rfl (Nat.le_of_ble_eq_true rfl) ⟨Nat.zero_le _, Nat.zero_le _⟩ d_B_judged_1 (fun H locs hP hD hS => ?_)
  have hP : va_P (dC, dI) classes (wB cI cZ cQ b0 b1 u0 F ++ wL cI cZ u0 u1 u2 u3 u4 u5 u6 u7 u8 L ++ wP cI cZ p0 p1 h0 a1 a2 a3 a4 P) H := vz_reP (hU_B_judged_1 cI cZ cQ b0 b1 u0 u1 u2 u3 u4 u5 u6 u7 u8 p0 p1 h0 a1 a2 a3 a4 F L P ) hP
  have hD : va_D (vz_A (wB cI cZ cQ b0 b1 u0 F ++ wL cI cZ u0 u1 u2 u3 u4 u5 u6 u7 u8 L ++ wP cI cZ p0 p1 h0 a1 a2 a3 a4 P)) (wB cI cZ cQ b0 b1 u0 F ++ wL cI cZ u0 u1 u2 u3 u4 u5 u6 u7 u8 L ++ wP cI cZ p0 p1 h0 a1 a2 a3 a4 P) := vz_reD (hU_B_judged_1 cI cZ cQ b0 b1 u0 u1 u2 u3 u4 u5 u6 u7 u8 p0 p1 h0 a1 a2 a3 a4 F L P ) hD
  refine W.eq (g2 := F0 m 4 ls [.int g_1]) rfl ?_
  refine lv_if_eq (tgt := 29) hx hb d_B_judged_4 (by decide) (fun c_4 => ?_) (fun c_4 => ?_)
  · have z_4 := congrArg Int32.toInt c_4
    refine lv_iconst (v := -1) hx hb d_B_judged_29 (by decide) ?_
    rw [m_B_judged] at hres
    try rw [hg_1] at hres
    rw [if_pos c_4] at hres
    subst hres
    subst hQ
    exact vz_iret hx hb hr hlocks d_B_judged_30 hS rfl hP
  · have z_4 := mt Int32.toInt_inj.mp c_4
    refine lv_aload_n hx hb d_B_judged_7 rfl (lv_at hl 0 rfl) ?_
    refine lv_iload_n hx hb d_B_judged_8 rfl (lv_at hl 2 rfl) ?_
    have hc := c_B_isRow l dC dI cI cZ cQ b0 b1 F u0 u1 u2 u3 u4 u5 u6 u7 u8 L x2 
    generalize hg_9 : (m_B_isRow L x2) = g_9 at hc
    refine vz_callV (As := [.int x2]) (rest := []) ⟨hx, hb, hml, hown, hT⟩ hc (vz_goodV kw_247 kw_249 ks_11 kw_1 kw_250) ⟨rfl, hd_B_isRow⟩ ⟨⟨rfl, rfl⟩, Nat.le_of_ble_eq_true rfl, Nat.le_of_ble_eq_true rfl⟩ hK hP hD hS [0, 1, 2, 3, 4, 5, 6, 7, 8, 9, 10] rfl (hC_B_judged_9 cI cZ cQ b0 b1 u0 u1 u2 u3 u4 u5 u6 u7 u8 p0 p1 h0 a1 a2 a3 a4 F L P) (hF_B_isRow cI cZ cQ _ _ _ _) 0 3 rfl rfl rfl rfl hl.1 rfl (Nat.le_of_ble_eq_true rfl) ⟨Nat.zero_le _, Nat.zero_le _⟩ d_B_judged_9 (fun H locs hP hD hS => ?_)
    have hP : va_P (dC, dI) classes (wB cI cZ cQ b0 b1 u0 F ++ wL cI cZ u0 u1 u2 u3 u4 u5 u6 u7 u8 L ++ wP cI cZ p0 p1 h0 a1 a2 a3 a4 P) H := vz_reP (hU_B_judged_9 cI cZ cQ b0 b1 u0 u1 u2 u3 u4 u5 u6 u7 u8 p0 p1 h0 a1 a2 a3 a4 F L P ) hP
    have hD : va_D (vz_A (wB cI cZ cQ b0 b1 u0 F ++ wL cI cZ u0 u1 u2 u3 u4 u5 u6 u7 u8 L ++ wP cI cZ p0 p1 h0 a1 a2 a3 a4 P)) (wB cI cZ cQ b0 b1 u0 F ++ wL cI cZ u0 u1 u2 u3 u4 u5 u6 u7 u8 L ++ wP cI cZ p0 p1 h0 a1 a2 a3 a4 P) := vz_reD (hU_B_judged_9 cI cZ cQ b0 b1 u0 u1 u2 u3 u4 u5 u6 u7 u8 p0 p1 h0 a1 a2 a3 a4 F L P ) hD
    refine W.eq (g2 := F0 m 12 ls [.int g_9]) rfl ?_
    refine lv_if_eq (tgt := 29) hx hb d_B_judged_12 (by decide) (fun c_12 => ?_) (fun c_12 => ?_)
    · have z_12 := congrArg Int32.toInt c_12
      refine lv_iconst (v := -1) hx hb d_B_judged_29 (by decide) ?_
      rw [m_B_judged] at hres
      try rw [hg_1] at hres
      rw [if_neg c_4] at hres
      try rw [hg_9] at hres
      rw [if_pos c_12] at hres
      subst hres
      subst hQ
      exact vz_iret hx hb hr hlocks d_B_judged_30 hS rfl hP
    · have z_12 := mt Int32.toInt_inj.mp c_12
      refine lv_aload_n hx hb d_B_judged_15 rfl (lv_at hl 0 rfl) ?_
      refine va_get (D := (dC, dI)) (ci := 3) (v := .ref b1) (C := R_B) (T := F_B) (N := 2) hx hb hT i_B hown hK hP 0 rfl rfl 1 (by decide) (hT _ kw_133) (fun _ h9 => h9) rfl d_B_judged_16 ?_
      refine lv_iload_n hx hb d_B_judged_19 rfl (lv_at hl 1 rfl) ?_
      refine va_aldq hx hb hK hP 1 2 rfl rfl (by have hn := isn_t (x0 := x1) (by rw [hg_1]; assumption); exact ti_vp (by omega) (by omega)) d_B_judged_20 ?_
      rw [show va_rf (F x1.toNatClampNeg) = .ref p0 from by have hn := isn_t (x0 := x1) (by rw [hg_1]; assumption); rw [hF hn.1 hn.2]; rfl]
      refine va_get (D := (dC, dI)) (ci := 2) (v := .ref p1) (C := R_P) (T := F_P) (N := 5) hx hb hT i_P hown hK hP 11 rfl rfl 0 (by decide) (hT _ kw_112) (fun _ h9 => h9) rfl d_B_judged_21 ?_
      refine lv_iload_n hx hb d_B_judged_24 rfl (lv_at hl 2 rfl) ?_
      refine va_iald hx hb hK hP 12 0 rfl rfl (by have hr1 := isr_t (L := L) (x1 := x2) (by rw [hg_9]; assumption); have hl1 := hL.1; exact ti_vp (by omega) (by omega)) d_B_judged_25 ?_
      refine lv_goto (tgt := 30) hx hb d_B_judged_26 (by decide) ?_
      rw [m_B_judged] at hres
      try rw [hg_1] at hres
      rw [if_neg c_4] at hres
      try rw [hg_9] at hres
      rw [if_neg c_12] at hres
      subst hres
      subst hQ
      exact vz_iret hx hb hr hlocks d_B_judged_30 hS rfl hP
end
section
theorem d_B_row_0 : decode b_B_row 0 = .ok (.aload_n 0, 1) := by decide +kernel
theorem d_B_row_1 : decode b_B_row 1 = .ok (.iload_n 1, 1) := by decide +kernel
theorem d_B_row_2 : decode b_B_row 2 = .ok (.invokevirtual 48, 3) := by decide +kernel
theorem d_B_row_5 : decode b_B_row 5 = .ok (.ifCond .ne 5, 3) := by decide +kernel
theorem d_B_row_8 : decode b_B_row 8 = .ok (.iconst (-1), 1) := by decide +kernel
theorem d_B_row_9 : decode b_B_row 9 = .ok (.ireturn, 1) := by decide +kernel
theorem d_B_row_10 : decode b_B_row 10 = .ok (.iload_n 2, 1) := by decide +kernel
theorem d_B_row_11 : decode b_B_row 11 = .ok (.tableswitch 97 0 5 #[37, 47, 57, 67, 77, 87], 37) := by decide +kernel
theorem d_B_row_48 : decode b_B_row 48 = .ok (.aload_n 0, 1) := by decide +kernel
theorem d_B_row_49 : decode b_B_row 49 = .ok (.getfield 10, 3) := by decide +kernel
theorem d_B_row_52 : decode b_B_row 52 = .ok (.getfield 111, 3) := by decide +kernel
theorem d_B_row_55 : decode b_B_row 55 = .ok (.iload_n 1, 1) := by decide +kernel
theorem d_B_row_56 : decode b_B_row 56 = .ok (.iaload, 1) := by decide +kernel
theorem d_B_row_57 : decode b_B_row 57 = .ok (.ireturn, 1) := by decide +kernel
theorem d_B_row_58 : decode b_B_row 58 = .ok (.aload_n 0, 1) := by decide +kernel
theorem d_B_row_59 : decode b_B_row 59 = .ok (.getfield 10, 3) := by decide +kernel
theorem d_B_row_62 : decode b_B_row 62 = .ok (.getfield 114, 3) := by decide +kernel
theorem d_B_row_65 : decode b_B_row 65 = .ok (.iload_n 1, 1) := by decide +kernel
theorem d_B_row_66 : decode b_B_row 66 = .ok (.iaload, 1) := by decide +kernel
theorem d_B_row_67 : decode b_B_row 67 = .ok (.ireturn, 1) := by decide +kernel
theorem d_B_row_68 : decode b_B_row 68 = .ok (.aload_n 0, 1) := by decide +kernel
theorem d_B_row_69 : decode b_B_row 69 = .ok (.getfield 10, 3) := by decide +kernel
theorem d_B_row_72 : decode b_B_row 72 = .ok (.getfield 117, 3) := by decide +kernel
theorem d_B_row_75 : decode b_B_row 75 = .ok (.iload_n 1, 1) := by decide +kernel
theorem d_B_row_76 : decode b_B_row 76 = .ok (.iaload, 1) := by decide +kernel
theorem d_B_row_77 : decode b_B_row 77 = .ok (.ireturn, 1) := by decide +kernel
theorem d_B_row_78 : decode b_B_row 78 = .ok (.aload_n 0, 1) := by decide +kernel
theorem d_B_row_79 : decode b_B_row 79 = .ok (.getfield 10, 3) := by decide +kernel
theorem d_B_row_82 : decode b_B_row 82 = .ok (.getfield 119, 3) := by decide +kernel
theorem d_B_row_85 : decode b_B_row 85 = .ok (.iload_n 1, 1) := by decide +kernel
theorem d_B_row_86 : decode b_B_row 86 = .ok (.iaload, 1) := by decide +kernel
theorem d_B_row_87 : decode b_B_row 87 = .ok (.ireturn, 1) := by decide +kernel
theorem d_B_row_88 : decode b_B_row 88 = .ok (.aload_n 0, 1) := by decide +kernel
theorem d_B_row_89 : decode b_B_row 89 = .ok (.getfield 10, 3) := by decide +kernel
theorem d_B_row_92 : decode b_B_row 92 = .ok (.getfield 122, 3) := by decide +kernel
theorem d_B_row_95 : decode b_B_row 95 = .ok (.iload_n 1, 1) := by decide +kernel
theorem d_B_row_96 : decode b_B_row 96 = .ok (.iaload, 1) := by decide +kernel
theorem d_B_row_97 : decode b_B_row 97 = .ok (.ireturn, 1) := by decide +kernel
theorem d_B_row_98 : decode b_B_row 98 = .ok (.aload_n 0, 1) := by decide +kernel
theorem d_B_row_99 : decode b_B_row 99 = .ok (.getfield 10, 3) := by decide +kernel
theorem d_B_row_102 : decode b_B_row 102 = .ok (.getfield 123, 3) := by decide +kernel
theorem d_B_row_105 : decode b_B_row 105 = .ok (.iload_n 1, 1) := by decide +kernel
theorem d_B_row_106 : decode b_B_row 106 = .ok (.iaload, 1) := by decide +kernel
theorem d_B_row_107 : decode b_B_row 107 = .ok (.ireturn, 1) := by decide +kernel
theorem d_B_row_108 : decode b_B_row 108 = .ok (.iconst (-1), 1) := by decide +kernel
theorem d_B_row_109 : decode b_B_row 109 = .ok (.ireturn, 1) := by decide +kernel
theorem hC_B_row_2 (cI cZ cQ : ClassId) (q0 q1 q2 q3 q4 q5 q6 q7 q8 q9 q10 : Nat) (S0 : (Nat → Option Nat)) (S1 : cL) : ([0, 1, 2, 3, 4, 5, 6, 7, 8, 9, 10] : List Nat).map (fun i => (wB cI cZ cQ q0 q1 q2 S0 ++ wL cI cZ q2 q3 q4 q5 q6 q7 q8 q9 q10 S1 : va_W)[i]?) = (wB cI cZ cQ q0 q1 q2 S0 ++ wL cI cZ q2 q3 q4 q5 q6 q7 q8 q9 q10 S1 : va_W).map some := rfl
theorem hU_B_row_2 (cI cZ cQ : ClassId) (q0 q1 q2 q3 q4 q5 q6 q7 q8 q9 q10 : Nat) (S0 : (Nat → Option Nat)) (S1 : cL)  : vz_put (wB cI cZ cQ q0 q1 q2 S0 ++ wL cI cZ q2 q3 q4 q5 q6 q7 q8 q9 q10 S1 : va_W) [0, 1, 2, 3, 4, 5, 6, 7, 8, 9, 10] (wB cI cZ cQ q0 q1 q2 S0 ++ wL cI cZ q2 q3 q4 q5 q6 q7 q8 q9 q10 S1 : va_W) = wB cI cZ cQ q0 q1 q2 S0 ++ wL cI cZ q2 q3 q4 q5 q6 q7 q8 q9 q10 S1 := (show vz_put ([(q0, .inr (3, [.ref q2, .ref q1])), (q1, .inl (cQ, 4, .inr (.inr (.inr (.inr S0))))), (q2, .inr (1, [.ref q3, .ref q4, .ref q5, .ref q6, .ref q7, .ref q8, .ref q9, .ref q10, .int S1.2.2.2.2.2.2.2.2.1, .int S1.2.2.2.2.2.2.2.2.2])), (q3, .inl (cI, 301, .inl S1.1)), (q4, .inl (cI, 301, .inl S1.2.1)), (q5, .inl (cI, 301, .inl S1.2.2.1)), (q6, .inl (cI, 301, .inl S1.2.2.2.1)), (q7, .inl (cI, 301, .inl S1.2.2.2.2.1)), (q8, .inl (cI, 301, .inl S1.2.2.2.2.2.1)), (q9, .inl (cI, 301, .inl S1.2.2.2.2.2.2.1)), (q10, .inl (cI, 300, .inl S1.2.2.2.2.2.2.2.1))] : va_W) [0, 1, 2, 3, 4, 5, 6, 7, 8, 9, 10] ([(q0, .inr (3, [.ref q2, .ref q1])), (q1, .inl (cQ, 4, .inr (.inr (.inr (.inr S0))))), (q2, .inr (1, [.ref q3, .ref q4, .ref q5, .ref q6, .ref q7, .ref q8, .ref q9, .ref q10, .int S1.2.2.2.2.2.2.2.2.1, .int S1.2.2.2.2.2.2.2.2.2])), (q3, .inl (cI, 301, .inl S1.1)), (q4, .inl (cI, 301, .inl S1.2.1)), (q5, .inl (cI, 301, .inl S1.2.2.1)), (q6, .inl (cI, 301, .inl S1.2.2.2.1)), (q7, .inl (cI, 301, .inl S1.2.2.2.2.1)), (q8, .inl (cI, 301, .inl S1.2.2.2.2.2.1)), (q9, .inl (cI, 301, .inl S1.2.2.2.2.2.2.1)), (q10, .inl (cI, 300, .inl S1.2.2.2.2.2.2.2.1))] : va_W) = [(q0, .inr (3, [.ref q2, .ref q1])), (q1, .inl (cQ, 4, .inr (.inr (.inr (.inr S0))))), (q2, .inr (1, [.ref q3, .ref q4, .ref q5, .ref q6, .ref q7, .ref q8, .ref q9, .ref q10, .int S1.2.2.2.2.2.2.2.2.1, .int S1.2.2.2.2.2.2.2.2.2])), (q3, .inl (cI, 301, .inl S1.1)), (q4, .inl (cI, 301, .inl S1.2.1)), (q5, .inl (cI, 301, .inl S1.2.2.1)), (q6, .inl (cI, 301, .inl S1.2.2.2.1)), (q7, .inl (cI, 301, .inl S1.2.2.2.2.1)), (q8, .inl (cI, 301, .inl S1.2.2.2.2.2.1)), (q9, .inl (cI, 301, .inl S1.2.2.2.2.2.2.1)), (q10, .inl (cI, 300, .inl S1.2.2.2.2.2.2.2.1))] from rfl).trans rfl
def m_B_row (L : cL) (x1 : Int32) (x2 : Int32) : Int32 := (if (m_B_isRow L x1) = 0 then -1 else (if x2 = 0 then L.1 x1.toNatClampNeg else (if x2 = 1 then L.2.1 x1.toNatClampNeg else (if x2 = 2 then L.2.2.1 x1.toNatClampNeg else (if x2 = 3 then L.2.2.2.1 x1.toNatClampNeg else (if x2 = 4 then L.2.2.2.2.1 x1.toNatClampNeg else (if x2 = 5 then L.2.2.2.2.2.1 x1.toNatClampNeg else -1)))))))
set_option maxHeartbeats 1000000 in
set_option maxRecDepth 100000 in
theorem c_B_row (l : Launch) (dC : Nat → ClassId) (dI : Nat → Nat → Nat) (cI cZ cQ : ClassId) (b0 : Nat) (b1 : Nat) (F : Nat → Option Nat) (u0 : Nat) (u1 : Nat) (u2 : Nat) (u3 : Nat) (u4 : Nat) (u5 : Nat) (u6 : Nat) (u7 : Nat) (u8 : Nat) (L : cL) (x1 : Int32) (x2 : Int32) (hL : okL L) : vz_C l (dC, dI) classes [(cI, .int), (cZ, .boolean), (cQ, .object "BinTrees$Person")] y_B_row (Cond.code y_B_row b_B_row 3 (some .int) :: vz_tbl) ({ frames := 1, cells := 0, slots := 0, locals := 21 }) [.ref b0, .int x1, .int x2] (wB cI cZ cQ b0 b1 u0 F ++ wL cI cZ u0 u1 u2 u3 u4 u5 u6 u7 u8 L) (some (.int (m_B_row L x1 x2))) (wB cI cZ cQ b0 b1 u0 F ++ wL cI cZ u0 u1 u2 u3 u4 u5 u6 u7 u8 L) := by
  generalize hres : (m_B_row L x1 x2) = RES
  refine vz_C.of (by decide) (Nat.le_of_ble_eq_true rfl) ?_
  intro p e s m below meth c ls E hl hK hP hD hS
  obtain ⟨hx, hb, hr, hml, hown, hT, hlocks⟩ := E
  obtain ⟨Q, hQ⟩ : ∃ Q, Q = MQ below (vz_Q (dC, dI) classes (wB cI cZ cQ b0 b1 u0 F ++ wL cI cZ u0 u1 u2 u3 u4 u5 u6 u7 u8 L) (some (.int RES)) (wB cI cZ cQ b0 b1 u0 F ++ wL cI cZ u0 u1 u2 u3 u4 u5 u6 u7 u8 L)) ([.ref b0, .int x1, .int x2] : List Value).toArray s 0 0 (vz_A (wB cI cZ cQ b0 b1 u0 F ++ wL cI cZ u0 u1 u2 u3 u4 u5 u6 u7 u8 L)) := ⟨_, rfl⟩
  rw [← hQ]
  have hl : lv_has ls 3 [(0, .ref b0), (1, .int x1), (2, .int x2)] := hl
  have T0 := ti_0
  have T1 := ti_1
  have Tm := ti_m1
  have T8 := ti_8
  have T39 := ti_39
  have T40 := ti_40
  have T4 := ti_4
  have T300 := ti_300
  have hS0 := hS
  refine lv_aload_n hx hb d_B_row_0 rfl (lv_at hl 0 rfl) ?_
  refine lv_iload_n hx hb d_B_row_1 rfl (lv_at hl 1 rfl) ?_
  have hc := c_B_isRow l dC dI cI cZ cQ b0 b1 F u0 u1 u2 u3 u4 u5 u6 u7 u8 L x1 
  generalize hg_2 : (m_B_isRow L x1) = g_2 at hc
  refine vz_callV (As := [.int x1]) (rest := []) ⟨hx, hb, hml, hown, hT⟩ hc (vz_goodV kw_247 kw_249 ks_11 kw_1 kw_250) ⟨rfl, hd_B_isRow⟩ ⟨⟨rfl, rfl⟩, Nat.le_of_ble_eq_true rfl, Nat.le_of_ble_eq_true rfl⟩ hK hP hD hS [0, 1, 2, 3, 4, 5, 6, 7, 8, 9, 10] rfl (hC_B_row_2 cI cZ cQ b0 b1 u0 u1 u2 u3 u4 u5 u6 u7 u8 F L) (hF_B_isRow cI cZ cQ _ _ _ _) 0 3 rfl rfl rfl rfl hl.1 rfl (Nat.le_of_ble_eq_true rfl) ⟨Nat.zero_le _, Nat.zero_le _⟩ d_B_row_2 (fun H locs hP hD hS => ?_)
  have hP : va_P (dC, dI) classes (wB cI cZ cQ b0 b1 u0 F ++ wL cI cZ u0 u1 u2 u3 u4 u5 u6 u7 u8 L) H := vz_reP (hU_B_row_2 cI cZ cQ b0 b1 u0 u1 u2 u3 u4 u5 u6 u7 u8 F L ) hP
  have hD : va_D (vz_A (wB cI cZ cQ b0 b1 u0 F ++ wL cI cZ u0 u1 u2 u3 u4 u5 u6 u7 u8 L)) (wB cI cZ cQ b0 b1 u0 F ++ wL cI cZ u0 u1 u2 u3 u4 u5 u6 u7 u8 L) := vz_reD (hU_B_row_2 cI cZ cQ b0 b1 u0 u1 u2 u3 u4 u5 u6 u7 u8 F L ) hD
  refine W.eq (g2 := F0 m 5 ls [.int g_2]) rfl ?_
  refine lv_if_ne (tgt := 10) hx hb d_B_row_5 (by decide) (fun c_5 => ?_) (fun c_5 => ?_)
  · have z_5 := mt Int32.toInt_inj.mp c_5
    refine lv_iload_n hx hb d_B_row_10 rfl (lv_at hl 2 rfl) ?_
    by_cases c_11_0 : x2 = 0
    · refine lv_tableIn (off := 37) (tgt := 48) hx hb d_B_row_11 (by rw [c_11_0]; decide) (by rw [c_11_0]; decide) (by rw [c_11_0]; decide) (by decide) ?_
      refine lv_aload_n hx hb d_B_row_48 rfl (lv_at hl 0 rfl) ?_
      refine va_get (D := (dC, dI)) (ci := 3) (v := .ref u0) (C := R_B) (T := F_B) (N := 2) hx hb hT i_B hown hK hP 0 rfl rfl 0 (by decide) (hT _ kw_132) (fun _ h9 => h9) rfl d_B_row_49 ?_
      refine va_get (D := (dC, dI)) (ci := 1) (v := .ref u1) (C := R_L) (T := F_L) (N := 10) hx hb hT i_L hown hK hP 2 rfl rfl 0 (by decide) (hT _ kw_24) (fun _ h9 => h9) rfl d_B_row_52 ?_
      refine lv_iload_n hx hb d_B_row_55 rfl (lv_at hl 1 rfl) ?_
      refine va_iald hx hb hK hP 3 0 rfl rfl (by have hr1 := isr_t (L := L) (x1 := x1) (by rw [hg_2]; assumption); have hl1 := hL.1; exact ti_vp (by omega) (by omega)) d_B_row_56 ?_
      rw [m_B_row] at hres
      try rw [hg_2] at hres
      rw [if_neg c_5, if_pos c_11_0] at hres
      subst hres
      subst hQ
      exact vz_iret hx hb hr hlocks d_B_row_57 hS rfl hP
    · by_cases c_11_1 : x2 = 1
      · refine lv_tableIn (off := 47) (tgt := 58) hx hb d_B_row_11 (by rw [c_11_1]; decide) (by rw [c_11_1]; decide) (by rw [c_11_1]; decide) (by decide) ?_
        refine lv_aload_n hx hb d_B_row_58 rfl (lv_at hl 0 rfl) ?_
        refine va_get (D := (dC, dI)) (ci := 3) (v := .ref u0) (C := R_B) (T := F_B) (N := 2) hx hb hT i_B hown hK hP 0 rfl rfl 0 (by decide) (hT _ kw_132) (fun _ h9 => h9) rfl d_B_row_59 ?_
        refine va_get (D := (dC, dI)) (ci := 1) (v := .ref u2) (C := R_L) (T := F_L) (N := 10) hx hb hT i_L hown hK hP 2 rfl rfl 1 (by decide) (hT _ kw_26) (fun _ h9 => h9) rfl d_B_row_62 ?_
        refine lv_iload_n hx hb d_B_row_65 rfl (lv_at hl 1 rfl) ?_
        refine va_iald hx hb hK hP 4 0 rfl rfl (by have hr1 := isr_t (L := L) (x1 := x1) (by rw [hg_2]; assumption); have hl1 := hL.1; exact ti_vp (by omega) (by omega)) d_B_row_66 ?_
        rw [m_B_row] at hres
        try rw [hg_2] at hres
        rw [if_neg c_5, if_neg c_11_0, if_pos c_11_1] at hres
        subst hres
        subst hQ
        exact vz_iret hx hb hr hlocks d_B_row_67 hS rfl hP
      · by_cases c_11_2 : x2 = 2
        · refine lv_tableIn (off := 57) (tgt := 68) hx hb d_B_row_11 (by rw [c_11_2]; decide) (by rw [c_11_2]; decide) (by rw [c_11_2]; decide) (by decide) ?_
          refine lv_aload_n hx hb d_B_row_68 rfl (lv_at hl 0 rfl) ?_
          refine va_get (D := (dC, dI)) (ci := 3) (v := .ref u0) (C := R_B) (T := F_B) (N := 2) hx hb hT i_B hown hK hP 0 rfl rfl 0 (by decide) (hT _ kw_132) (fun _ h9 => h9) rfl d_B_row_69 ?_
          refine va_get (D := (dC, dI)) (ci := 1) (v := .ref u3) (C := R_L) (T := F_L) (N := 10) hx hb hT i_L hown hK hP 2 rfl rfl 2 (by decide) (hT _ kw_29) (fun _ h9 => h9) rfl d_B_row_72 ?_
          refine lv_iload_n hx hb d_B_row_75 rfl (lv_at hl 1 rfl) ?_
          refine va_iald hx hb hK hP 5 0 rfl rfl (by have hr1 := isr_t (L := L) (x1 := x1) (by rw [hg_2]; assumption); have hl1 := hL.1; exact ti_vp (by omega) (by omega)) d_B_row_76 ?_
          rw [m_B_row] at hres
          try rw [hg_2] at hres
          rw [if_neg c_5, if_neg c_11_0, if_neg c_11_1, if_pos c_11_2] at hres
          subst hres
          subst hQ
          exact vz_iret hx hb hr hlocks d_B_row_77 hS rfl hP
        · by_cases c_11_3 : x2 = 3
          · refine lv_tableIn (off := 67) (tgt := 78) hx hb d_B_row_11 (by rw [c_11_3]; decide) (by rw [c_11_3]; decide) (by rw [c_11_3]; decide) (by decide) ?_
            refine lv_aload_n hx hb d_B_row_78 rfl (lv_at hl 0 rfl) ?_
            refine va_get (D := (dC, dI)) (ci := 3) (v := .ref u0) (C := R_B) (T := F_B) (N := 2) hx hb hT i_B hown hK hP 0 rfl rfl 0 (by decide) (hT _ kw_132) (fun _ h9 => h9) rfl d_B_row_79 ?_
            refine va_get (D := (dC, dI)) (ci := 1) (v := .ref u4) (C := R_L) (T := F_L) (N := 10) hx hb hT i_L hown hK hP 2 rfl rfl 3 (by decide) (hT _ kw_32) (fun _ h9 => h9) rfl d_B_row_82 ?_
            refine lv_iload_n hx hb d_B_row_85 rfl (lv_at hl 1 rfl) ?_
            refine va_iald hx hb hK hP 6 0 rfl rfl (by have hr1 := isr_t (L := L) (x1 := x1) (by rw [hg_2]; assumption); have hl1 := hL.1; exact ti_vp (by omega) (by omega)) d_B_row_86 ?_
            rw [m_B_row] at hres
            try rw [hg_2] at hres
            rw [if_neg c_5, if_neg c_11_0, if_neg c_11_1, if_neg c_11_2, if_pos c_11_3] at hres
            subst hres
            subst hQ
            exact vz_iret hx hb hr hlocks d_B_row_87 hS rfl hP
          · by_cases c_11_4 : x2 = 4
            · refine lv_tableIn (off := 77) (tgt := 88) hx hb d_B_row_11 (by rw [c_11_4]; decide) (by rw [c_11_4]; decide) (by rw [c_11_4]; decide) (by decide) ?_
              refine lv_aload_n hx hb d_B_row_88 rfl (lv_at hl 0 rfl) ?_
              refine va_get (D := (dC, dI)) (ci := 3) (v := .ref u0) (C := R_B) (T := F_B) (N := 2) hx hb hT i_B hown hK hP 0 rfl rfl 0 (by decide) (hT _ kw_132) (fun _ h9 => h9) rfl d_B_row_89 ?_
              refine va_get (D := (dC, dI)) (ci := 1) (v := .ref u5) (C := R_L) (T := F_L) (N := 10) hx hb hT i_L hown hK hP 2 rfl rfl 4 (by decide) (hT _ kw_35) (fun _ h9 => h9) rfl d_B_row_92 ?_
              refine lv_iload_n hx hb d_B_row_95 rfl (lv_at hl 1 rfl) ?_
              refine va_iald hx hb hK hP 7 0 rfl rfl (by have hr1 := isr_t (L := L) (x1 := x1) (by rw [hg_2]; assumption); have hl1 := hL.1; exact ti_vp (by omega) (by omega)) d_B_row_96 ?_
              rw [m_B_row] at hres
              try rw [hg_2] at hres
              rw [if_neg c_5, if_neg c_11_0, if_neg c_11_1, if_neg c_11_2, if_neg c_11_3, if_pos c_11_4] at hres
              subst hres
              subst hQ
              exact vz_iret hx hb hr hlocks d_B_row_97 hS rfl hP
            · by_cases c_11_5 : x2 = 5
              · refine lv_tableIn (off := 87) (tgt := 98) hx hb d_B_row_11 (by rw [c_11_5]; decide) (by rw [c_11_5]; decide) (by rw [c_11_5]; decide) (by decide) ?_
                refine lv_aload_n hx hb d_B_row_98 rfl (lv_at hl 0 rfl) ?_
                refine va_get (D := (dC, dI)) (ci := 3) (v := .ref u0) (C := R_B) (T := F_B) (N := 2) hx hb hT i_B hown hK hP 0 rfl rfl 0 (by decide) (hT _ kw_132) (fun _ h9 => h9) rfl d_B_row_99 ?_
                refine va_get (D := (dC, dI)) (ci := 1) (v := .ref u6) (C := R_L) (T := F_L) (N := 10) hx hb hT i_L hown hK hP 2 rfl rfl 5 (by decide) (hT _ kw_38) (fun _ h9 => h9) rfl d_B_row_102 ?_
                refine lv_iload_n hx hb d_B_row_105 rfl (lv_at hl 1 rfl) ?_
                refine va_iald hx hb hK hP 8 0 rfl rfl (by have hr1 := isr_t (L := L) (x1 := x1) (by rw [hg_2]; assumption); have hl1 := hL.1; exact ti_vp (by omega) (by omega)) d_B_row_106 ?_
                rw [m_B_row] at hres
                try rw [hg_2] at hres
                rw [if_neg c_5, if_neg c_11_0, if_neg c_11_1, if_neg c_11_2, if_neg c_11_3, if_neg c_11_4, if_pos c_11_5] at hres
                subst hres
                subst hQ
                exact vz_iret hx hb hr hlocks d_B_row_107 hS rfl hP
              · refine lv_tableOut (tgt := 108) hx hb d_B_row_11 (by have h0 := lv_neT c_11_0 (by decide : (0 : Int32).toInt = 0); have h1 := lv_neT c_11_1 (by decide : (1 : Int32).toInt = 1); have h2 := lv_neT c_11_2 (by decide : (2 : Int32).toInt = 2); have h3 := lv_neT c_11_3 (by decide : (3 : Int32).toInt = 3); have h4 := lv_neT c_11_4 (by decide : (4 : Int32).toInt = 4); have h5 := lv_neT c_11_5 (by decide : (5 : Int32).toInt = 5); omega) (by decide) ?_
                refine lv_iconst (v := -1) hx hb d_B_row_108 (by decide) ?_
                rw [m_B_row] at hres
                try rw [hg_2] at hres
                rw [if_neg c_5, if_neg c_11_0, if_neg c_11_1, if_neg c_11_2, if_neg c_11_3, if_neg c_11_4, if_neg c_11_5] at hres
                subst hres
                subst hQ
                exact vz_iret hx hb hr hlocks d_B_row_109 hS rfl hP
  · have z_5 := congrArg Int32.toInt c_5
    refine lv_iconst (v := -1) hx hb d_B_row_8 (by decide) ?_
    rw [m_B_row] at hres
    try rw [hg_2] at hres
    rw [if_pos c_5] at hres
    subst hres
    subst hQ
    exact vz_iret hx hb hr hlocks d_B_row_9 hS rfl hP
end
section
theorem d_B_object_0 : decode b_B_object 0 = .ok (.iload_n 1, 1) := by decide +kernel
theorem d_B_object_1 : decode b_B_object 1 = .ok (.invokestatic 55, 3) := by decide +kernel
theorem d_B_object_4 : decode b_B_object 4 = .ok (.ifCond .eq 11, 3) := by decide +kernel
theorem d_B_object_7 : decode b_B_object 7 = .ok (.aload_n 0, 1) := by decide +kernel
theorem d_B_object_8 : decode b_B_object 8 = .ok (.iload_n 2, 1) := by decide +kernel
theorem d_B_object_9 : decode b_B_object 9 = .ok (.invokevirtual 45, 3) := by decide +kernel
theorem d_B_object_12 : decode b_B_object 12 = .ok (.ifCond .ne 5, 3) := by decide +kernel
theorem d_B_object_15 : decode b_B_object 15 = .ok (.iconst (-1), 1) := by decide +kernel
theorem d_B_object_16 : decode b_B_object 16 = .ok (.ireturn, 1) := by decide +kernel
theorem d_B_object_17 : decode b_B_object 17 = .ok (.aload_n 0, 1) := by decide +kernel
theorem d_B_object_18 : decode b_B_object 18 = .ok (.getfield 18, 3) := by decide +kernel
theorem d_B_object_21 : decode b_B_object 21 = .ok (.iload_n 1, 1) := by decide +kernel
theorem d_B_object_22 : decode b_B_object 22 = .ok (.aaload, 1) := by decide +kernel
theorem d_B_object_23 : decode b_B_object 23 = .ok (.getfield 79, 3) := by decide +kernel
theorem d_B_object_26 : decode b_B_object 26 = .ok (.astore 4, 2) := by decide +kernel
theorem d_B_object_28 : decode b_B_object 28 = .ok (.aload 4, 2) := by decide +kernel
theorem d_B_object_30 : decode b_B_object 30 = .ok (.getfield 83, 3) := by decide +kernel
theorem d_B_object_33 : decode b_B_object 33 = .ok (.iload_n 2, 1) := by decide +kernel
theorem d_B_object_34 : decode b_B_object 34 = .ok (.baload, 1) := by decide +kernel
theorem d_B_object_35 : decode b_B_object 35 = .ok (.ifCond .ne 5, 3) := by decide +kernel
theorem d_B_object_38 : decode b_B_object 38 = .ok (.iconst (-1), 1) := by decide +kernel
theorem d_B_object_39 : decode b_B_object 39 = .ok (.ireturn, 1) := by decide +kernel
theorem d_B_object_40 : decode b_B_object 40 = .ok (.iload_n 3, 1) := by decide +kernel
theorem d_B_object_41 : decode b_B_object 41 = .ok (.tableswitch 97 0 5 #[39, 47, 60, 67, 82, 89], 39) := by decide +kernel
theorem d_B_object_80 : decode b_B_object 80 = .ok (.aload 4, 2) := by decide +kernel
theorem d_B_object_82 : decode b_B_object 82 = .ok (.getfield 89, 3) := by decide +kernel
theorem d_B_object_85 : decode b_B_object 85 = .ok (.iload_n 2, 1) := by decide +kernel
theorem d_B_object_86 : decode b_B_object 86 = .ok (.iaload, 1) := by decide +kernel
theorem d_B_object_87 : decode b_B_object 87 = .ok (.ireturn, 1) := by decide +kernel
theorem d_B_object_88 : decode b_B_object 88 = .ok (.aload 4, 2) := by decide +kernel
theorem d_B_object_90 : decode b_B_object 90 = .ok (.iload_n 2, 1) := by decide +kernel
theorem d_B_object_91 : decode b_B_object 91 = .ok (.aload 4, 2) := by decide +kernel
theorem d_B_object_93 : decode b_B_object 93 = .ok (.iload_n 2, 1) := by decide +kernel
theorem d_B_object_94 : decode b_B_object 94 = .ok (.invokevirtual 92, 3) := by decide +kernel
theorem d_B_object_97 : decode b_B_object 97 = .ok (.invokevirtual 96, 3) := by decide +kernel
theorem d_B_object_100 : decode b_B_object 100 = .ok (.ireturn, 1) := by decide +kernel
theorem d_B_object_101 : decode b_B_object 101 = .ok (.aload 4, 2) := by decide +kernel
theorem d_B_object_103 : decode b_B_object 103 = .ok (.iload_n 2, 1) := by decide +kernel
theorem d_B_object_104 : decode b_B_object 104 = .ok (.invokevirtual 99, 3) := by decide +kernel
theorem d_B_object_107 : decode b_B_object 107 = .ok (.ireturn, 1) := by decide +kernel
theorem d_B_object_108 : decode b_B_object 108 = .ok (.aload 4, 2) := by decide +kernel
theorem d_B_object_110 : decode b_B_object 110 = .ok (.iload_n 2, 1) := by decide +kernel
theorem d_B_object_111 : decode b_B_object 111 = .ok (.invokevirtual 92, 3) := by decide +kernel
theorem d_B_object_114 : decode b_B_object 114 = .ok (.ifCond .ne 7, 3) := by decide +kernel
theorem d_B_object_117 : decode b_B_object 117 = .ok (.iconst 0, 1) := by decide +kernel
theorem d_B_object_118 : decode b_B_object 118 = .ok (.goto 4, 3) := by decide +kernel
theorem d_B_object_121 : decode b_B_object 121 = .ok (.iconst 1, 1) := by decide +kernel
theorem d_B_object_122 : decode b_B_object 122 = .ok (.ireturn, 1) := by decide +kernel
theorem d_B_object_123 : decode b_B_object 123 = .ok (.aload 4, 2) := by decide +kernel
theorem d_B_object_125 : decode b_B_object 125 = .ok (.iload_n 2, 1) := by decide +kernel
theorem d_B_object_126 : decode b_B_object 126 = .ok (.invokevirtual 102, 3) := by decide +kernel
theorem d_B_object_129 : decode b_B_object 129 = .ok (.ireturn, 1) := by decide +kernel
theorem d_B_object_130 : decode b_B_object 130 = .ok (.aload 4, 2) := by decide +kernel
theorem d_B_object_132 : decode b_B_object 132 = .ok (.getfield 105, 3) := by decide +kernel
theorem d_B_object_135 : decode b_B_object 135 = .ok (.iload_n 2, 1) := by decide +kernel
theorem d_B_object_136 : decode b_B_object 136 = .ok (.iaload, 1) := by decide +kernel
theorem d_B_object_137 : decode b_B_object 137 = .ok (.ireturn, 1) := by decide +kernel
theorem d_B_object_138 : decode b_B_object 138 = .ok (.iconst (-1), 1) := by decide +kernel
theorem d_B_object_139 : decode b_B_object 139 = .ok (.ireturn, 1) := by decide +kernel
theorem hC_B_object_1 (cI cZ cQ : ClassId) (q0 q1 q2 q3 q4 q5 q6 q7 q8 q9 q10 q11 q12 q13 q14 q15 q16 q17 : Nat) (S0 : (Nat → Option Nat)) (S1 : cL) (S2 : cP) : ([] : List Nat).map (fun i => (wB cI cZ cQ q0 q1 q2 S0 ++ wL cI cZ q2 q3 q4 q5 q6 q7 q8 q9 q10 S1 ++ wP cI cZ q11 q12 q13 q14 q15 q16 q17 S2 : va_W)[i]?) = (([] : va_W) : va_W).map some := rfl
theorem hU_B_object_1 (cI cZ cQ : ClassId) (q0 q1 q2 q3 q4 q5 q6 q7 q8 q9 q10 q11 q12 q13 q14 q15 q16 q17 : Nat) (S0 : (Nat → Option Nat)) (S1 : cL) (S2 : cP)  : vz_put (wB cI cZ cQ q0 q1 q2 S0 ++ wL cI cZ q2 q3 q4 q5 q6 q7 q8 q9 q10 S1 ++ wP cI cZ q11 q12 q13 q14 q15 q16 q17 S2 : va_W) [] (([] : va_W) : va_W) = wB cI cZ cQ q0 q1 q2 S0 ++ wL cI cZ q2 q3 q4 q5 q6 q7 q8 q9 q10 S1 ++ wP cI cZ q11 q12 q13 q14 q15 q16 q17 S2 := (show vz_put ([(q0, .inr (3, [.ref q2, .ref q1])), (q1, .inl (cQ, 4, .inr (.inr (.inr (.inr S0))))), (q2, .inr (1, [.ref q3, .ref q4, .ref q5, .ref q6, .ref q7, .ref q8, .ref q9, .ref q10, .int S1.2.2.2.2.2.2.2.2.1, .int S1.2.2.2.2.2.2.2.2.2])), (q3, .inl (cI, 301, .inl S1.1)), (q4, .inl (cI, 301, .inl S1.2.1)), (q5, .inl (cI, 301, .inl S1.2.2.1)), (q6, .inl (cI, 301, .inl S1.2.2.2.1)), (q7, .inl (cI, 301, .inl S1.2.2.2.2.1)), (q8, .inl (cI, 301, .inl S1.2.2.2.2.2.1)), (q9, .inl (cI, 301, .inl S1.2.2.2.2.2.2.1)), (q10, .inl (cI, 300, .inl S1.2.2.2.2.2.2.2.1)), (q11, .inr (2, [.ref q12, .ref q13, .int S2.2.2.1, .int S2.2.2.2.1, .int S2.2.2.2.2])), (q12, .inl (cI, 301, .inl S2.1)), (q13, .inr (0, [.ref q14, .ref q15, .ref q16, .ref q17, .int S2.2.1.2.2.2.2])), (q14, .inl (cZ, 40, .inl S2.2.1.1)), (q15, .inl (cI, 40, .inl S2.2.1.2.1)), (q16, .inl (cI, 40, .inl S2.2.1.2.2.1)), (q17, .inl (cI, 40, .inl S2.2.1.2.2.2.1))] : va_W) [] ([] : va_W) = [(q0, .inr (3, [.ref q2, .ref q1])), (q1, .inl (cQ, 4, .inr (.inr (.inr (.inr S0))))), (q2, .inr (1, [.ref q3, .ref q4, .ref q5, .ref q6, .ref q7, .ref q8, .ref q9, .ref q10, .int S1.2.2.2.2.2.2.2.2.1, .int S1.2.2.2.2.2.2.2.2.2])), (q3, .inl (cI, 301, .inl S1.1)), (q4, .inl (cI, 301, .inl S1.2.1)), (q5, .inl (cI, 301, .inl S1.2.2.1)), (q6, .inl (cI, 301, .inl S1.2.2.2.1)), (q7, .inl (cI, 301, .inl S1.2.2.2.2.1)), (q8, .inl (cI, 301, .inl S1.2.2.2.2.2.1)), (q9, .inl (cI, 301, .inl S1.2.2.2.2.2.2.1)), (q10, .inl (cI, 300, .inl S1.2.2.2.2.2.2.2.1)), (q11, .inr (2, [.ref q12, .ref q13, .int S2.2.2.1, .int S2.2.2.2.1, .int S2.2.2.2.2])), (q12, .inl (cI, 301, .inl S2.1)), (q13, .inr (0, [.ref q14, .ref q15, .ref q16, .ref q17, .int S2.2.1.2.2.2.2])), (q14, .inl (cZ, 40, .inl S2.2.1.1)), (q15, .inl (cI, 40, .inl S2.2.1.2.1)), (q16, .inl (cI, 40, .inl S2.2.1.2.2.1)), (q17, .inl (cI, 40, .inl S2.2.1.2.2.2.1))] from rfl).trans rfl
theorem hC_B_object_9 (cI cZ cQ : ClassId) (q0 q1 q2 q3 q4 q5 q6 q7 q8 q9 q10 q11 q12 q13 q14 q15 q16 q17 : Nat) (S0 : (Nat → Option Nat)) (S1 : cL) (S2 : cP) : ([0, 1, 2, 3, 4, 5, 6, 7, 8, 9, 10] : List Nat).map (fun i => (wB cI cZ cQ q0 q1 q2 S0 ++ wL cI cZ q2 q3 q4 q5 q6 q7 q8 q9 q10 S1 ++ wP cI cZ q11 q12 q13 q14 q15 q16 q17 S2 : va_W)[i]?) = (wB cI cZ cQ q0 q1 q2 S0 ++ wL cI cZ q2 q3 q4 q5 q6 q7 q8 q9 q10 S1 : va_W).map some := rfl
theorem hU_B_object_9 (cI cZ cQ : ClassId) (q0 q1 q2 q3 q4 q5 q6 q7 q8 q9 q10 q11 q12 q13 q14 q15 q16 q17 : Nat) (S0 : (Nat → Option Nat)) (S1 : cL) (S2 : cP)  : vz_put (wB cI cZ cQ q0 q1 q2 S0 ++ wL cI cZ q2 q3 q4 q5 q6 q7 q8 q9 q10 S1 ++ wP cI cZ q11 q12 q13 q14 q15 q16 q17 S2 : va_W) [0, 1, 2, 3, 4, 5, 6, 7, 8, 9, 10] (wB cI cZ cQ q0 q1 q2 S0 ++ wL cI cZ q2 q3 q4 q5 q6 q7 q8 q9 q10 S1 : va_W) = wB cI cZ cQ q0 q1 q2 S0 ++ wL cI cZ q2 q3 q4 q5 q6 q7 q8 q9 q10 S1 ++ wP cI cZ q11 q12 q13 q14 q15 q16 q17 S2 := (show vz_put ([(q0, .inr (3, [.ref q2, .ref q1])), (q1, .inl (cQ, 4, .inr (.inr (.inr (.inr S0))))), (q2, .inr (1, [.ref q3, .ref q4, .ref q5, .ref q6, .ref q7, .ref q8, .ref q9, .ref q10, .int S1.2.2.2.2.2.2.2.2.1, .int S1.2.2.2.2.2.2.2.2.2])), (q3, .inl (cI, 301, .inl S1.1)), (q4, .inl (cI, 301, .inl S1.2.1)), (q5, .inl (cI, 301, .inl S1.2.2.1)), (q6, .inl (cI, 301, .inl S1.2.2.2.1)), (q7, .inl (cI, 301, .inl S1.2.2.2.2.1)), (q8, .inl (cI, 301, .inl S1.2.2.2.2.2.1)), (q9, .inl (cI, 301, .inl S1.2.2.2.2.2.2.1)), (q10, .inl (cI, 300, .inl S1.2.2.2.2.2.2.2.1)), (q11, .inr (2, [.ref q12, .ref q13, .int S2.2.2.1, .int S2.2.2.2.1, .int S2.2.2.2.2])), (q12, .inl (cI, 301, .inl S2.1)), (q13, .inr (0, [.ref q14, .ref q15, .ref q16, .ref q17, .int S2.2.1.2.2.2.2])), (q14, .inl (cZ, 40, .inl S2.2.1.1)), (q15, .inl (cI, 40, .inl S2.2.1.2.1)), (q16, .inl (cI, 40, .inl S2.2.1.2.2.1)), (q17, .inl (cI, 40, .inl S2.2.1.2.2.2.1))] : va_W) [0, 1, 2, 3, 4, 5, 6, 7, 8, 9, 10] ([(q0, .inr (3, [.ref q2, .ref q1])), (q1, .inl (cQ, 4, .inr (.inr (.inr (.inr S0))))), (q2, .inr (1, [.ref q3, .ref q4, .ref q5, .ref q6, .ref q7, .ref q8, .ref q9, .ref q10, .int S1.2.2.2.2.2.2.2.2.1, .int S1.2.2.2.2.2.2.2.2.2])), (q3, .inl (cI, 301, .inl S1.1)), (q4, .inl (cI, 301, .inl S1.2.1)), (q5, .inl (cI, 301, .inl S1.2.2.1)), (q6, .inl (cI, 301, .inl S1.2.2.2.1)), (q7, .inl (cI, 301, .inl S1.2.2.2.2.1)), (q8, .inl (cI, 301, .inl S1.2.2.2.2.2.1)), (q9, .inl (cI, 301, .inl S1.2.2.2.2.2.2.1)), (q10, .inl (cI, 300, .inl S1.2.2.2.2.2.2.2.1))] : va_W) = [(q0, .inr (3, [.ref q2, .ref q1])), (q1, .inl (cQ, 4, .inr (.inr (.inr (.inr S0))))), (q2, .inr (1, [.ref q3, .ref q4, .ref q5, .ref q6, .ref q7, .ref q8, .ref q9, .ref q10, .int S1.2.2.2.2.2.2.2.2.1, .int S1.2.2.2.2.2.2.2.2.2])), (q3, .inl (cI, 301, .inl S1.1)), (q4, .inl (cI, 301, .inl S1.2.1)), (q5, .inl (cI, 301, .inl S1.2.2.1)), (q6, .inl (cI, 301, .inl S1.2.2.2.1)), (q7, .inl (cI, 301, .inl S1.2.2.2.2.1)), (q8, .inl (cI, 301, .inl S1.2.2.2.2.2.1)), (q9, .inl (cI, 301, .inl S1.2.2.2.2.2.2.1)), (q10, .inl (cI, 300, .inl S1.2.2.2.2.2.2.2.1)), (q11, .inr (2, [.ref q12, .ref q13, .int S2.2.2.1, .int S2.2.2.2.1, .int S2.2.2.2.2])), (q12, .inl (cI, 301, .inl S2.1)), (q13, .inr (0, [.ref q14, .ref q15, .ref q16, .ref q17, .int S2.2.1.2.2.2.2])), (q14, .inl (cZ, 40, .inl S2.2.1.1)), (q15, .inl (cI, 40, .inl S2.2.1.2.1)), (q16, .inl (cI, 40, .inl S2.2.1.2.2.1)), (q17, .inl (cI, 40, .inl S2.2.1.2.2.2.1))] from rfl).trans rfl
theorem hC_B_object_94 (cI cZ cQ : ClassId) (q0 q1 q2 q3 q4 q5 q6 q7 q8 q9 q10 q11 q12 q13 q14 q15 q16 q17 : Nat) (S0 : (Nat → Option Nat)) (S1 : cL) (S2 : cP) : ([13, 14, 15, 16, 17] : List Nat).map (fun i => (wB cI cZ cQ q0 q1 q2 S0 ++ wL cI cZ q2 q3 q4 q5 q6 q7 q8 q9 q10 S1 ++ wP cI cZ q11 q12 q13 q14 q15 q16 q17 S2 : va_W)[i]?) = (wT cI cZ q13 q14 q15 q16 q17 S2.2.1 : va_W).map some := rfl
theorem hF_T_topOf (cI cZ cQ : ClassId) {h0 a1 a2 a3 a4 : Nat} (S0 R0 : cT) : (wT cI cZ h0 a1 a2 a3 a4 R0 : va_W).map Prod.fst = (wT cI cZ h0 a1 a2 a3 a4 S0 : va_W).map Prod.fst := rfl
theorem hU_B_object_94 (cI cZ cQ : ClassId) (q0 q1 q2 q3 q4 q5 q6 q7 q8 q9 q10 q11 q12 q13 q14 q15 q16 q17 : Nat) (S0 : (Nat → Option Nat)) (S1 : cL) (S2 : cP)  : vz_put (wB cI cZ cQ q0 q1 q2 S0 ++ wL cI cZ q2 q3 q4 q5 q6 q7 q8 q9 q10 S1 ++ wP cI cZ q11 q12 q13 q14 q15 q16 q17 S2 : va_W) [13, 14, 15, 16, 17] (wT cI cZ q13 q14 q15 q16 q17 S2.2.1 : va_W) = wB cI cZ cQ q0 q1 q2 S0 ++ wL cI cZ q2 q3 q4 q5 q6 q7 q8 q9 q10 S1 ++ wP cI cZ q11 q12 q13 q14 q15 q16 q17 S2 := (show vz_put ([(q0, .inr (3, [.ref q2, .ref q1])), (q1, .inl (cQ, 4, .inr (.inr (.inr (.inr S0))))), (q2, .inr (1, [.ref q3, .ref q4, .ref q5, .ref q6, .ref q7, .ref q8, .ref q9, .ref q10, .int S1.2.2.2.2.2.2.2.2.1, .int S1.2.2.2.2.2.2.2.2.2])), (q3, .inl (cI, 301, .inl S1.1)), (q4, .inl (cI, 301, .inl S1.2.1)), (q5, .inl (cI, 301, .inl S1.2.2.1)), (q6, .inl (cI, 301, .inl S1.2.2.2.1)), (q7, .inl (cI, 301, .inl S1.2.2.2.2.1)), (q8, .inl (cI, 301, .inl S1.2.2.2.2.2.1)), (q9, .inl (cI, 301, .inl S1.2.2.2.2.2.2.1)), (q10, .inl (cI, 300, .inl S1.2.2.2.2.2.2.2.1)), (q11, .inr (2, [.ref q12, .ref q13, .int S2.2.2.1, .int S2.2.2.2.1, .int S2.2.2.2.2])), (q12, .inl (cI, 301, .inl S2.1)), (q13, .inr (0, [.ref q14, .ref q15, .ref q16, .ref q17, .int S2.2.1.2.2.2.2])), (q14, .inl (cZ, 40, .inl S2.2.1.1)), (q15, .inl (cI, 40, .inl S2.2.1.2.1)), (q16, .inl (cI, 40, .inl S2.2.1.2.2.1)), (q17, .inl (cI, 40, .inl S2.2.1.2.2.2.1))] : va_W) [13, 14, 15, 16, 17] ([(q13, .inr (0, [.ref q14, .ref q15, .ref q16, .ref q17, .int S2.2.1.2.2.2.2])), (q14, .inl (cZ, 40, .inl S2.2.1.1)), (q15, .inl (cI, 40, .inl S2.2.1.2.1)), (q16, .inl (cI, 40, .inl S2.2.1.2.2.1)), (q17, .inl (cI, 40, .inl S2.2.1.2.2.2.1))] : va_W) = [(q0, .inr (3, [.ref q2, .ref q1])), (q1, .inl (cQ, 4, .inr (.inr (.inr (.inr S0))))), (q2, .inr (1, [.ref q3, .ref q4, .ref q5, .ref q6, .ref q7, .ref q8, .ref q9, .ref q10, .int S1.2.2.2.2.2.2.2.2.1, .int S1.2.2.2.2.2.2.2.2.2])), (q3, .inl (cI, 301, .inl S1.1)), (q4, .inl (cI, 301, .inl S1.2.1)), (q5, .inl (cI, 301, .inl S1.2.2.1)), (q6, .inl (cI, 301, .inl S1.2.2.2.1)), (q7, .inl (cI, 301, .inl S1.2.2.2.2.1)), (q8, .inl (cI, 301, .inl S1.2.2.2.2.2.1)), (q9, .inl (cI, 301, .inl S1.2.2.2.2.2.2.1)), (q10, .inl (cI, 300, .inl S1.2.2.2.2.2.2.2.1)), (q11, .inr (2, [.ref q12, .ref q13, .int S2.2.2.1, .int S2.2.2.2.1, .int S2.2.2.2.2])), (q12, .inl (cI, 301, .inl S2.1)), (q13, .inr (0, [.ref q14, .ref q15, .ref q16, .ref q17, .int S2.2.1.2.2.2.2])), (q14, .inl (cZ, 40, .inl S2.2.1.1)), (q15, .inl (cI, 40, .inl S2.2.1.2.1)), (q16, .inl (cI, 40, .inl S2.2.1.2.2.1)), (q17, .inl (cI, 40, .inl S2.2.1.2.2.2.1))] from rfl).trans rfl
theorem hC_B_object_97 (cI cZ cQ : ClassId) (q0 q1 q2 q3 q4 q5 q6 q7 q8 q9 q10 q11 q12 q13 q14 q15 q16 q17 : Nat) (S0 : (Nat → Option Nat)) (S1 : cL) (S2 : cP) : ([13, 14, 15, 16, 17] : List Nat).map (fun i => (wB cI cZ cQ q0 q1 q2 S0 ++ wL cI cZ q2 q3 q4 q5 q6 q7 q8 q9 q10 S1 ++ wP cI cZ q11 q12 q13 q14 q15 q16 q17 S2 : va_W)[i]?) = (wT cI cZ q13 q14 q15 q16 q17 S2.2.1 : va_W).map some := rfl
theorem hU_B_object_97 (cI cZ cQ : ClassId) (q0 q1 q2 q3 q4 q5 q6 q7 q8 q9 q10 q11 q12 q13 q14 q15 q16 q17 : Nat) (S0 : (Nat → Option Nat)) (S1 : cL) (S2 : cP)  : vz_put (wB cI cZ cQ q0 q1 q2 S0 ++ wL cI cZ q2 q3 q4 q5 q6 q7 q8 q9 q10 S1 ++ wP cI cZ q11 q12 q13 q14 q15 q16 q17 S2 : va_W) [13, 14, 15, 16, 17] (wT cI cZ q13 q14 q15 q16 q17 S2.2.1 : va_W) = wB cI cZ cQ q0 q1 q2 S0 ++ wL cI cZ q2 q3 q4 q5 q6 q7 q8 q9 q10 S1 ++ wP cI cZ q11 q12 q13 q14 q15 q16 q17 S2 := (show vz_put ([(q0, .inr (3, [.ref q2, .ref q1])), (q1, .inl (cQ, 4, .inr (.inr (.inr (.inr S0))))), (q2, .inr (1, [.ref q3, .ref q4, .ref q5, .ref q6, .ref q7, .ref q8, .ref q9, .ref q10, .int S1.2.2.2.2.2.2.2.2.1, .int S1.2.2.2.2.2.2.2.2.2])), (q3, .inl (cI, 301, .inl S1.1)), (q4, .inl (cI, 301, .inl S1.2.1)), (q5, .inl (cI, 301, .inl S1.2.2.1)), (q6, .inl (cI, 301, .inl S1.2.2.2.1)), (q7, .inl (cI, 301, .inl S1.2.2.2.2.1)), (q8, .inl (cI, 301, .inl S1.2.2.2.2.2.1)), (q9, .inl (cI, 301, .inl S1.2.2.2.2.2.2.1)), (q10, .inl (cI, 300, .inl S1.2.2.2.2.2.2.2.1)), (q11, .inr (2, [.ref q12, .ref q13, .int S2.2.2.1, .int S2.2.2.2.1, .int S2.2.2.2.2])), (q12, .inl (cI, 301, .inl S2.1)), (q13, .inr (0, [.ref q14, .ref q15, .ref q16, .ref q17, .int S2.2.1.2.2.2.2])), (q14, .inl (cZ, 40, .inl S2.2.1.1)), (q15, .inl (cI, 40, .inl S2.2.1.2.1)), (q16, .inl (cI, 40, .inl S2.2.1.2.2.1)), (q17, .inl (cI, 40, .inl S2.2.1.2.2.2.1))] : va_W) [13, 14, 15, 16, 17] ([(q13, .inr (0, [.ref q14, .ref q15, .ref q16, .ref q17, .int S2.2.1.2.2.2.2])), (q14, .inl (cZ, 40, .inl S2.2.1.1)), (q15, .inl (cI, 40, .inl S2.2.1.2.1)), (q16, .inl (cI, 40, .inl S2.2.1.2.2.1)), (q17, .inl (cI, 40, .inl S2.2.1.2.2.2.1))] : va_W) = [(q0, .inr (3, [.ref q2, .ref q1])), (q1, .inl (cQ, 4, .inr (.inr (.inr (.inr S0))))), (q2, .inr (1, [.ref q3, .ref q4, .ref q5, .ref q6, .ref q7, .ref q8, .ref q9, .ref q10, .int S1.2.2.2.2.2.2.2.2.1, .int S1.2.2.2.2.2.2.2.2.2])), (q3, .inl (cI, 301, .inl S1.1)), (q4, .inl (cI, 301, .inl S1.2.1)), (q5, .inl (cI, 301, .inl S1.2.2.1)), (q6, .inl (cI, 301, .inl S1.2.2.2.1)), (q7, .inl (cI, 301, .inl S1.2.2.2.2.1)), (q8, .inl (cI, 301, .inl S1.2.2.2.2.2.1)), (q9, .inl (cI, 301, .inl S1.2.2.2.2.2.2.1)), (q10, .inl (cI, 300, .inl S1.2.2.2.2.2.2.2.1)), (q11, .inr (2, [.ref q12, .ref q13, .int S2.2.2.1, .int S2.2.2.2.1, .int S2.2.2.2.2])), (q12, .inl (cI, 301, .inl S2.1)), (q13, .inr (0, [.ref q14, .ref q15, .ref q16, .ref q17, .int S2.2.1.2.2.2.2])), (q14, .inl (cZ, 40, .inl S2.2.1.1)), (q15, .inl (cI, 40, .inl S2.2.1.2.1)), (q16, .inl (cI, 40, .inl S2.2.1.2.2.1)), (q17, .inl (cI, 40, .inl S2.2.1.2.2.2.1))] from rfl).trans rfl
theorem hC_B_object_104 (cI cZ cQ : ClassId) (q0 q1 q2 q3 q4 q5 q6 q7 q8 q9 q10 q11 q12 q13 q14 q15 q16 q17 : Nat) (S0 : (Nat → Option Nat)) (S1 : cL) (S2 : cP) : ([13, 14, 15, 16, 17] : List Nat).map (fun i => (wB cI cZ cQ q0 q1 q2 S0 ++ wL cI cZ q2 q3 q4 q5 q6 q7 q8 q9 q10 S1 ++ wP cI cZ q11 q12 q13 q14 q15 q16 q17 S2 : va_W)[i]?) = (wT cI cZ q13 q14 q15 q16 q17 S2.2.1 : va_W).map some := rfl
theorem hF_T_childCount (cI cZ cQ : ClassId) {h0 a1 a2 a3 a4 : Nat} (S0 R0 : cT) : (wT cI cZ h0 a1 a2 a3 a4 R0 : va_W).map Prod.fst = (wT cI cZ h0 a1 a2 a3 a4 S0 : va_W).map Prod.fst := rfl
theorem hU_B_object_104 (cI cZ cQ : ClassId) (q0 q1 q2 q3 q4 q5 q6 q7 q8 q9 q10 q11 q12 q13 q14 q15 q16 q17 : Nat) (S0 : (Nat → Option Nat)) (S1 : cL) (S2 : cP)  : vz_put (wB cI cZ cQ q0 q1 q2 S0 ++ wL cI cZ q2 q3 q4 q5 q6 q7 q8 q9 q10 S1 ++ wP cI cZ q11 q12 q13 q14 q15 q16 q17 S2 : va_W) [13, 14, 15, 16, 17] (wT cI cZ q13 q14 q15 q16 q17 S2.2.1 : va_W) = wB cI cZ cQ q0 q1 q2 S0 ++ wL cI cZ q2 q3 q4 q5 q6 q7 q8 q9 q10 S1 ++ wP cI cZ q11 q12 q13 q14 q15 q16 q17 S2 := (show vz_put ([(q0, .inr (3, [.ref q2, .ref q1])), (q1, .inl (cQ, 4, .inr (.inr (.inr (.inr S0))))), (q2, .inr (1, [.ref q3, .ref q4, .ref q5, .ref q6, .ref q7, .ref q8, .ref q9, .ref q10, .int S1.2.2.2.2.2.2.2.2.1, .int S1.2.2.2.2.2.2.2.2.2])), (q3, .inl (cI, 301, .inl S1.1)), (q4, .inl (cI, 301, .inl S1.2.1)), (q5, .inl (cI, 301, .inl S1.2.2.1)), (q6, .inl (cI, 301, .inl S1.2.2.2.1)), (q7, .inl (cI, 301, .inl S1.2.2.2.2.1)), (q8, .inl (cI, 301, .inl S1.2.2.2.2.2.1)), (q9, .inl (cI, 301, .inl S1.2.2.2.2.2.2.1)), (q10, .inl (cI, 300, .inl S1.2.2.2.2.2.2.2.1)), (q11, .inr (2, [.ref q12, .ref q13, .int S2.2.2.1, .int S2.2.2.2.1, .int S2.2.2.2.2])), (q12, .inl (cI, 301, .inl S2.1)), (q13, .inr (0, [.ref q14, .ref q15, .ref q16, .ref q17, .int S2.2.1.2.2.2.2])), (q14, .inl (cZ, 40, .inl S2.2.1.1)), (q15, .inl (cI, 40, .inl S2.2.1.2.1)), (q16, .inl (cI, 40, .inl S2.2.1.2.2.1)), (q17, .inl (cI, 40, .inl S2.2.1.2.2.2.1))] : va_W) [13, 14, 15, 16, 17] ([(q13, .inr (0, [.ref q14, .ref q15, .ref q16, .ref q17, .int S2.2.1.2.2.2.2])), (q14, .inl (cZ, 40, .inl S2.2.1.1)), (q15, .inl (cI, 40, .inl S2.2.1.2.1)), (q16, .inl (cI, 40, .inl S2.2.1.2.2.1)), (q17, .inl (cI, 40, .inl S2.2.1.2.2.2.1))] : va_W) = [(q0, .inr (3, [.ref q2, .ref q1])), (q1, .inl (cQ, 4, .inr (.inr (.inr (.inr S0))))), (q2, .inr (1, [.ref q3, .ref q4, .ref q5, .ref q6, .ref q7, .ref q8, .ref q9, .ref q10, .int S1.2.2.2.2.2.2.2.2.1, .int S1.2.2.2.2.2.2.2.2.2])), (q3, .inl (cI, 301, .inl S1.1)), (q4, .inl (cI, 301, .inl S1.2.1)), (q5, .inl (cI, 301, .inl S1.2.2.1)), (q6, .inl (cI, 301, .inl S1.2.2.2.1)), (q7, .inl (cI, 301, .inl S1.2.2.2.2.1)), (q8, .inl (cI, 301, .inl S1.2.2.2.2.2.1)), (q9, .inl (cI, 301, .inl S1.2.2.2.2.2.2.1)), (q10, .inl (cI, 300, .inl S1.2.2.2.2.2.2.2.1)), (q11, .inr (2, [.ref q12, .ref q13, .int S2.2.2.1, .int S2.2.2.2.1, .int S2.2.2.2.2])), (q12, .inl (cI, 301, .inl S2.1)), (q13, .inr (0, [.ref q14, .ref q15, .ref q16, .ref q17, .int S2.2.1.2.2.2.2])), (q14, .inl (cZ, 40, .inl S2.2.1.1)), (q15, .inl (cI, 40, .inl S2.2.1.2.1)), (q16, .inl (cI, 40, .inl S2.2.1.2.2.1)), (q17, .inl (cI, 40, .inl S2.2.1.2.2.2.1))] from rfl).trans rfl
theorem hC_B_object_111 (cI cZ cQ : ClassId) (q0 q1 q2 q3 q4 q5 q6 q7 q8 q9 q10 q11 q12 q13 q14 q15 q16 q17 : Nat) (S0 : (Nat → Option Nat)) (S1 : cL) (S2 : cP) : ([13, 14, 15, 16, 17] : List Nat).map (fun i => (wB cI cZ cQ q0 q1 q2 S0 ++ wL cI cZ q2 q3 q4 q5 q6 q7 q8 q9 q10 S1 ++ wP cI cZ q11 q12 q13 q14 q15 q16 q17 S2 : va_W)[i]?) = (wT cI cZ q13 q14 q15 q16 q17 S2.2.1 : va_W).map some := rfl
theorem hU_B_object_111 (cI cZ cQ : ClassId) (q0 q1 q2 q3 q4 q5 q6 q7 q8 q9 q10 q11 q12 q13 q14 q15 q16 q17 : Nat) (S0 : (Nat → Option Nat)) (S1 : cL) (S2 : cP)  : vz_put (wB cI cZ cQ q0 q1 q2 S0 ++ wL cI cZ q2 q3 q4 q5 q6 q7 q8 q9 q10 S1 ++ wP cI cZ q11 q12 q13 q14 q15 q16 q17 S2 : va_W) [13, 14, 15, 16, 17] (wT cI cZ q13 q14 q15 q16 q17 S2.2.1 : va_W) = wB cI cZ cQ q0 q1 q2 S0 ++ wL cI cZ q2 q3 q4 q5 q6 q7 q8 q9 q10 S1 ++ wP cI cZ q11 q12 q13 q14 q15 q16 q17 S2 := (show vz_put ([(q0, .inr (3, [.ref q2, .ref q1])), (q1, .inl (cQ, 4, .inr (.inr (.inr (.inr S0))))), (q2, .inr (1, [.ref q3, .ref q4, .ref q5, .ref q6, .ref q7, .ref q8, .ref q9, .ref q10, .int S1.2.2.2.2.2.2.2.2.1, .int S1.2.2.2.2.2.2.2.2.2])), (q3, .inl (cI, 301, .inl S1.1)), (q4, .inl (cI, 301, .inl S1.2.1)), (q5, .inl (cI, 301, .inl S1.2.2.1)), (q6, .inl (cI, 301, .inl S1.2.2.2.1)), (q7, .inl (cI, 301, .inl S1.2.2.2.2.1)), (q8, .inl (cI, 301, .inl S1.2.2.2.2.2.1)), (q9, .inl (cI, 301, .inl S1.2.2.2.2.2.2.1)), (q10, .inl (cI, 300, .inl S1.2.2.2.2.2.2.2.1)), (q11, .inr (2, [.ref q12, .ref q13, .int S2.2.2.1, .int S2.2.2.2.1, .int S2.2.2.2.2])), (q12, .inl (cI, 301, .inl S2.1)), (q13, .inr (0, [.ref q14, .ref q15, .ref q16, .ref q17, .int S2.2.1.2.2.2.2])), (q14, .inl (cZ, 40, .inl S2.2.1.1)), (q15, .inl (cI, 40, .inl S2.2.1.2.1)), (q16, .inl (cI, 40, .inl S2.2.1.2.2.1)), (q17, .inl (cI, 40, .inl S2.2.1.2.2.2.1))] : va_W) [13, 14, 15, 16, 17] ([(q13, .inr (0, [.ref q14, .ref q15, .ref q16, .ref q17, .int S2.2.1.2.2.2.2])), (q14, .inl (cZ, 40, .inl S2.2.1.1)), (q15, .inl (cI, 40, .inl S2.2.1.2.1)), (q16, .inl (cI, 40, .inl S2.2.1.2.2.1)), (q17, .inl (cI, 40, .inl S2.2.1.2.2.2.1))] : va_W) = [(q0, .inr (3, [.ref q2, .ref q1])), (q1, .inl (cQ, 4, .inr (.inr (.inr (.inr S0))))), (q2, .inr (1, [.ref q3, .ref q4, .ref q5, .ref q6, .ref q7, .ref q8, .ref q9, .ref q10, .int S1.2.2.2.2.2.2.2.2.1, .int S1.2.2.2.2.2.2.2.2.2])), (q3, .inl (cI, 301, .inl S1.1)), (q4, .inl (cI, 301, .inl S1.2.1)), (q5, .inl (cI, 301, .inl S1.2.2.1)), (q6, .inl (cI, 301, .inl S1.2.2.2.1)), (q7, .inl (cI, 301, .inl S1.2.2.2.2.1)), (q8, .inl (cI, 301, .inl S1.2.2.2.2.2.1)), (q9, .inl (cI, 301, .inl S1.2.2.2.2.2.2.1)), (q10, .inl (cI, 300, .inl S1.2.2.2.2.2.2.2.1)), (q11, .inr (2, [.ref q12, .ref q13, .int S2.2.2.1, .int S2.2.2.2.1, .int S2.2.2.2.2])), (q12, .inl (cI, 301, .inl S2.1)), (q13, .inr (0, [.ref q14, .ref q15, .ref q16, .ref q17, .int S2.2.1.2.2.2.2])), (q14, .inl (cZ, 40, .inl S2.2.1.1)), (q15, .inl (cI, 40, .inl S2.2.1.2.1)), (q16, .inl (cI, 40, .inl S2.2.1.2.2.1)), (q17, .inl (cI, 40, .inl S2.2.1.2.2.2.1))] from rfl).trans rfl
theorem hC_B_object_126 (cI cZ cQ : ClassId) (q0 q1 q2 q3 q4 q5 q6 q7 q8 q9 q10 q11 q12 q13 q14 q15 q16 q17 : Nat) (S0 : (Nat → Option Nat)) (S1 : cL) (S2 : cP) : ([13, 14, 15, 16, 17] : List Nat).map (fun i => (wB cI cZ cQ q0 q1 q2 S0 ++ wL cI cZ q2 q3 q4 q5 q6 q7 q8 q9 q10 S1 ++ wP cI cZ q11 q12 q13 q14 q15 q16 q17 S2 : va_W)[i]?) = (wT cI cZ q13 q14 q15 q16 q17 S2.2.1 : va_W).map some := rfl
theorem hU_B_object_126 (cI cZ cQ : ClassId) (q0 q1 q2 q3 q4 q5 q6 q7 q8 q9 q10 q11 q12 q13 q14 q15 q16 q17 : Nat) (S0 : (Nat → Option Nat)) (S1 : cL) (S2 : cP)  : vz_put (wB cI cZ cQ q0 q1 q2 S0 ++ wL cI cZ q2 q3 q4 q5 q6 q7 q8 q9 q10 S1 ++ wP cI cZ q11 q12 q13 q14 q15 q16 q17 S2 : va_W) [13, 14, 15, 16, 17] (wT cI cZ q13 q14 q15 q16 q17 S2.2.1 : va_W) = wB cI cZ cQ q0 q1 q2 S0 ++ wL cI cZ q2 q3 q4 q5 q6 q7 q8 q9 q10 S1 ++ wP cI cZ q11 q12 q13 q14 q15 q16 q17 S2 := (show vz_put ([(q0, .inr (3, [.ref q2, .ref q1])), (q1, .inl (cQ, 4, .inr (.inr (.inr (.inr S0))))), (q2, .inr (1, [.ref q3, .ref q4, .ref q5, .ref q6, .ref q7, .ref q8, .ref q9, .ref q10, .int S1.2.2.2.2.2.2.2.2.1, .int S1.2.2.2.2.2.2.2.2.2])), (q3, .inl (cI, 301, .inl S1.1)), (q4, .inl (cI, 301, .inl S1.2.1)), (q5, .inl (cI, 301, .inl S1.2.2.1)), (q6, .inl (cI, 301, .inl S1.2.2.2.1)), (q7, .inl (cI, 301, .inl S1.2.2.2.2.1)), (q8, .inl (cI, 301, .inl S1.2.2.2.2.2.1)), (q9, .inl (cI, 301, .inl S1.2.2.2.2.2.2.1)), (q10, .inl (cI, 300, .inl S1.2.2.2.2.2.2.2.1)), (q11, .inr (2, [.ref q12, .ref q13, .int S2.2.2.1, .int S2.2.2.2.1, .int S2.2.2.2.2])), (q12, .inl (cI, 301, .inl S2.1)), (q13, .inr (0, [.ref q14, .ref q15, .ref q16, .ref q17, .int S2.2.1.2.2.2.2])), (q14, .inl (cZ, 40, .inl S2.2.1.1)), (q15, .inl (cI, 40, .inl S2.2.1.2.1)), (q16, .inl (cI, 40, .inl S2.2.1.2.2.1)), (q17, .inl (cI, 40, .inl S2.2.1.2.2.2.1))] : va_W) [13, 14, 15, 16, 17] ([(q13, .inr (0, [.ref q14, .ref q15, .ref q16, .ref q17, .int S2.2.1.2.2.2.2])), (q14, .inl (cZ, 40, .inl S2.2.1.1)), (q15, .inl (cI, 40, .inl S2.2.1.2.1)), (q16, .inl (cI, 40, .inl S2.2.1.2.2.1)), (q17, .inl (cI, 40, .inl S2.2.1.2.2.2.1))] : va_W) = [(q0, .inr (3, [.ref q2, .ref q1])), (q1, .inl (cQ, 4, .inr (.inr (.inr (.inr S0))))), (q2, .inr (1, [.ref q3, .ref q4, .ref q5, .ref q6, .ref q7, .ref q8, .ref q9, .ref q10, .int S1.2.2.2.2.2.2.2.2.1, .int S1.2.2.2.2.2.2.2.2.2])), (q3, .inl (cI, 301, .inl S1.1)), (q4, .inl (cI, 301, .inl S1.2.1)), (q5, .inl (cI, 301, .inl S1.2.2.1)), (q6, .inl (cI, 301, .inl S1.2.2.2.1)), (q7, .inl (cI, 301, .inl S1.2.2.2.2.1)), (q8, .inl (cI, 301, .inl S1.2.2.2.2.2.1)), (q9, .inl (cI, 301, .inl S1.2.2.2.2.2.2.1)), (q10, .inl (cI, 300, .inl S1.2.2.2.2.2.2.2.1)), (q11, .inr (2, [.ref q12, .ref q13, .int S2.2.2.1, .int S2.2.2.2.1, .int S2.2.2.2.2])), (q12, .inl (cI, 301, .inl S2.1)), (q13, .inr (0, [.ref q14, .ref q15, .ref q16, .ref q17, .int S2.2.1.2.2.2.2])), (q14, .inl (cZ, 40, .inl S2.2.1.1)), (q15, .inl (cI, 40, .inl S2.2.1.2.1)), (q16, .inl (cI, 40, .inl S2.2.1.2.2.1)), (q17, .inl (cI, 40, .inl S2.2.1.2.2.2.1))] from rfl).trans rfl
def m_B_object (L : cL) (P : cP) (x1 : Int32) (x2 : Int32) (x3 : Int32) : Int32 := (if (m_B_isNode x1) = 0 then -1 else (if (m_B_isObject L x2) = 0 then -1 else (if (P.2.1.1 x2.toNatClampNeg) = 0 then -1 else (if x3 = 0 then P.2.1.2.1 x2.toNatClampNeg else (if x3 = 1 then (m_T_stepsUp P.2.1 x2 (m_T_topOf P.2.1 x2)) else (if x3 = 2 then (m_T_childCount P.2.1 x2) else (if x3 = 3 then (if (m_T_topOf P.2.1 x2) = 0 then 0 else 1) else (if x3 = 4 then (m_T_placeOf P.2.1 x2) else (if x3 = 5 then P.2.1.2.2.1 x2.toNatClampNeg else -1)))))))))
set_option maxHeartbeats 1000000 in
set_option maxRecDepth 100000 in
theorem c_B_object (l : Launch) (dC : Nat → ClassId) (dI : Nat → Nat → Nat) (cI cZ cQ : ClassId) (b0 : Nat) (b1 : Nat) (F : Nat → Option Nat) (u0 : Nat) (u1 : Nat) (u2 : Nat) (u3 : Nat) (u4 : Nat) (u5 : Nat) (u6 : Nat) (u7 : Nat) (u8 : Nat) (L : cL) (p0 : Nat) (p1 : Nat) (h0 : Nat) (a1 : Nat) (a2 : Nat) (a3 : Nat) (a4 : Nat) (P : cP) (x1 : Int32) (x2 : Int32) (x3 : Int32) (hF : 0 ≤ x1.toInt → x1.toInt < 4 → F x1.toNatClampNeg = some p0) (hL : okL L) (hok : okT P.2.1) : vz_C l (dC, dI) classes [(cI, .int), (cZ, .boolean), (cQ, .object "BinTrees$Person")] y_B_object (Cond.code y_B_object b_B_object 5 (some .int) :: vz_tbl) ({ frames := 1, cells := 0, slots := 0, locals := 24 }) [.ref b0, .int x1, .int x2, .int x3] (wB cI cZ cQ b0 b1 u0 F ++ wL cI cZ u0 u1 u2 u3 u4 u5 u6 u7 u8 L ++ wP cI cZ p0 p1 h0 a1 a2 a3 a4 P) (some (.int (m_B_object L P x1 x2 x3))) (wB cI cZ cQ b0 b1 u0 F ++ wL cI cZ u0 u1 u2 u3 u4 u5 u6 u7 u8 L ++ wP cI cZ p0 p1 h0 a1 a2 a3 a4 P) := by
  generalize hres : (m_B_object L P x1 x2 x3) = RES
  refine vz_C.of (by decide) (Nat.le_of_ble_eq_true rfl) ?_
  intro p e s m below meth c ls E hl hK hP hD hS
  obtain ⟨hx, hb, hr, hml, hown, hT, hlocks⟩ := E
  obtain ⟨Q, hQ⟩ : ∃ Q, Q = MQ below (vz_Q (dC, dI) classes (wB cI cZ cQ b0 b1 u0 F ++ wL cI cZ u0 u1 u2 u3 u4 u5 u6 u7 u8 L ++ wP cI cZ p0 p1 h0 a1 a2 a3 a4 P) (some (.int RES)) (wB cI cZ cQ b0 b1 u0 F ++ wL cI cZ u0 u1 u2 u3 u4 u5 u6 u7 u8 L ++ wP cI cZ p0 p1 h0 a1 a2 a3 a4 P)) ([.ref b0, .int x1, .int x2, .int x3] : List Value).toArray s 0 0 (vz_A (wB cI cZ cQ b0 b1 u0 F ++ wL cI cZ u0 u1 u2 u3 u4 u5 u6 u7 u8 L ++ wP cI cZ p0 p1 h0 a1 a2 a3 a4 P)) := ⟨_, rfl⟩
  rw [← hQ]
  have hl : lv_has ls 5 [(0, .ref b0), (1, .int x1), (2, .int x2), (3, .int x3)] := hl
  have T0 := ti_0
  have T1 := ti_1
  have Tm := ti_m1
  have T8 := ti_8
  have T39 := ti_39
  have T40 := ti_40
  have T4 := ti_4
  have T300 := ti_300
  have hS0 := hS
  refine lv_iload_n hx hb d_B_object_0 rfl (lv_at hl 1 rfl) ?_
  have hc := c_B_isNode l dC dI cI cZ cQ x1 
  generalize hg_1 : (m_B_isNode x1) = g_1 at hc
  refine vz_callS (As := [.int x1]) (rest := []) ⟨hx, hb, hml, hown, hT⟩ hc (vz_goodS kw_147 kw_148 kw_1 kw_149) hd_B_isNode ⟨⟨rfl, rfl⟩, Nat.le_of_ble_eq_true rfl, Nat.le_of_ble_eq_true rfl⟩ hK hP hD hS [] rfl (hC_B_object_1 cI cZ cQ b0 b1 u0 u1 u2 u3 u4 u5 u6 u7 u8 p0 p1 h0 a1 a2 a3 a4 F L P) (hF_B_isNode cI cZ cQ ) rfl hl.1 rfl (Nat.le_of_ble_eq_true rfl) ⟨Nat.zero_le _, Nat.zero_le _⟩ d_B_object_1 (fun H locs hP hD hS => ?_)
  have hP : va_P (dC, dI) classes (wB cI cZ cQ b0 b1 u0 F ++ wL cI cZ u0 u1 u2 u3 u4 u5 u6 u7 u8 L ++ wP cI cZ p0 p1 h0 a1 a2 a3 a4 P) H := vz_reP (hU_B_object_1 cI cZ cQ b0 b1 u0 u1 u2 u3 u4 u5 u6 u7 u8 p0 p1 h0 a1 a2 a3 a4 F L P ) hP
  have hD : va_D (vz_A (wB cI cZ cQ b0 b1 u0 F ++ wL cI cZ u0 u1 u2 u3 u4 u5 u6 u7 u8 L ++ wP cI cZ p0 p1 h0 a1 a2 a3 a4 P)) (wB cI cZ cQ b0 b1 u0 F ++ wL cI cZ u0 u1 u2 u3 u4 u5 u6 u7 u8 L ++ wP cI cZ p0 p1 h0 a1 a2 a3 a4 P) := vz_reD (hU_B_object_1 cI cZ cQ b0 b1 u0 u1 u2 u3 u4 u5 u6 u7 u8 p0 p1 h0 a1 a2 a3 a4 F L P ) hD
  refine W.eq (g2 := F0 m 4 ls [.int g_1]) rfl ?_
  refine lv_if_eq (tgt := 15) hx hb d_B_object_4 (by decide) (fun c_4 => ?_) (fun c_4 => ?_)
  · have z_4 := congrArg Int32.toInt c_4
    refine lv_iconst (v := -1) hx hb d_B_object_15 (by decide) ?_
    rw [m_B_object] at hres
    try rw [hg_1] at hres
    rw [if_pos c_4] at hres
    subst hres
    subst hQ
    exact vz_iret hx hb hr hlocks d_B_object_16 hS rfl hP
  · have z_4 := mt Int32.toInt_inj.mp c_4
    refine lv_aload_n hx hb d_B_object_7 rfl (lv_at hl 0 rfl) ?_
    refine lv_iload_n hx hb d_B_object_8 rfl (lv_at hl 2 rfl) ?_
    have hc := c_B_isObject l dC dI cI cZ cQ b0 b1 F u0 u1 u2 u3 u4 u5 u6 u7 u8 L x2 
    generalize hg_9 : (m_B_isObject L x2) = g_9 at hc
    refine vz_callV (As := [.int x2]) (rest := []) ⟨hx, hb, hml, hown, hT⟩ hc (vz_goodV kw_235 kw_237 ks_10 kw_1 kw_238) ⟨rfl, hd_B_isObject⟩ ⟨⟨rfl, rfl⟩, Nat.le_of_ble_eq_true rfl, Nat.le_of_ble_eq_true rfl⟩ hK hP hD hS [0, 1, 2, 3, 4, 5, 6, 7, 8, 9, 10] rfl (hC_B_object_9 cI cZ cQ b0 b1 u0 u1 u2 u3 u4 u5 u6 u7 u8 p0 p1 h0 a1 a2 a3 a4 F L P) (hF_B_isObject cI cZ cQ _ _ _ _) 0 3 rfl rfl rfl rfl hl.1 rfl (Nat.le_of_ble_eq_true rfl) ⟨Nat.zero_le _, Nat.zero_le _⟩ d_B_object_9 (fun H locs hP hD hS => ?_)
    have hP : va_P (dC, dI) classes (wB cI cZ cQ b0 b1 u0 F ++ wL cI cZ u0 u1 u2 u3 u4 u5 u6 u7 u8 L ++ wP cI cZ p0 p1 h0 a1 a2 a3 a4 P) H := vz_reP (hU_B_object_9 cI cZ cQ b0 b1 u0 u1 u2 u3 u4 u5 u6 u7 u8 p0 p1 h0 a1 a2 a3 a4 F L P ) hP
    have hD : va_D (vz_A (wB cI cZ cQ b0 b1 u0 F ++ wL cI cZ u0 u1 u2 u3 u4 u5 u6 u7 u8 L ++ wP cI cZ p0 p1 h0 a1 a2 a3 a4 P)) (wB cI cZ cQ b0 b1 u0 F ++ wL cI cZ u0 u1 u2 u3 u4 u5 u6 u7 u8 L ++ wP cI cZ p0 p1 h0 a1 a2 a3 a4 P) := vz_reD (hU_B_object_9 cI cZ cQ b0 b1 u0 u1 u2 u3 u4 u5 u6 u7 u8 p0 p1 h0 a1 a2 a3 a4 F L P ) hD
    refine W.eq (g2 := F0 m 12 ls [.int g_9]) rfl ?_
    refine lv_if_ne (tgt := 17) hx hb d_B_object_12 (by decide) (fun c_12 => ?_) (fun c_12 => ?_)
    · have z_12 := mt Int32.toInt_inj.mp c_12
      refine lv_aload_n hx hb d_B_object_17 rfl (lv_at hl 0 rfl) ?_
      refine va_get (D := (dC, dI)) (ci := 3) (v := .ref b1) (C := R_B) (T := F_B) (N := 2) hx hb hT i_B hown hK hP 0 rfl rfl 1 (by decide) (hT _ kw_133) (fun _ h9 => h9) rfl d_B_object_18 ?_
      refine lv_iload_n hx hb d_B_object_21 rfl (lv_at hl 1 rfl) ?_
      refine va_aldq hx hb hK hP 1 2 rfl rfl (by have hn := isn_t (x0 := x1) (by rw [hg_1]; assumption); exact ti_vp (by omega) (by omega)) d_B_object_22 ?_
      rw [show va_rf (F x1.toNatClampNeg) = .ref p0 from by have hn := isn_t (x0 := x1) (by rw [hg_1]; assumption); rw [hF hn.1 hn.2]; rfl]
      refine va_get (D := (dC, dI)) (ci := 2) (v := .ref h0) (C := R_P) (T := F_P) (N := 5) hx hb hT i_P hown hK hP 11 rfl rfl 1 (by decide) (hT _ kw_114) (fun _ h9 => h9) rfl d_B_object_23 ?_
      refine lv_astore (lv' := [(4, .ref h0), (0, .ref b0), (1, .int x1), (2, .int x2), (3, .int x3)]) hx hb d_B_object_26 hl (by decide) rfl (fun ls hl => ?_)
      refine lv_aload hx hb d_B_object_28 (lv_at hl 0 rfl) ?_
      refine va_get (D := (dC, dI)) (ci := 0) (v := .ref a1) (C := R_T) (T := F_T) (N := 5) hx hb hT i_T hown hK hP 13 rfl rfl 0 (by decide) (hT _ kw_91) (fun _ h9 => h9) rfl d_B_object_30 ?_
      refine lv_iload_n hx hb d_B_object_33 rfl (lv_at hl 3 rfl) ?_
      refine va_zald hx hb hK hP 14 1 rfl rfl (by have ho := iso_t (L := L) (x1 := x2) (by rw [hg_9]; assumption); have hl1 := hL.2.2; exact ti_vp (by omega) (by omega)) d_B_object_34 ?_
      refine lv_if_ne (tgt := 40) hx hb d_B_object_35 (by decide) (fun c_35 => ?_) (fun c_35 => ?_)
      · have z_35 := mt Int32.toInt_inj.mp c_35
        refine lv_iload_n hx hb d_B_object_40 rfl (lv_at hl 4 rfl) ?_
        by_cases c_41_0 : x3 = 0
        · refine lv_tableIn (off := 39) (tgt := 80) hx hb d_B_object_41 (by rw [c_41_0]; decide) (by rw [c_41_0]; decide) (by rw [c_41_0]; decide) (by decide) ?_
          refine lv_aload hx hb d_B_object_80 (lv_at hl 0 rfl) ?_
          refine va_get (D := (dC, dI)) (ci := 0) (v := .ref a2) (C := R_T) (T := F_T) (N := 5) hx hb hT i_T hown hK hP 13 rfl rfl 1 (by decide) (hT _ kw_93) (fun _ h9 => h9) rfl d_B_object_82 ?_
          refine lv_iload_n hx hb d_B_object_85 rfl (lv_at hl 3 rfl) ?_
          refine va_iald hx hb hK hP 15 0 rfl rfl (by have ho := iso_t (L := L) (x1 := x2) (by rw [hg_9]; assumption); have hl1 := hL.2.2; exact ti_vp (by omega) (by omega)) d_B_object_86 ?_
          rw [m_B_object] at hres
          try rw [hg_1] at hres
          rw [if_neg c_4] at hres
          try rw [hg_9] at hres
          rw [if_neg c_12, if_neg c_35, if_pos c_41_0] at hres
          subst hres
          subst hQ
          exact vz_iret hx hb hr hlocks d_B_object_87 hS rfl hP
        · by_cases c_41_1 : x3 = 1
          · refine lv_tableIn (off := 47) (tgt := 88) hx hb d_B_object_41 (by rw [c_41_1]; decide) (by rw [c_41_1]; decide) (by rw [c_41_1]; decide) (by decide) ?_
            refine lv_aload hx hb d_B_object_88 (lv_at hl 0 rfl) ?_
            refine lv_iload_n hx hb d_B_object_90 rfl (lv_at hl 3 rfl) ?_
            refine lv_aload hx hb d_B_object_91 (lv_at hl 0 rfl) ?_
            refine lv_iload_n hx hb d_B_object_93 rfl (lv_at hl 3 rfl) ?_
            have hc := c_T_topOf l dC dI cI cZ cQ h0 a1 a2 a3 a4 P.2.1 x2 (hok.1) (by have ho := iso_t (L := L) (x1 := x2) (by rw [hg_9]; assumption); have hl1 := hL.2.2; omega)
            generalize hg_94 : (m_T_topOf P.2.1 x2) = g_94 at hc
            refine vz_callV (As := [.int x2]) (rest := [.int x2, .ref h0]) ⟨hx, hb, hml, hown, hT⟩ hc (vz_goodV kw_272 kw_273 kw_274 kw_4 kw_275) ⟨rfl, hd_T_topOf⟩ ⟨⟨rfl, rfl⟩, Nat.le_of_ble_eq_true rfl, Nat.le_of_ble_eq_true rfl⟩ hK hP hD hS [13, 14, 15, 16, 17] rfl (hC_B_object_94 cI cZ cQ b0 b1 u0 u1 u2 u3 u4 u5 u6 u7 u8 p0 p1 h0 a1 a2 a3 a4 F L P) (hF_T_topOf cI cZ cQ _ _) 0 0 rfl rfl rfl rfl hl.1 rfl (Nat.le_of_ble_eq_true rfl) ⟨Nat.zero_le _, Nat.zero_le _⟩ d_B_object_94 (fun H locs hP hD hS => ?_)
            have hP : va_P (dC, dI) classes (wB cI cZ cQ b0 b1 u0 F ++ wL cI cZ u0 u1 u2 u3 u4 u5 u6 u7 u8 L ++ wP cI cZ p0 p1 h0 a1 a2 a3 a4 P) H := vz_reP (hU_B_object_94 cI cZ cQ b0 b1 u0 u1 u2 u3 u4 u5 u6 u7 u8 p0 p1 h0 a1 a2 a3 a4 F L P ) hP
            have hD : va_D (vz_A (wB cI cZ cQ b0 b1 u0 F ++ wL cI cZ u0 u1 u2 u3 u4 u5 u6 u7 u8 L ++ wP cI cZ p0 p1 h0 a1 a2 a3 a4 P)) (wB cI cZ cQ b0 b1 u0 F ++ wL cI cZ u0 u1 u2 u3 u4 u5 u6 u7 u8 L ++ wP cI cZ p0 p1 h0 a1 a2 a3 a4 P) := vz_reD (hU_B_object_94 cI cZ cQ b0 b1 u0 u1 u2 u3 u4 u5 u6 u7 u8 p0 p1 h0 a1 a2 a3 a4 F L P ) hD
            refine W.eq (g2 := F0 m 97 ls [.int g_94, .int x2, .ref h0]) rfl ?_
            have hc := c_T_stepsUp l dC dI cI cZ cQ h0 a1 a2 a3 a4 P.2.1 x2 g_94 (hok.1) (by have ho := iso_t (L := L) (x1 := x2) (by rw [hg_9]; assumption); have hl1 := hL.2.2; omega)
            generalize hg_97 : (m_T_stepsUp P.2.1 x2 g_94) = g_97 at hc
            refine vz_callV (As := [.int x2, .int g_94]) (rest := []) ⟨hx, hb, hml, hown, hT⟩ hc (vz_goodV kw_276 kw_202 kw_203 kw_4 kw_204) ⟨rfl, hd_T_stepsUp⟩ ⟨⟨rfl, rfl⟩, Nat.le_of_ble_eq_true rfl, Nat.le_of_ble_eq_true rfl⟩ hK hP hD hS [13, 14, 15, 16, 17] rfl (hC_B_object_97 cI cZ cQ b0 b1 u0 u1 u2 u3 u4 u5 u6 u7 u8 p0 p1 h0 a1 a2 a3 a4 F L P) (hF_T_stepsUp cI cZ cQ _ _) 0 0 rfl rfl rfl rfl hl.1 rfl (Nat.le_of_ble_eq_true rfl) ⟨Nat.zero_le _, Nat.zero_le _⟩ d_B_object_97 (fun H locs hP hD hS => ?_)
            have hP : va_P (dC, dI) classes (wB cI cZ cQ b0 b1 u0 F ++ wL cI cZ u0 u1 u2 u3 u4 u5 u6 u7 u8 L ++ wP cI cZ p0 p1 h0 a1 a2 a3 a4 P) H := vz_reP (hU_B_object_97 cI cZ cQ b0 b1 u0 u1 u2 u3 u4 u5 u6 u7 u8 p0 p1 h0 a1 a2 a3 a4 F L P ) hP
            have hD : va_D (vz_A (wB cI cZ cQ b0 b1 u0 F ++ wL cI cZ u0 u1 u2 u3 u4 u5 u6 u7 u8 L ++ wP cI cZ p0 p1 h0 a1 a2 a3 a4 P)) (wB cI cZ cQ b0 b1 u0 F ++ wL cI cZ u0 u1 u2 u3 u4 u5 u6 u7 u8 L ++ wP cI cZ p0 p1 h0 a1 a2 a3 a4 P) := vz_reD (hU_B_object_97 cI cZ cQ b0 b1 u0 u1 u2 u3 u4 u5 u6 u7 u8 p0 p1 h0 a1 a2 a3 a4 F L P ) hD
            refine W.eq (g2 := F0 m 100 ls [.int g_97]) rfl ?_
            rw [m_B_object] at hres
            try rw [hg_1] at hres
            rw [if_neg c_4] at hres
            try rw [hg_9] at hres
            rw [if_neg c_12, if_neg c_35, if_neg c_41_0, if_pos c_41_1] at hres
            try rw [hg_94] at hres
            try rw [hg_97] at hres
            subst hres
            subst hQ
            exact vz_iret hx hb hr hlocks d_B_object_100 hS rfl hP
          · by_cases c_41_2 : x3 = 2
            · refine lv_tableIn (off := 60) (tgt := 101) hx hb d_B_object_41 (by rw [c_41_2]; decide) (by rw [c_41_2]; decide) (by rw [c_41_2]; decide) (by decide) ?_
              refine lv_aload hx hb d_B_object_101 (lv_at hl 0 rfl) ?_
              refine lv_iload_n hx hb d_B_object_103 rfl (lv_at hl 3 rfl) ?_
              have hc := c_T_childCount l dC dI cI cZ cQ h0 a1 a2 a3 a4 P.2.1 x2 (ok_le hok) (hok.2.1)
              generalize hg_104 : (m_T_childCount P.2.1 x2) = g_104 at hc
              refine vz_callV (As := [.int x2]) (rest := []) ⟨hx, hb, hml, hown, hT⟩ hc (vz_goodV kw_277 kw_278 kw_279 kw_4 kw_280) ⟨rfl, hd_T_childCount⟩ ⟨⟨rfl, rfl⟩, Nat.le_of_ble_eq_true rfl, Nat.le_of_ble_eq_true rfl⟩ hK hP hD hS [13, 14, 15, 16, 17] rfl (hC_B_object_104 cI cZ cQ b0 b1 u0 u1 u2 u3 u4 u5 u6 u7 u8 p0 p1 h0 a1 a2 a3 a4 F L P) (hF_T_childCount cI cZ cQ _ _) 0 0 rfl rfl rfl rfl hl.1 rfl (Nat.le_of_ble_eq_true rfl) ⟨Nat.zero_le _, Nat.zero_le _⟩ d_B_object_104 (fun H locs hP hD hS => ?_)
              have hP : va_P (dC, dI) classes (wB cI cZ cQ b0 b1 u0 F ++ wL cI cZ u0 u1 u2 u3 u4 u5 u6 u7 u8 L ++ wP cI cZ p0 p1 h0 a1 a2 a3 a4 P) H := vz_reP (hU_B_object_104 cI cZ cQ b0 b1 u0 u1 u2 u3 u4 u5 u6 u7 u8 p0 p1 h0 a1 a2 a3 a4 F L P ) hP
              have hD : va_D (vz_A (wB cI cZ cQ b0 b1 u0 F ++ wL cI cZ u0 u1 u2 u3 u4 u5 u6 u7 u8 L ++ wP cI cZ p0 p1 h0 a1 a2 a3 a4 P)) (wB cI cZ cQ b0 b1 u0 F ++ wL cI cZ u0 u1 u2 u3 u4 u5 u6 u7 u8 L ++ wP cI cZ p0 p1 h0 a1 a2 a3 a4 P) := vz_reD (hU_B_object_104 cI cZ cQ b0 b1 u0 u1 u2 u3 u4 u5 u6 u7 u8 p0 p1 h0 a1 a2 a3 a4 F L P ) hD
              refine W.eq (g2 := F0 m 107 ls [.int g_104]) rfl ?_
              rw [m_B_object] at hres
              try rw [hg_1] at hres
              rw [if_neg c_4] at hres
              try rw [hg_9] at hres
              rw [if_neg c_12, if_neg c_35, if_neg c_41_0, if_neg c_41_1, if_pos c_41_2] at hres
              try rw [hg_104] at hres
              subst hres
              subst hQ
              exact vz_iret hx hb hr hlocks d_B_object_107 hS rfl hP
            · by_cases c_41_3 : x3 = 3
              · refine lv_tableIn (off := 67) (tgt := 108) hx hb d_B_object_41 (by rw [c_41_3]; decide) (by rw [c_41_3]; decide) (by rw [c_41_3]; decide) (by decide) ?_
                refine lv_aload hx hb d_B_object_108 (lv_at hl 0 rfl) ?_
                refine lv_iload_n hx hb d_B_object_110 rfl (lv_at hl 3 rfl) ?_
                have hc := c_T_topOf l dC dI cI cZ cQ h0 a1 a2 a3 a4 P.2.1 x2 (hok.1) (by have ho := iso_t (L := L) (x1 := x2) (by rw [hg_9]; assumption); have hl1 := hL.2.2; omega)
                generalize hg_111 : (m_T_topOf P.2.1 x2) = g_111 at hc
                refine vz_callV (As := [.int x2]) (rest := []) ⟨hx, hb, hml, hown, hT⟩ hc (vz_goodV kw_272 kw_273 kw_274 kw_4 kw_275) ⟨rfl, hd_T_topOf⟩ ⟨⟨rfl, rfl⟩, Nat.le_of_ble_eq_true rfl, Nat.le_of_ble_eq_true rfl⟩ hK hP hD hS [13, 14, 15, 16, 17] rfl (hC_B_object_111 cI cZ cQ b0 b1 u0 u1 u2 u3 u4 u5 u6 u7 u8 p0 p1 h0 a1 a2 a3 a4 F L P) (hF_T_topOf cI cZ cQ _ _) 0 0 rfl rfl rfl rfl hl.1 rfl (Nat.le_of_ble_eq_true rfl) ⟨Nat.zero_le _, Nat.zero_le _⟩ d_B_object_111 (fun H locs hP hD hS => ?_)
                have hP : va_P (dC, dI) classes (wB cI cZ cQ b0 b1 u0 F ++ wL cI cZ u0 u1 u2 u3 u4 u5 u6 u7 u8 L ++ wP cI cZ p0 p1 h0 a1 a2 a3 a4 P) H := vz_reP (hU_B_object_111 cI cZ cQ b0 b1 u0 u1 u2 u3 u4 u5 u6 u7 u8 p0 p1 h0 a1 a2 a3 a4 F L P ) hP
                have hD : va_D (vz_A (wB cI cZ cQ b0 b1 u0 F ++ wL cI cZ u0 u1 u2 u3 u4 u5 u6 u7 u8 L ++ wP cI cZ p0 p1 h0 a1 a2 a3 a4 P)) (wB cI cZ cQ b0 b1 u0 F ++ wL cI cZ u0 u1 u2 u3 u4 u5 u6 u7 u8 L ++ wP cI cZ p0 p1 h0 a1 a2 a3 a4 P) := vz_reD (hU_B_object_111 cI cZ cQ b0 b1 u0 u1 u2 u3 u4 u5 u6 u7 u8 p0 p1 h0 a1 a2 a3 a4 F L P ) hD
                refine W.eq (g2 := F0 m 114 ls [.int g_111]) rfl ?_
                refine lv_if_ne (tgt := 121) hx hb d_B_object_114 (by decide) (fun c_114 => ?_) (fun c_114 => ?_)
                · have z_114 := mt Int32.toInt_inj.mp c_114
                  refine lv_iconst (v := 1) hx hb d_B_object_121 (by decide) ?_
                  rw [m_B_object] at hres
                  try rw [hg_1] at hres
                  rw [if_neg c_4] at hres
                  try rw [hg_9] at hres
                  rw [if_neg c_12, if_neg c_35, if_neg c_41_0, if_neg c_41_1, if_neg c_41_2, if_pos c_41_3] at hres
                  try rw [hg_111] at hres
                  rw [if_neg c_114] at hres
                  subst hres
                  subst hQ
                  exact vz_iret hx hb hr hlocks d_B_object_122 hS rfl hP
                · have z_114 := congrArg Int32.toInt c_114
                  refine lv_iconst (v := 0) hx hb d_B_object_117 (by decide) ?_
                  refine lv_goto (tgt := 122) hx hb d_B_object_118 (by decide) ?_
                  rw [m_B_object] at hres
                  try rw [hg_1] at hres
                  rw [if_neg c_4] at hres
                  try rw [hg_9] at hres
                  rw [if_neg c_12, if_neg c_35, if_neg c_41_0, if_neg c_41_1, if_neg c_41_2, if_pos c_41_3] at hres
                  try rw [hg_111] at hres
                  rw [if_pos c_114] at hres
                  subst hres
                  subst hQ
                  exact vz_iret hx hb hr hlocks d_B_object_122 hS rfl hP
              · by_cases c_41_4 : x3 = 4
                · refine lv_tableIn (off := 82) (tgt := 123) hx hb d_B_object_41 (by rw [c_41_4]; decide) (by rw [c_41_4]; decide) (by rw [c_41_4]; decide) (by decide) ?_
                  refine lv_aload hx hb d_B_object_123 (lv_at hl 0 rfl) ?_
                  refine lv_iload_n hx hb d_B_object_125 rfl (lv_at hl 3 rfl) ?_
                  have hc := c_T_placeOf l dC dI cI cZ cQ h0 a1 a2 a3 a4 P.2.1 x2 (ok_le hok) (hok.2.1) (by have ho := iso_t (L := L) (x1 := x2) (by rw [hg_9]; assumption); have hl1 := hL.2.2; omega)
                  generalize hg_126 : (m_T_placeOf P.2.1 x2) = g_126 at hc
                  refine vz_callV (As := [.int x2]) (rest := []) ⟨hx, hb, hml, hown, hT⟩ hc (vz_goodV kw_281 kw_282 kw_283 kw_4 kw_284) ⟨rfl, hd_T_placeOf⟩ ⟨⟨rfl, rfl⟩, Nat.le_of_ble_eq_true rfl, Nat.le_of_ble_eq_true rfl⟩ hK hP hD hS [13, 14, 15, 16, 17] rfl (hC_B_object_126 cI cZ cQ b0 b1 u0 u1 u2 u3 u4 u5 u6 u7 u8 p0 p1 h0 a1 a2 a3 a4 F L P) (hF_T_placeOf cI cZ cQ _ _) 0 0 rfl rfl rfl rfl hl.1 rfl (Nat.le_of_ble_eq_true rfl) ⟨Nat.zero_le _, Nat.zero_le _⟩ d_B_object_126 (fun H locs hP hD hS => ?_)
                  have hP : va_P (dC, dI) classes (wB cI cZ cQ b0 b1 u0 F ++ wL cI cZ u0 u1 u2 u3 u4 u5 u6 u7 u8 L ++ wP cI cZ p0 p1 h0 a1 a2 a3 a4 P) H := vz_reP (hU_B_object_126 cI cZ cQ b0 b1 u0 u1 u2 u3 u4 u5 u6 u7 u8 p0 p1 h0 a1 a2 a3 a4 F L P ) hP
                  have hD : va_D (vz_A (wB cI cZ cQ b0 b1 u0 F ++ wL cI cZ u0 u1 u2 u3 u4 u5 u6 u7 u8 L ++ wP cI cZ p0 p1 h0 a1 a2 a3 a4 P)) (wB cI cZ cQ b0 b1 u0 F ++ wL cI cZ u0 u1 u2 u3 u4 u5 u6 u7 u8 L ++ wP cI cZ p0 p1 h0 a1 a2 a3 a4 P) := vz_reD (hU_B_object_126 cI cZ cQ b0 b1 u0 u1 u2 u3 u4 u5 u6 u7 u8 p0 p1 h0 a1 a2 a3 a4 F L P ) hD
                  refine W.eq (g2 := F0 m 129 ls [.int g_126]) rfl ?_
                  rw [m_B_object] at hres
                  try rw [hg_1] at hres
                  rw [if_neg c_4] at hres
                  try rw [hg_9] at hres
                  rw [if_neg c_12, if_neg c_35, if_neg c_41_0, if_neg c_41_1, if_neg c_41_2, if_neg c_41_3, if_pos c_41_4] at hres
                  try rw [hg_126] at hres
                  subst hres
                  subst hQ
                  exact vz_iret hx hb hr hlocks d_B_object_129 hS rfl hP
                · by_cases c_41_5 : x3 = 5
                  · refine lv_tableIn (off := 89) (tgt := 130) hx hb d_B_object_41 (by rw [c_41_5]; decide) (by rw [c_41_5]; decide) (by rw [c_41_5]; decide) (by decide) ?_
                    refine lv_aload hx hb d_B_object_130 (lv_at hl 0 rfl) ?_
                    refine va_get (D := (dC, dI)) (ci := 0) (v := .ref a3) (C := R_T) (T := F_T) (N := 5) hx hb hT i_T hown hK hP 13 rfl rfl 2 (by decide) (hT _ kw_95) (fun _ h9 => h9) rfl d_B_object_132 ?_
                    refine lv_iload_n hx hb d_B_object_135 rfl (lv_at hl 3 rfl) ?_
                    refine va_iald hx hb hK hP 16 0 rfl rfl (by have ho := iso_t (L := L) (x1 := x2) (by rw [hg_9]; assumption); have hl1 := hL.2.2; exact ti_vp (by omega) (by omega)) d_B_object_136 ?_
                    rw [m_B_object] at hres
                    try rw [hg_1] at hres
                    rw [if_neg c_4] at hres
                    try rw [hg_9] at hres
                    rw [if_neg c_12, if_neg c_35, if_neg c_41_0, if_neg c_41_1, if_neg c_41_2, if_neg c_41_3, if_neg c_41_4, if_pos c_41_5] at hres
                    subst hres
                    subst hQ
                    exact vz_iret hx hb hr hlocks d_B_object_137 hS rfl hP
                  · refine lv_tableOut (tgt := 138) hx hb d_B_object_41 (by have h0 := lv_neT c_41_0 (by decide : (0 : Int32).toInt = 0); have h1 := lv_neT c_41_1 (by decide : (1 : Int32).toInt = 1); have h2 := lv_neT c_41_2 (by decide : (2 : Int32).toInt = 2); have h3 := lv_neT c_41_3 (by decide : (3 : Int32).toInt = 3); have h4 := lv_neT c_41_4 (by decide : (4 : Int32).toInt = 4); have h5 := lv_neT c_41_5 (by decide : (5 : Int32).toInt = 5); omega) (by decide) ?_
                    refine lv_iconst (v := -1) hx hb d_B_object_138 (by decide) ?_
                    rw [m_B_object] at hres
                    try rw [hg_1] at hres
                    rw [if_neg c_4] at hres
                    try rw [hg_9] at hres
                    rw [if_neg c_12, if_neg c_35, if_neg c_41_0, if_neg c_41_1, if_neg c_41_2, if_neg c_41_3, if_neg c_41_4, if_neg c_41_5] at hres
                    subst hres
                    subst hQ
                    exact vz_iret hx hb hr hlocks d_B_object_139 hS rfl hP
      · have z_35 := congrArg Int32.toInt c_35
        refine lv_iconst (v := -1) hx hb d_B_object_38 (by decide) ?_
        rw [m_B_object] at hres
        try rw [hg_1] at hres
        rw [if_neg c_4] at hres
        try rw [hg_9] at hres
        rw [if_neg c_12, if_pos c_35] at hres
        subst hres
        subst hQ
        exact vz_iret hx hb hr hlocks d_B_object_39 hS rfl hP
    · have z_12 := congrArg Int32.toInt c_12
      refine lv_iconst (v := -1) hx hb d_B_object_15 (by decide) ?_
      rw [m_B_object] at hres
      try rw [hg_1] at hres
      rw [if_neg c_4] at hres
      try rw [hg_9] at hres
      rw [if_pos c_12] at hres
      subst hres
      subst hQ
      exact vz_iret hx hb hr hlocks d_B_object_16 hS rfl hP
end
section
theorem d_B_child_0 : decode b_B_child 0 = .ok (.iload_n 1, 1) := by decide +kernel
theorem d_B_child_1 : decode b_B_child 1 = .ok (.invokestatic 55, 3) := by decide +kernel
theorem d_B_child_4 : decode b_B_child 4 = .ok (.ifCond .ne 5, 3) := by decide +kernel
theorem d_B_child_7 : decode b_B_child 7 = .ok (.iconst (-1), 1) := by decide +kernel
theorem d_B_child_8 : decode b_B_child 8 = .ok (.ireturn, 1) := by decide +kernel
theorem d_B_child_9 : decode b_B_child 9 = .ok (.aload_n 0, 1) := by decide +kernel
theorem d_B_child_10 : decode b_B_child 10 = .ok (.getfield 18, 3) := by decide +kernel
theorem d_B_child_13 : decode b_B_child 13 = .ok (.iload_n 1, 1) := by decide +kernel
theorem d_B_child_14 : decode b_B_child 14 = .ok (.aaload, 1) := by decide +kernel
theorem d_B_child_15 : decode b_B_child 15 = .ok (.getfield 79, 3) := by decide +kernel
theorem d_B_child_18 : decode b_B_child 18 = .ok (.astore 4, 2) := by decide +kernel
theorem d_B_child_20 : decode b_B_child 20 = .ok (.iload_n 2, 1) := by decide +kernel
theorem d_B_child_21 : decode b_B_child 21 = .ok (.iconst (-1), 1) := by decide +kernel
theorem d_B_child_22 : decode b_B_child 22 = .ok (.if_icmp .eq 23, 3) := by decide +kernel
theorem d_B_child_25 : decode b_B_child 25 = .ok (.aload_n 0, 1) := by decide +kernel
theorem d_B_child_26 : decode b_B_child 26 = .ok (.iload_n 2, 1) := by decide +kernel
theorem d_B_child_27 : decode b_B_child 27 = .ok (.invokevirtual 45, 3) := by decide +kernel
theorem d_B_child_30 : decode b_B_child 30 = .ok (.ifCond .eq 13, 3) := by decide +kernel
theorem d_B_child_33 : decode b_B_child 33 = .ok (.aload 4, 2) := by decide +kernel
theorem d_B_child_35 : decode b_B_child 35 = .ok (.getfield 83, 3) := by decide +kernel
theorem d_B_child_38 : decode b_B_child 38 = .ok (.iload_n 2, 1) := by decide +kernel
theorem d_B_child_39 : decode b_B_child 39 = .ok (.baload, 1) := by decide +kernel
theorem d_B_child_40 : decode b_B_child 40 = .ok (.ifCond .ne 5, 3) := by decide +kernel
theorem d_B_child_43 : decode b_B_child 43 = .ok (.iconst (-1), 1) := by decide +kernel
theorem d_B_child_44 : decode b_B_child 44 = .ok (.ireturn, 1) := by decide +kernel
theorem d_B_child_45 : decode b_B_child 45 = .ok (.aload 4, 2) := by decide +kernel
theorem d_B_child_47 : decode b_B_child 47 = .ok (.iload_n 2, 1) := by decide +kernel
theorem d_B_child_48 : decode b_B_child 48 = .ok (.iload_n 3, 1) := by decide +kernel
theorem d_B_child_49 : decode b_B_child 49 = .ok (.invokevirtual 108, 3) := by decide +kernel
theorem d_B_child_52 : decode b_B_child 52 = .ok (.ireturn, 1) := by decide +kernel
theorem hC_B_child_1 (cI cZ cQ : ClassId) (q0 q1 q2 q3 q4 q5 q6 q7 q8 q9 q10 q11 q12 q13 q14 q15 q16 q17 : Nat) (S0 : (Nat → Option Nat)) (S1 : cL) (S2 : cP) : ([] : List Nat).map (fun i => (wB cI cZ cQ q0 q1 q2 S0 ++ wL cI cZ q2 q3 q4 q5 q6 q7 q8 q9 q10 S1 ++ wP cI cZ q11 q12 q13 q14 q15 q16 q17 S2 : va_W)[i]?) = (([] : va_W) : va_W).map some := rfl
theorem hU_B_child_1 (cI cZ cQ : ClassId) (q0 q1 q2 q3 q4 q5 q6 q7 q8 q9 q10 q11 q12 q13 q14 q15 q16 q17 : Nat) (S0 : (Nat → Option Nat)) (S1 : cL) (S2 : cP)  : vz_put (wB cI cZ cQ q0 q1 q2 S0 ++ wL cI cZ q2 q3 q4 q5 q6 q7 q8 q9 q10 S1 ++ wP cI cZ q11 q12 q13 q14 q15 q16 q17 S2 : va_W) [] (([] : va_W) : va_W) = wB cI cZ cQ q0 q1 q2 S0 ++ wL cI cZ q2 q3 q4 q5 q6 q7 q8 q9 q10 S1 ++ wP cI cZ q11 q12 q13 q14 q15 q16 q17 S2 := (show vz_put ([(q0, .inr (3, [.ref q2, .ref q1])), (q1, .inl (cQ, 4, .inr (.inr (.inr (.inr S0))))), (q2, .inr (1, [.ref q3, .ref q4, .ref q5, .ref q6, .ref q7, .ref q8, .ref q9, .ref q10, .int S1.2.2.2.2.2.2.2.2.1, .int S1.2.2.2.2.2.2.2.2.2])), (q3, .inl (cI, 301, .inl S1.1)), (q4, .inl (cI, 301, .inl S1.2.1)), (q5, .inl (cI, 301, .inl S1.2.2.1)), (q6, .inl (cI, 301, .inl S1.2.2.2.1)), (q7, .inl (cI, 301, .inl S1.2.2.2.2.1)), (q8, .inl (cI, 301, .inl S1.2.2.2.2.2.1)), (q9, .inl (cI, 301, .inl S1.2.2.2.2.2.2.1)), (q10, .inl (cI, 300, .inl S1.2.2.2.2.2.2.2.1)), (q11, .inr (2, [.ref q12, .ref q13, .int S2.2.2.1, .int S2.2.2.2.1, .int S2.2.2.2.2])), (q12, .inl (cI, 301, .inl S2.1)), (q13, .inr (0, [.ref q14, .ref q15, .ref q16, .ref q17, .int S2.2.1.2.2.2.2])), (q14, .inl (cZ, 40, .inl S2.2.1.1)), (q15, .inl (cI, 40, .inl S2.2.1.2.1)), (q16, .inl (cI, 40, .inl S2.2.1.2.2.1)), (q17, .inl (cI, 40, .inl S2.2.1.2.2.2.1))] : va_W) [] ([] : va_W) = [(q0, .inr (3, [.ref q2, .ref q1])), (q1, .inl (cQ, 4, .inr (.inr (.inr (.inr S0))))), (q2, .inr (1, [.ref q3, .ref q4, .ref q5, .ref q6, .ref q7, .ref q8, .ref q9, .ref q10, .int S1.2.2.2.2.2.2.2.2.1, .int S1.2.2.2.2.2.2.2.2.2])), (q3, .inl (cI, 301, .inl S1.1)), (q4, .inl (cI, 301, .inl S1.2.1)), (q5, .inl (cI, 301, .inl S1.2.2.1)), (q6, .inl (cI, 301, .inl S1.2.2.2.1)), (q7, .inl (cI, 301, .inl S1.2.2.2.2.1)), (q8, .inl (cI, 301, .inl S1.2.2.2.2.2.1)), (q9, .inl (cI, 301, .inl S1.2.2.2.2.2.2.1)), (q10, .inl (cI, 300, .inl S1.2.2.2.2.2.2.2.1)), (q11, .inr (2, [.ref q12, .ref q13, .int S2.2.2.1, .int S2.2.2.2.1, .int S2.2.2.2.2])), (q12, .inl (cI, 301, .inl S2.1)), (q13, .inr (0, [.ref q14, .ref q15, .ref q16, .ref q17, .int S2.2.1.2.2.2.2])), (q14, .inl (cZ, 40, .inl S2.2.1.1)), (q15, .inl (cI, 40, .inl S2.2.1.2.1)), (q16, .inl (cI, 40, .inl S2.2.1.2.2.1)), (q17, .inl (cI, 40, .inl S2.2.1.2.2.2.1))] from rfl).trans rfl
theorem hC_B_child_49 (cI cZ cQ : ClassId) (q0 q1 q2 q3 q4 q5 q6 q7 q8 q9 q10 q11 q12 q13 q14 q15 q16 q17 : Nat) (S0 : (Nat → Option Nat)) (S1 : cL) (S2 : cP) : ([13, 14, 15, 16, 17] : List Nat).map (fun i => (wB cI cZ cQ q0 q1 q2 S0 ++ wL cI cZ q2 q3 q4 q5 q6 q7 q8 q9 q10 S1 ++ wP cI cZ q11 q12 q13 q14 q15 q16 q17 S2 : va_W)[i]?) = (wT cI cZ q13 q14 q15 q16 q17 S2.2.1 : va_W).map some := rfl
theorem hF_T_childAt (cI cZ cQ : ClassId) {h0 a1 a2 a3 a4 : Nat} (S0 R0 : cT) : (wT cI cZ h0 a1 a2 a3 a4 R0 : va_W).map Prod.fst = (wT cI cZ h0 a1 a2 a3 a4 S0 : va_W).map Prod.fst := rfl
theorem hU_B_child_49 (cI cZ cQ : ClassId) (q0 q1 q2 q3 q4 q5 q6 q7 q8 q9 q10 q11 q12 q13 q14 q15 q16 q17 : Nat) (S0 : (Nat → Option Nat)) (S1 : cL) (S2 : cP)  : vz_put (wB cI cZ cQ q0 q1 q2 S0 ++ wL cI cZ q2 q3 q4 q5 q6 q7 q8 q9 q10 S1 ++ wP cI cZ q11 q12 q13 q14 q15 q16 q17 S2 : va_W) [13, 14, 15, 16, 17] (wT cI cZ q13 q14 q15 q16 q17 S2.2.1 : va_W) = wB cI cZ cQ q0 q1 q2 S0 ++ wL cI cZ q2 q3 q4 q5 q6 q7 q8 q9 q10 S1 ++ wP cI cZ q11 q12 q13 q14 q15 q16 q17 S2 := (show vz_put ([(q0, .inr (3, [.ref q2, .ref q1])), (q1, .inl (cQ, 4, .inr (.inr (.inr (.inr S0))))), (q2, .inr (1, [.ref q3, .ref q4, .ref q5, .ref q6, .ref q7, .ref q8, .ref q9, .ref q10, .int S1.2.2.2.2.2.2.2.2.1, .int S1.2.2.2.2.2.2.2.2.2])), (q3, .inl (cI, 301, .inl S1.1)), (q4, .inl (cI, 301, .inl S1.2.1)), (q5, .inl (cI, 301, .inl S1.2.2.1)), (q6, .inl (cI, 301, .inl S1.2.2.2.1)), (q7, .inl (cI, 301, .inl S1.2.2.2.2.1)), (q8, .inl (cI, 301, .inl S1.2.2.2.2.2.1)), (q9, .inl (cI, 301, .inl S1.2.2.2.2.2.2.1)), (q10, .inl (cI, 300, .inl S1.2.2.2.2.2.2.2.1)), (q11, .inr (2, [.ref q12, .ref q13, .int S2.2.2.1, .int S2.2.2.2.1, .int S2.2.2.2.2])), (q12, .inl (cI, 301, .inl S2.1)), (q13, .inr (0, [.ref q14, .ref q15, .ref q16, .ref q17, .int S2.2.1.2.2.2.2])), (q14, .inl (cZ, 40, .inl S2.2.1.1)), (q15, .inl (cI, 40, .inl S2.2.1.2.1)), (q16, .inl (cI, 40, .inl S2.2.1.2.2.1)), (q17, .inl (cI, 40, .inl S2.2.1.2.2.2.1))] : va_W) [13, 14, 15, 16, 17] ([(q13, .inr (0, [.ref q14, .ref q15, .ref q16, .ref q17, .int S2.2.1.2.2.2.2])), (q14, .inl (cZ, 40, .inl S2.2.1.1)), (q15, .inl (cI, 40, .inl S2.2.1.2.1)), (q16, .inl (cI, 40, .inl S2.2.1.2.2.1)), (q17, .inl (cI, 40, .inl S2.2.1.2.2.2.1))] : va_W) = [(q0, .inr (3, [.ref q2, .ref q1])), (q1, .inl (cQ, 4, .inr (.inr (.inr (.inr S0))))), (q2, .inr (1, [.ref q3, .ref q4, .ref q5, .ref q6, .ref q7, .ref q8, .ref q9, .ref q10, .int S1.2.2.2.2.2.2.2.2.1, .int S1.2.2.2.2.2.2.2.2.2])), (q3, .inl (cI, 301, .inl S1.1)), (q4, .inl (cI, 301, .inl S1.2.1)), (q5, .inl (cI, 301, .inl S1.2.2.1)), (q6, .inl (cI, 301, .inl S1.2.2.2.1)), (q7, .inl (cI, 301, .inl S1.2.2.2.2.1)), (q8, .inl (cI, 301, .inl S1.2.2.2.2.2.1)), (q9, .inl (cI, 301, .inl S1.2.2.2.2.2.2.1)), (q10, .inl (cI, 300, .inl S1.2.2.2.2.2.2.2.1)), (q11, .inr (2, [.ref q12, .ref q13, .int S2.2.2.1, .int S2.2.2.2.1, .int S2.2.2.2.2])), (q12, .inl (cI, 301, .inl S2.1)), (q13, .inr (0, [.ref q14, .ref q15, .ref q16, .ref q17, .int S2.2.1.2.2.2.2])), (q14, .inl (cZ, 40, .inl S2.2.1.1)), (q15, .inl (cI, 40, .inl S2.2.1.2.1)), (q16, .inl (cI, 40, .inl S2.2.1.2.2.1)), (q17, .inl (cI, 40, .inl S2.2.1.2.2.2.1))] from rfl).trans rfl
theorem hC_B_child_27 (cI cZ cQ : ClassId) (q0 q1 q2 q3 q4 q5 q6 q7 q8 q9 q10 q11 q12 q13 q14 q15 q16 q17 : Nat) (S0 : (Nat → Option Nat)) (S1 : cL) (S2 : cP) : ([0, 1, 2, 3, 4, 5, 6, 7, 8, 9, 10] : List Nat).map (fun i => (wB cI cZ cQ q0 q1 q2 S0 ++ wL cI cZ q2 q3 q4 q5 q6 q7 q8 q9 q10 S1 ++ wP cI cZ q11 q12 q13 q14 q15 q16 q17 S2 : va_W)[i]?) = (wB cI cZ cQ q0 q1 q2 S0 ++ wL cI cZ q2 q3 q4 q5 q6 q7 q8 q9 q10 S1 : va_W).map some := rfl
theorem hU_B_child_27 (cI cZ cQ : ClassId) (q0 q1 q2 q3 q4 q5 q6 q7 q8 q9 q10 q11 q12 q13 q14 q15 q16 q17 : Nat) (S0 : (Nat → Option Nat)) (S1 : cL) (S2 : cP)  : vz_put (wB cI cZ cQ q0 q1 q2 S0 ++ wL cI cZ q2 q3 q4 q5 q6 q7 q8 q9 q10 S1 ++ wP cI cZ q11 q12 q13 q14 q15 q16 q17 S2 : va_W) [0, 1, 2, 3, 4, 5, 6, 7, 8, 9, 10] (wB cI cZ cQ q0 q1 q2 S0 ++ wL cI cZ q2 q3 q4 q5 q6 q7 q8 q9 q10 S1 : va_W) = wB cI cZ cQ q0 q1 q2 S0 ++ wL cI cZ q2 q3 q4 q5 q6 q7 q8 q9 q10 S1 ++ wP cI cZ q11 q12 q13 q14 q15 q16 q17 S2 := (show vz_put ([(q0, .inr (3, [.ref q2, .ref q1])), (q1, .inl (cQ, 4, .inr (.inr (.inr (.inr S0))))), (q2, .inr (1, [.ref q3, .ref q4, .ref q5, .ref q6, .ref q7, .ref q8, .ref q9, .ref q10, .int S1.2.2.2.2.2.2.2.2.1, .int S1.2.2.2.2.2.2.2.2.2])), (q3, .inl (cI, 301, .inl S1.1)), (q4, .inl (cI, 301, .inl S1.2.1)), (q5, .inl (cI, 301, .inl S1.2.2.1)), (q6, .inl (cI, 301, .inl S1.2.2.2.1)), (q7, .inl (cI, 301, .inl S1.2.2.2.2.1)), (q8, .inl (cI, 301, .inl S1.2.2.2.2.2.1)), (q9, .inl (cI, 301, .inl S1.2.2.2.2.2.2.1)), (q10, .inl (cI, 300, .inl S1.2.2.2.2.2.2.2.1)), (q11, .inr (2, [.ref q12, .ref q13, .int S2.2.2.1, .int S2.2.2.2.1, .int S2.2.2.2.2])), (q12, .inl (cI, 301, .inl S2.1)), (q13, .inr (0, [.ref q14, .ref q15, .ref q16, .ref q17, .int S2.2.1.2.2.2.2])), (q14, .inl (cZ, 40, .inl S2.2.1.1)), (q15, .inl (cI, 40, .inl S2.2.1.2.1)), (q16, .inl (cI, 40, .inl S2.2.1.2.2.1)), (q17, .inl (cI, 40, .inl S2.2.1.2.2.2.1))] : va_W) [0, 1, 2, 3, 4, 5, 6, 7, 8, 9, 10] ([(q0, .inr (3, [.ref q2, .ref q1])), (q1, .inl (cQ, 4, .inr (.inr (.inr (.inr S0))))), (q2, .inr (1, [.ref q3, .ref q4, .ref q5, .ref q6, .ref q7, .ref q8, .ref q9, .ref q10, .int S1.2.2.2.2.2.2.2.2.1, .int S1.2.2.2.2.2.2.2.2.2])), (q3, .inl (cI, 301, .inl S1.1)), (q4, .inl (cI, 301, .inl S1.2.1)), (q5, .inl (cI, 301, .inl S1.2.2.1)), (q6, .inl (cI, 301, .inl S1.2.2.2.1)), (q7, .inl (cI, 301, .inl S1.2.2.2.2.1)), (q8, .inl (cI, 301, .inl S1.2.2.2.2.2.1)), (q9, .inl (cI, 301, .inl S1.2.2.2.2.2.2.1)), (q10, .inl (cI, 300, .inl S1.2.2.2.2.2.2.2.1))] : va_W) = [(q0, .inr (3, [.ref q2, .ref q1])), (q1, .inl (cQ, 4, .inr (.inr (.inr (.inr S0))))), (q2, .inr (1, [.ref q3, .ref q4, .ref q5, .ref q6, .ref q7, .ref q8, .ref q9, .ref q10, .int S1.2.2.2.2.2.2.2.2.1, .int S1.2.2.2.2.2.2.2.2.2])), (q3, .inl (cI, 301, .inl S1.1)), (q4, .inl (cI, 301, .inl S1.2.1)), (q5, .inl (cI, 301, .inl S1.2.2.1)), (q6, .inl (cI, 301, .inl S1.2.2.2.1)), (q7, .inl (cI, 301, .inl S1.2.2.2.2.1)), (q8, .inl (cI, 301, .inl S1.2.2.2.2.2.1)), (q9, .inl (cI, 301, .inl S1.2.2.2.2.2.2.1)), (q10, .inl (cI, 300, .inl S1.2.2.2.2.2.2.2.1)), (q11, .inr (2, [.ref q12, .ref q13, .int S2.2.2.1, .int S2.2.2.2.1, .int S2.2.2.2.2])), (q12, .inl (cI, 301, .inl S2.1)), (q13, .inr (0, [.ref q14, .ref q15, .ref q16, .ref q17, .int S2.2.1.2.2.2.2])), (q14, .inl (cZ, 40, .inl S2.2.1.1)), (q15, .inl (cI, 40, .inl S2.2.1.2.1)), (q16, .inl (cI, 40, .inl S2.2.1.2.2.1)), (q17, .inl (cI, 40, .inl S2.2.1.2.2.2.1))] from rfl).trans rfl
def m_B_child (L : cL) (P : cP) (x1 : Int32) (x2 : Int32) (x3 : Int32) : Int32 := (if (m_B_isNode x1) = 0 then -1 else (if x2 = (-1) then (m_T_childAt P.2.1 x2 x3) else (if (m_B_isObject L x2) = 0 then -1 else (if (P.2.1.1 x2.toNatClampNeg) = 0 then -1 else (m_T_childAt P.2.1 x2 x3)))))
set_option maxHeartbeats 1000000 in
set_option maxRecDepth 100000 in
theorem c_B_child (l : Launch) (dC : Nat → ClassId) (dI : Nat → Nat → Nat) (cI cZ cQ : ClassId) (b0 : Nat) (b1 : Nat) (F : Nat → Option Nat) (u0 : Nat) (u1 : Nat) (u2 : Nat) (u3 : Nat) (u4 : Nat) (u5 : Nat) (u6 : Nat) (u7 : Nat) (u8 : Nat) (L : cL) (p0 : Nat) (p1 : Nat) (h0 : Nat) (a1 : Nat) (a2 : Nat) (a3 : Nat) (a4 : Nat) (P : cP) (x1 : Int32) (x2 : Int32) (x3 : Int32) (hF : 0 ≤ x1.toInt → x1.toInt < 4 → F x1.toNatClampNeg = some p0) (hL : okL L) (hok : okT P.2.1) : vz_C l (dC, dI) classes [(cI, .int), (cZ, .boolean), (cQ, .object "BinTrees$Person")] y_B_child (Cond.code y_B_child b_B_child 5 (some .int) :: vz_tbl) ({ frames := 1, cells := 0, slots := 0, locals := 24 }) [.ref b0, .int x1, .int x2, .int x3] (wB cI cZ cQ b0 b1 u0 F ++ wL cI cZ u0 u1 u2 u3 u4 u5 u6 u7 u8 L ++ wP cI cZ p0 p1 h0 a1 a2 a3 a4 P) (some (.int (m_B_child L P x1 x2 x3))) (wB cI cZ cQ b0 b1 u0 F ++ wL cI cZ u0 u1 u2 u3 u4 u5 u6 u7 u8 L ++ wP cI cZ p0 p1 h0 a1 a2 a3 a4 P) := by
  generalize hres : (m_B_child L P x1 x2 x3) = RES
  refine vz_C.of (by decide) (Nat.le_of_ble_eq_true rfl) ?_
  intro p e s m below meth c ls E hl hK hP hD hS
  obtain ⟨hx, hb, hr, hml, hown, hT, hlocks⟩ := E
  obtain ⟨Q, hQ⟩ : ∃ Q, Q = MQ below (vz_Q (dC, dI) classes (wB cI cZ cQ b0 b1 u0 F ++ wL cI cZ u0 u1 u2 u3 u4 u5 u6 u7 u8 L ++ wP cI cZ p0 p1 h0 a1 a2 a3 a4 P) (some (.int RES)) (wB cI cZ cQ b0 b1 u0 F ++ wL cI cZ u0 u1 u2 u3 u4 u5 u6 u7 u8 L ++ wP cI cZ p0 p1 h0 a1 a2 a3 a4 P)) ([.ref b0, .int x1, .int x2, .int x3] : List Value).toArray s 0 0 (vz_A (wB cI cZ cQ b0 b1 u0 F ++ wL cI cZ u0 u1 u2 u3 u4 u5 u6 u7 u8 L ++ wP cI cZ p0 p1 h0 a1 a2 a3 a4 P)) := ⟨_, rfl⟩
  rw [← hQ]
  have hl : lv_has ls 5 [(0, .ref b0), (1, .int x1), (2, .int x2), (3, .int x3)] := hl
  have T0 := ti_0
  have T1 := ti_1
  have Tm := ti_m1
  have T8 := ti_8
  have T39 := ti_39
  have T40 := ti_40
  have T4 := ti_4
  have T300 := ti_300
  have hS0 := hS
  refine lv_iload_n hx hb d_B_child_0 rfl (lv_at hl 1 rfl) ?_
  have hc := c_B_isNode l dC dI cI cZ cQ x1 
  generalize hg_1 : (m_B_isNode x1) = g_1 at hc
  refine vz_callS (As := [.int x1]) (rest := []) ⟨hx, hb, hml, hown, hT⟩ hc (vz_goodS kw_147 kw_148 kw_1 kw_149) hd_B_isNode ⟨⟨rfl, rfl⟩, Nat.le_of_ble_eq_true rfl, Nat.le_of_ble_eq_true rfl⟩ hK hP hD hS [] rfl (hC_B_child_1 cI cZ cQ b0 b1 u0 u1 u2 u3 u4 u5 u6 u7 u8 p0 p1 h0 a1 a2 a3 a4 F L P) (hF_B_isNode cI cZ cQ ) rfl hl.1 rfl (Nat.le_of_ble_eq_true rfl) ⟨Nat.zero_le _, Nat.zero_le _⟩ d_B_child_1 (fun H locs hP hD hS => ?_)
  have hP : va_P (dC, dI) classes (wB cI cZ cQ b0 b1 u0 F ++ wL cI cZ u0 u1 u2 u3 u4 u5 u6 u7 u8 L ++ wP cI cZ p0 p1 h0 a1 a2 a3 a4 P) H := vz_reP (hU_B_child_1 cI cZ cQ b0 b1 u0 u1 u2 u3 u4 u5 u6 u7 u8 p0 p1 h0 a1 a2 a3 a4 F L P ) hP
  have hD : va_D (vz_A (wB cI cZ cQ b0 b1 u0 F ++ wL cI cZ u0 u1 u2 u3 u4 u5 u6 u7 u8 L ++ wP cI cZ p0 p1 h0 a1 a2 a3 a4 P)) (wB cI cZ cQ b0 b1 u0 F ++ wL cI cZ u0 u1 u2 u3 u4 u5 u6 u7 u8 L ++ wP cI cZ p0 p1 h0 a1 a2 a3 a4 P) := vz_reD (hU_B_child_1 cI cZ cQ b0 b1 u0 u1 u2 u3 u4 u5 u6 u7 u8 p0 p1 h0 a1 a2 a3 a4 F L P ) hD
  refine W.eq (g2 := F0 m 4 ls [.int g_1]) rfl ?_
  refine lv_if_ne (tgt := 9) hx hb d_B_child_4 (by decide) (fun c_4 => ?_) (fun c_4 => ?_)
  · have z_4 := mt Int32.toInt_inj.mp c_4
    refine lv_aload_n hx hb d_B_child_9 rfl (lv_at hl 0 rfl) ?_
    refine va_get (D := (dC, dI)) (ci := 3) (v := .ref b1) (C := R_B) (T := F_B) (N := 2) hx hb hT i_B hown hK hP 0 rfl rfl 1 (by decide) (hT _ kw_133) (fun _ h9 => h9) rfl d_B_child_10 ?_
    refine lv_iload_n hx hb d_B_child_13 rfl (lv_at hl 1 rfl) ?_
    refine va_aldq hx hb hK hP 1 2 rfl rfl (by have hn := isn_t (x0 := x1) (by rw [hg_1]; assumption); exact ti_vp (by omega) (by omega)) d_B_child_14 ?_
    rw [show va_rf (F x1.toNatClampNeg) = .ref p0 from by have hn := isn_t (x0 := x1) (by rw [hg_1]; assumption); rw [hF hn.1 hn.2]; rfl]
    refine va_get (D := (dC, dI)) (ci := 2) (v := .ref h0) (C := R_P) (T := F_P) (N := 5) hx hb hT i_P hown hK hP 11 rfl rfl 1 (by decide) (hT _ kw_114) (fun _ h9 => h9) rfl d_B_child_15 ?_
    refine lv_astore (lv' := [(4, .ref h0), (0, .ref b0), (1, .int x1), (2, .int x2), (3, .int x3)]) hx hb d_B_child_18 hl (by decide) rfl (fun ls hl => ?_)
    refine lv_iload_n hx hb d_B_child_20 rfl (lv_at hl 3 rfl) ?_
    refine lv_iconst (v := -1) hx hb d_B_child_21 (by decide) ?_
    refine lv_icmp_eq (tgt := 45) hx hb d_B_child_22 (by decide) (fun c_22 => ?_) (fun c_22 => ?_)
    · have z_22 := congrArg Int32.toInt c_22
      refine lv_aload hx hb d_B_child_45 (lv_at hl 0 rfl) ?_
      refine lv_iload_n hx hb d_B_child_47 rfl (lv_at hl 3 rfl) ?_
      refine lv_iload_n hx hb d_B_child_48 rfl (lv_at hl 4 rfl) ?_
      have hc := c_T_childAt l dC dI cI cZ cQ h0 a1 a2 a3 a4 P.2.1 x2 x3 (ok_le hok) (hok.2.1)
      generalize hg_49 : (m_T_childAt P.2.1 x2 x3) = g_49 at hc
      refine vz_callV (As := [.int x2, .int x3]) (rest := []) ⟨hx, hb, hml, hown, hT⟩ hc (vz_goodV kw_289 kw_290 kw_291 kw_4 kw_292) ⟨rfl, hd_T_childAt⟩ ⟨⟨rfl, rfl⟩, Nat.le_of_ble_eq_true rfl, Nat.le_of_ble_eq_true rfl⟩ hK hP hD hS [13, 14, 15, 16, 17] rfl (hC_B_child_49 cI cZ cQ b0 b1 u0 u1 u2 u3 u4 u5 u6 u7 u8 p0 p1 h0 a1 a2 a3 a4 F L P) (hF_T_childAt cI cZ cQ _ _) 0 0 rfl rfl rfl rfl hl.1 rfl (Nat.le_of_ble_eq_true rfl) ⟨Nat.zero_le _, Nat.zero_le _⟩ d_B_child_49 (fun H locs hP hD hS => ?_)
      have hP : va_P (dC, dI) classes (wB cI cZ cQ b0 b1 u0 F ++ wL cI cZ u0 u1 u2 u3 u4 u5 u6 u7 u8 L ++ wP cI cZ p0 p1 h0 a1 a2 a3 a4 P) H := vz_reP (hU_B_child_49 cI cZ cQ b0 b1 u0 u1 u2 u3 u4 u5 u6 u7 u8 p0 p1 h0 a1 a2 a3 a4 F L P ) hP
      have hD : va_D (vz_A (wB cI cZ cQ b0 b1 u0 F ++ wL cI cZ u0 u1 u2 u3 u4 u5 u6 u7 u8 L ++ wP cI cZ p0 p1 h0 a1 a2 a3 a4 P)) (wB cI cZ cQ b0 b1 u0 F ++ wL cI cZ u0 u1 u2 u3 u4 u5 u6 u7 u8 L ++ wP cI cZ p0 p1 h0 a1 a2 a3 a4 P) := vz_reD (hU_B_child_49 cI cZ cQ b0 b1 u0 u1 u2 u3 u4 u5 u6 u7 u8 p0 p1 h0 a1 a2 a3 a4 F L P ) hD
      refine W.eq (g2 := F0 m 52 ls [.int g_49]) rfl ?_
      rw [m_B_child] at hres
      try rw [hg_1] at hres
      rw [if_neg c_4, if_pos c_22] at hres
      try rw [hg_49] at hres
      subst hres
      subst hQ
      exact vz_iret hx hb hr hlocks d_B_child_52 hS rfl hP
    · have z_22 := mt Int32.toInt_inj.mp c_22
      refine lv_aload_n hx hb d_B_child_25 rfl (lv_at hl 1 rfl) ?_
      refine lv_iload_n hx hb d_B_child_26 rfl (lv_at hl 3 rfl) ?_
      have hc := c_B_isObject l dC dI cI cZ cQ b0 b1 F u0 u1 u2 u3 u4 u5 u6 u7 u8 L x2 
      generalize hg_27 : (m_B_isObject L x2) = g_27 at hc
      refine vz_callV (As := [.int x2]) (rest := []) ⟨hx, hb, hml, hown, hT⟩ hc (vz_goodV kw_235 kw_237 ks_10 kw_1 kw_238) ⟨rfl, hd_B_isObject⟩ ⟨⟨rfl, rfl⟩, Nat.le_of_ble_eq_true rfl, Nat.le_of_ble_eq_true rfl⟩ hK hP hD hS [0, 1, 2, 3, 4, 5, 6, 7, 8, 9, 10] rfl (hC_B_child_27 cI cZ cQ b0 b1 u0 u1 u2 u3 u4 u5 u6 u7 u8 p0 p1 h0 a1 a2 a3 a4 F L P) (hF_B_isObject cI cZ cQ _ _ _ _) 0 3 rfl rfl rfl rfl hl.1 rfl (Nat.le_of_ble_eq_true rfl) ⟨Nat.zero_le _, Nat.zero_le _⟩ d_B_child_27 (fun H locs hP hD hS => ?_)
      have hP : va_P (dC, dI) classes (wB cI cZ cQ b0 b1 u0 F ++ wL cI cZ u0 u1 u2 u3 u4 u5 u6 u7 u8 L ++ wP cI cZ p0 p1 h0 a1 a2 a3 a4 P) H := vz_reP (hU_B_child_27 cI cZ cQ b0 b1 u0 u1 u2 u3 u4 u5 u6 u7 u8 p0 p1 h0 a1 a2 a3 a4 F L P ) hP
      have hD : va_D (vz_A (wB cI cZ cQ b0 b1 u0 F ++ wL cI cZ u0 u1 u2 u3 u4 u5 u6 u7 u8 L ++ wP cI cZ p0 p1 h0 a1 a2 a3 a4 P)) (wB cI cZ cQ b0 b1 u0 F ++ wL cI cZ u0 u1 u2 u3 u4 u5 u6 u7 u8 L ++ wP cI cZ p0 p1 h0 a1 a2 a3 a4 P) := vz_reD (hU_B_child_27 cI cZ cQ b0 b1 u0 u1 u2 u3 u4 u5 u6 u7 u8 p0 p1 h0 a1 a2 a3 a4 F L P ) hD
      refine W.eq (g2 := F0 m 30 ls [.int g_27]) rfl ?_
      refine lv_if_eq (tgt := 43) hx hb d_B_child_30 (by decide) (fun c_30 => ?_) (fun c_30 => ?_)
      · have z_30 := congrArg Int32.toInt c_30
        refine lv_iconst (v := -1) hx hb d_B_child_43 (by decide) ?_
        rw [m_B_child] at hres
        try rw [hg_1] at hres
        rw [if_neg c_4, if_neg c_22] at hres
        try rw [hg_27] at hres
        rw [if_pos c_30] at hres
        subst hres
        subst hQ
        exact vz_iret hx hb hr hlocks d_B_child_44 hS rfl hP
      · have z_30 := mt Int32.toInt_inj.mp c_30
        refine lv_aload hx hb d_B_child_33 (lv_at hl 0 rfl) ?_
        refine va_get (D := (dC, dI)) (ci := 0) (v := .ref a1) (C := R_T) (T := F_T) (N := 5) hx hb hT i_T hown hK hP 13 rfl rfl 0 (by decide) (hT _ kw_91) (fun _ h9 => h9) rfl d_B_child_35 ?_
        refine lv_iload_n hx hb d_B_child_38 rfl (lv_at hl 3 rfl) ?_
        refine va_zald hx hb hK hP 14 1 rfl rfl (by have ho := iso_t (L := L) (x1 := x2) (by rw [hg_27]; assumption); have hl1 := hL.2.2; exact ti_vp (by omega) (by omega)) d_B_child_39 ?_
        refine lv_if_ne (tgt := 45) hx hb d_B_child_40 (by decide) (fun c_40 => ?_) (fun c_40 => ?_)
        · have z_40 := mt Int32.toInt_inj.mp c_40
          refine lv_aload hx hb d_B_child_45 (lv_at hl 0 rfl) ?_
          refine lv_iload_n hx hb d_B_child_47 rfl (lv_at hl 3 rfl) ?_
          refine lv_iload_n hx hb d_B_child_48 rfl (lv_at hl 4 rfl) ?_
          have hc := c_T_childAt l dC dI cI cZ cQ h0 a1 a2 a3 a4 P.2.1 x2 x3 (ok_le hok) (hok.2.1)
          generalize hg_49 : (m_T_childAt P.2.1 x2 x3) = g_49 at hc
          refine vz_callV (As := [.int x2, .int x3]) (rest := []) ⟨hx, hb, hml, hown, hT⟩ hc (vz_goodV kw_289 kw_290 kw_291 kw_4 kw_292) ⟨rfl, hd_T_childAt⟩ ⟨⟨rfl, rfl⟩, Nat.le_of_ble_eq_true rfl, Nat.le_of_ble_eq_true rfl⟩ hK hP hD hS [13, 14, 15, 16, 17] rfl (hC_B_child_49 cI cZ cQ b0 b1 u0 u1 u2 u3 u4 u5 u6 u7 u8 p0 p1 h0 a1 a2 a3 a4 F L P) (hF_T_childAt cI cZ cQ _ _) 0 0 rfl rfl rfl rfl hl.1 rfl (Nat.le_of_ble_eq_true rfl) ⟨Nat.zero_le _, Nat.zero_le _⟩ d_B_child_49 (fun H locs hP hD hS => ?_)
          have hP : va_P (dC, dI) classes (wB cI cZ cQ b0 b1 u0 F ++ wL cI cZ u0 u1 u2 u3 u4 u5 u6 u7 u8 L ++ wP cI cZ p0 p1 h0 a1 a2 a3 a4 P) H := vz_reP (hU_B_child_49 cI cZ cQ b0 b1 u0 u1 u2 u3 u4 u5 u6 u7 u8 p0 p1 h0 a1 a2 a3 a4 F L P ) hP
          have hD : va_D (vz_A (wB cI cZ cQ b0 b1 u0 F ++ wL cI cZ u0 u1 u2 u3 u4 u5 u6 u7 u8 L ++ wP cI cZ p0 p1 h0 a1 a2 a3 a4 P)) (wB cI cZ cQ b0 b1 u0 F ++ wL cI cZ u0 u1 u2 u3 u4 u5 u6 u7 u8 L ++ wP cI cZ p0 p1 h0 a1 a2 a3 a4 P) := vz_reD (hU_B_child_49 cI cZ cQ b0 b1 u0 u1 u2 u3 u4 u5 u6 u7 u8 p0 p1 h0 a1 a2 a3 a4 F L P ) hD
          refine W.eq (g2 := F0 m 52 ls [.int g_49]) rfl ?_
          rw [m_B_child] at hres
          try rw [hg_1] at hres
          rw [if_neg c_4, if_neg c_22] at hres
          try rw [hg_27] at hres
          rw [if_neg c_30, if_neg c_40] at hres
          try rw [hg_49] at hres
          subst hres
          subst hQ
          exact vz_iret hx hb hr hlocks d_B_child_52 hS rfl hP
        · have z_40 := congrArg Int32.toInt c_40
          refine lv_iconst (v := -1) hx hb d_B_child_43 (by decide) ?_
          rw [m_B_child] at hres
          try rw [hg_1] at hres
          rw [if_neg c_4, if_neg c_22] at hres
          try rw [hg_27] at hres
          rw [if_neg c_30, if_pos c_40] at hres
          subst hres
          subst hQ
          exact vz_iret hx hb hr hlocks d_B_child_44 hS rfl hP
  · have z_4 := congrArg Int32.toInt c_4
    refine lv_iconst (v := -1) hx hb d_B_child_7 (by decide) ?_
    rw [m_B_child] at hres
    try rw [hg_1] at hres
    rw [if_pos c_4] at hres
    subst hres
    subst hQ
    exact vz_iret hx hb hr hlocks d_B_child_8 hS rfl hP
end
