/-! ===== my own kit: contracts of one form, calls in one row ===== -/
/-- the links between nest mates, which no method's word list holds -/
def kt_nw : List Cond := [.fieldLinkNest "KingTable$Ground" 40 "KingTable$Told" "signs" "[I" "KingTable",
  .fieldLinkNest "KingTable$Play" 63 "KingTable$Told" "signs" "[I" "KingTable",
  .fieldLinkNest "KingTable$Ground" 31 "KingTable$Told" "lines" "I" "KingTable",
  .fieldLinkNest "KingTable" 126 "KingTable$Told" "lines" "I" "KingTable",
  .fieldLinkNest "KingTable$Ground" 34 "KingTable$Told" "width" "I" "KingTable",
  .fieldLinkNest "KingTable$Play" 46 "KingTable$Laws" "goal" "I" "KingTable",
  .fieldLinkNest "KingTable$Rules" 111 "KingTable$Laws" "hard" "I" "KingTable",
  .fieldLinkNest "KingTable$Rules" 43 "KingTable$Laws" "kingTakes" "Z" "KingTable",
  .fieldLinkNest "KingTable$Rules" 58 "KingTable$Laws" "reach" "I" "KingTable",
  .fieldLinkNest "KingTable$Play" 100 "KingTable$Laws" "comeback" "I" "KingTable",
  .fieldLinkNest "KingTable$Rules" 52 "KingTable$Ground" "types" "[I" "KingTable",
  .fieldLinkNest "KingTable" 163 "KingTable$Ground" "types" "[I" "KingTable",
  .fieldLinkNest "KingTable$Rules" 55 "KingTable$Ground" "goals" "[Z" "KingTable",
  .fieldLinkNest "KingTable" 168 "KingTable$Ground" "goals" "[Z" "KingTable",
  .fieldLinkNest "KingTable$Solver" 115 "KingTable$Ground" "size" "I" "KingTable",
  .fieldLinkNest "KingTable$Rules" 49 "KingTable$Ground" "size" "I" "KingTable",
  .fieldLinkNest "KingTable$Solver" 82 "KingTable$Ground" "mostMoves" "I" "KingTable",
  .fieldLinkNest "KingTable$Ring" 39 "KingTable$Rules" "ground" "LKingTable$Ground;" "KingTable",
  .fieldLinkNest "KingTable$Play" 40 "KingTable$Rules" "ground" "LKingTable$Ground;" "KingTable",
  .fieldLinkNest "KingTable$Solver" 78 "KingTable$Rules" "ground" "LKingTable$Ground;" "KingTable",
  .fieldLinkNest "KingTable" 159 "KingTable$Rules" "ground" "LKingTable$Ground;" "KingTable",
  .fieldLinkNest "KingTable" 135 "KingTable$Rules" "kinds" "[I" "KingTable",
  .fieldLinkNest "KingTable$Ring" 59 "KingTable$Rules" "sides" "[I" "KingTable",
  .fieldLinkNest "KingTable$Play" 110 "KingTable$Rules" "sides" "[I" "KingTable",
  .fieldLinkNest "KingTable$Solver" 150 "KingTable$Rules" "sides" "[I" "KingTable",
  .fieldLinkNest "KingTable" 178 "KingTable$Rules" "sides" "[I" "KingTable",
  .fieldLinkNest "KingTable" 152 "KingTable$Rules" "takers" "[Z" "KingTable",
  .fieldLinkNest "KingTable$Solver" 73 "KingTable$Rules" "total" "I" "KingTable",
  .fieldLinkNest "KingTable$Play" 71 "KingTable$Rules" "total" "I" "KingTable",
  .fieldLinkNest "KingTable" 90 "KingTable$Rules" "total" "I" "KingTable",
  .fieldLinkNest "KingTable$Ring" 23 "KingTable$Rules" "king" "I" "KingTable",
  .fieldLinkNest "KingTable$Log" 55 "KingTable$Rules" "victims" "[I" "KingTable",
  .fieldLinkNest "KingTable$Solver" 177 "KingTable$Rules" "victims" "[I" "KingTable",
  .fieldLinkNest "KingTable$Play" 178 "KingTable$Rules" "victims" "[I" "KingTable",
  .fieldLinkNest "KingTable$Log" 50 "KingTable$Rules" "victimCount" "I" "KingTable",
  .fieldLinkNest "KingTable$Solver" 174 "KingTable$Rules" "victimCount" "I" "KingTable",
  .fieldLinkNest "KingTable$Play" 175 "KingTable$Rules" "victimCount" "I" "KingTable",
  .fieldLinkNest "KingTable$Log" 69 "KingTable$Stand" "fields" "[I" "KingTable",
  .fieldLinkNest "KingTable$Rules" 117 "KingTable$Stand" "holders" "[I" "KingTable",
  .fieldLinkNest "KingTable$Play" 82 "KingTable$Stand" "turn" "I" "KingTable",
  .fieldLinkNest "KingTable$Solver" 125 "KingTable$Stand" "turn" "I" "KingTable",
  .fieldLinkNest "KingTable$Log" 66 "KingTable$Stand" "turn" "I" "KingTable",
  .fieldLinkNest "KingTable$Rules" 82 "KingTable$Stand" "turn" "I" "KingTable",
  .fieldLinkNest "KingTable$Play" 185 "KingTable$Log" "movers" "[I" "KingTable",
  .fieldLinkNest "KingTable$Play" 188 "KingTable$Log" "tos" "[I" "KingTable",
  .fieldLinkNest "KingTable" 115 "KingTable$Log" "done" "I" "KingTable",
  .fieldLinkNest "KingTable$Play" 159 "KingTable$Log" "done" "I" "KingTable",
  .fieldLinkNest "KingTable" 123 "KingTable$Log" "known" "I" "KingTable",
  .fieldLinkNest "KingTable$Play" 162 "KingTable$Log" "known" "I" "KingTable",
  .fieldLinkNest "KingTable" 139 "KingTable$Play" "now" "LKingTable$Stand;" "KingTable",
  .fieldLinkNest "KingTable" 111 "KingTable$Play" "log" "LKingTable$Log;" "KingTable",
  .fieldLinkNest "KingTable" 101 "KingTable$Play" "state" "I" "KingTable",
  .fieldLinkNest "KingTable$Solver" 180 "KingTable$Links" "heads" "[I" "KingTable",
  .fieldLinkNest "KingTable$Solver" 186 "KingTable$Links" "sources" "[I" "KingTable",
  .fieldLinkNest "KingTable$Solver" 192 "KingTable$Links" "nexts" "[I" "KingTable",
  .fieldLinkNest "KingTable$Solver" 183 "KingTable$Links" "used" "I" "KingTable",
  .methodLinkNest "KingTable" 9 ⟨"KingTable$Told", "<init>", "()V"⟩ "KingTable",
  .methodLinkNest "KingTable" 18 ⟨"KingTable$Laws", "<init>", "()V"⟩ "KingTable",
  .methodLinkNest "KingTable$Rules" 11 ⟨"KingTable$Ground", "<init>", "()V"⟩ "KingTable",
  .methodLinkNest "KingTable$Play" 20 ⟨"KingTable$Log", "<init>", "()V"⟩ "KingTable",
  .methodLinkNest "KingTable$Solver" 20 ⟨"KingTable$Links", "<init>", "()V"⟩ "KingTable",
  .methodLinkNest "KingTable$Told" 36 ⟨"KingTable", "kindOfSign", "(I)I"⟩ "KingTable",
  .methodLinkNest "KingTable$Told" 40 ⟨"KingTable", "typeOfSign", "(I)I"⟩ "KingTable",
  .methodLinkNest "KingTable$Ground" 43 ⟨"KingTable", "typeOfSign", "(I)I"⟩ "KingTable",
  .methodLinkNest "KingTable$Play" 67 ⟨"KingTable", "kindOfSign", "(I)I"⟩ "KingTable",
  .methodLinkNest "KingTable$Solver" 213 ⟨"KingTable", "isSide", "(I)Z"⟩ "KingTable"]
def kt_isN (w : Cond) : Bool := match w with
  | .fieldLinkNest _ _ _ _ _ _ => true
  | .methodLinkNest _ _ _ _ => true
  | _ => false
def kt_NW (U : State) : Prop := ∀ w ∈ kt_nw, va_Nw w U
theorem kt_nw_ok : ∀ w ∈ kt_nw, kt_isN w = true := by decide +kernel
theorem kt_NW.warm {s U : State} (hW : s.WarmedH U.vm) (h : kt_NW s) : kt_NW U := by
  intro w hw
  have h1 := kt_nw_ok w hw
  have h2 := h w hw
  cases w <;> first | exact va_Nw.warmF hW h2 | exact va_Nw.warmM hW h2 | (exact absurd h1 (by simp [kt_isN]))
theorem kt_NW.same {s U : State} (hv : s.vm = U.vm) (h : kt_NW s) : kt_NW U := by
  intro w hw
  have h1 := kt_nw_ok w hw
  have h2 := h w hw
  cases w <;> first | exact va_Nw.same rfl hv h2 | (exact absurd h1 (by simp [kt_isN]))
theorem kt_NW.of {s : State} {args : Array Value} (hts : ∀ w ∈ tables_1, w.before args s = true) (hin : ∀ w ∈ kt_nw, w ∈ tables_1) : kt_NW s := by
  intro w hw
  have h1 := kt_nw_ok w hw
  have h2 := hts w (hin w hw)
  cases w <;> first | exact va_Nw.of rfl h2 | (exact absurd h1 (by simp [kt_isN]))
abbrev kt_ty (cI cZ cB : ClassId) : List (ClassId × FieldType) := [(cI, .int), (cZ, .boolean), (cB, .byte)]
def kt_In (D : va_G) (tys : List (ClassId × FieldType)) (ws : va_W) (sz : Nat) (U : State) : Prop := U.heap.size = sz ∧ va_P D vwCl ws U.heap ∧ va_K D vwCl tys U ∧ va_D (fun _ => True) ws ∧ kt_NW U
def kt_Out (D : va_G) (A : Nat → Prop) (ws : va_W) (t : State) : Prop := va_P D vwCl ws t.heap ∧ va_D A ws
theorem kt_blind {D : va_G} {tys : List (ClassId × FieldType)} {ws : va_W} {sz : Nat} {av : List Value} : FrameBlind (va_Pc av (kt_In D tys ws sz)) := by
  intro a U g mk q
  obtain ⟨q0, q1, qP, qK, qD, qN⟩ := q
  exact ⟨q0, q1, qP, va_K.moved (u := U) (U := U.calling g mk a) (Vm.Alike.refl U.vm) qK, qD, kt_NW.same (s := U) (U := U.calling g mk a) rfl qN⟩
/-- a contract with an int (or boolean) answer, one with none, one with a long -/
def kt_Mi {S : Type} (l : Launch) (y : MethodName) (wy : List Cond) (rm : Room) (D : va_G) (tys : List (ClassId × FieldType)) (av : List Value) (sz : Nat) (ws : va_W) (post : Int32 → S → Prop) (out : S → va_W) (mc ms : Nat) : Prop :=
  Met l y wy rm (va_Pc av (kt_In D tys ws sz)) (va_Qi post (fun u t => kt_Out D (va_A ws sz) (out u) t) (va_A ws sz)) mc ms (va_A ws sz)
def kt_Mv {S : Type} (l : Launch) (y : MethodName) (wy : List Cond) (rm : Room) (D : va_G) (tys : List (ClassId × FieldType)) (av : List Value) (sz : Nat) (ws : va_W) (post : S → Prop) (out : S → va_W) (mc ms : Nat) : Prop :=
  Met l y wy rm (va_Pc av (kt_In D tys ws sz)) (va_Qv post (fun u t => kt_Out D (va_A ws sz) (out u) t) (va_A ws sz)) mc ms (va_A ws sz)
def kt_Ml {S : Type} (l : Launch) (y : MethodName) (wy : List Cond) (rm : Room) (D : va_G) (tys : List (ClassId × FieldType)) (av : List Value) (sz : Nat) (ws : va_W) (post : Int64 → S → Prop) (out : S → va_W) (mc ms : Nat) : Prop :=
  Met l y wy rm (va_Pc av (kt_In D tys ws sz)) (va_Ql post (fun u t => kt_Out D (va_A ws sz) (out u) t) (va_A ws sz)) mc ms (va_A ws sz)
/-- what holds in a method's body from its entry on -/
def kt_At (p : Program) (s : State) (m : MethodId) (meth : Method) (c : Code) (A : Nat → Prop) (y : MethodName) (cc : ByteArray) (maxL : Nat) (ret : Option FieldType) (wy : List Cond) (D : va_G) (tys : List (ClassId × FieldType)) (av : List Value) : Prop :=
  p.tables.exec = Jvm.exec ∧ c.code = cc ∧ meth.sig.returnType = ret ∧ c.maxLocals = maxL ∧ s.vm.findClass y.cls = some m.cls ∧ (∀ w ∈ wy, w.before av.toArray s = true) ∧ kt_NW s ∧ va_K D vwCl tys s ∧ meth.locks = false ∧ meth.name = y.name ∧ ∀ q : Nat, s.heap.size ≤ q → A q
theorem kt_Mi.of {S : Type} {l : Launch} {y : MethodName} {wy wy' : List Cond} {rm : Room} {D : va_G} {tys : List (ClassId × FieldType)} {av : List Value} {sz : Nat} {ws : va_W} {post : Int32 → S → Prop} {out : S → va_W} {mc ms : Nat} {cc : ByteArray} {maxL : Nat} {ret : Option FieldType} (hy : plainName y.cls = true) (hw : wy = Cond.code y cc maxL ret :: wy') (hn : (lg_sl av).length ≤ maxL)
    (body : ∀ (p : Program) (e : Env) (s : State) (m : MethodId) (below : List Frame) (meth : Method) (c : Code) (A : Nat → Prop) (ls : Array Slot) (H : Heap), kt_At p s m meth c A y cc maxL ret wy D tys av → va_P D vwCl ws H → va_D A ws → va_S A s.heap H [] → lv_has ls maxL (lv_args 0 av) → W p l e rm s m av.toArray below meth c H [] 0 0 (MQ below (va_Qi post (fun u t => kt_Out D A (out u) t) A) av.toArray s mc ms A) (F0 m 0 ls [])) : kt_Mi l y wy rm D tys av sz ws post out mc ms := by
  refine Met.ofW (cc := cc) (maxL := maxL) (ret := ret) hy hw ?_
  intro p e s m args below meth c s₁ B hml hv
  obtain ⟨rfl, hsz, hP, hK, hD0, hN⟩ := hv
  subst hsz
  have hD := hD0.self (sz := s.heap.size)
  have hA : ∀ q : Nat, s.heap.size ≤ q → va_A ws s.heap.size q := fun q h => Or.inr h
  have hl := lv_entry av (n := maxL) hn
  rw [lg_entry_eq]
  exact body p e s m below meth c _ _ _ ⟨B.exec, B.bytes, B.returns, hml, findClass_of_methodNamed B.named, atoms_spec (ws := wy) B.pre, hN, hK, B.notSynchronized, (name_of_methodNamed B.named B.method).1, hA⟩ hP hD va_S.rf hl
theorem kt_Mv.of {S : Type} {l : Launch} {y : MethodName} {wy wy' : List Cond} {rm : Room} {D : va_G} {tys : List (ClassId × FieldType)} {av : List Value} {sz : Nat} {ws : va_W} {post : S → Prop} {out : S → va_W} {mc ms : Nat} {cc : ByteArray} {maxL : Nat} {ret : Option FieldType} (hy : plainName y.cls = true) (hw : wy = Cond.code y cc maxL ret :: wy') (hn : (lg_sl av).length ≤ maxL)
    (body : ∀ (p : Program) (e : Env) (s : State) (m : MethodId) (below : List Frame) (meth : Method) (c : Code) (A : Nat → Prop) (ls : Array Slot) (H : Heap), kt_At p s m meth c A y cc maxL ret wy D tys av → va_P D vwCl ws H → va_D A ws → va_S A s.heap H [] → lv_has ls maxL (lv_args 0 av) → W p l e rm s m av.toArray below meth c H [] 0 0 (MQ below (va_Qv post (fun u t => kt_Out D A (out u) t) A) av.toArray s mc ms A) (F0 m 0 ls [])) : kt_Mv l y wy rm D tys av sz ws post out mc ms := by
  refine Met.ofW (cc := cc) (maxL := maxL) (ret := ret) hy hw ?_
  intro p e s m args below meth c s₁ B hml hv
  obtain ⟨rfl, hsz, hP, hK, hD0, hN⟩ := hv
  subst hsz
  have hD := hD0.self (sz := s.heap.size)
  have hA : ∀ q : Nat, s.heap.size ≤ q → va_A ws s.heap.size q := fun q h => Or.inr h
  have hl := lv_entry av (n := maxL) hn
  rw [lg_entry_eq]
  exact body p e s m below meth c _ _ _ ⟨B.exec, B.bytes, B.returns, hml, findClass_of_methodNamed B.named, atoms_spec (ws := wy) B.pre, hN, hK, B.notSynchronized, (name_of_methodNamed B.named B.method).1, hA⟩ hP hD va_S.rf hl
theorem kt_Ml.of {S : Type} {l : Launch} {y : MethodName} {wy wy' : List Cond} {rm : Room} {D : va_G} {tys : List (ClassId × FieldType)} {av : List Value} {sz : Nat} {ws : va_W} {post : Int64 → S → Prop} {out : S → va_W} {mc ms : Nat} {cc : ByteArray} {maxL : Nat} {ret : Option FieldType} (hy : plainName y.cls = true) (hw : wy = Cond.code y cc maxL ret :: wy') (hn : (lg_sl av).length ≤ maxL)
    (body : ∀ (p : Program) (e : Env) (s : State) (m : MethodId) (below : List Frame) (meth : Method) (c : Code) (A : Nat → Prop) (ls : Array Slot) (H : Heap), kt_At p s m meth c A y cc maxL ret wy D tys av → va_P D vwCl ws H → va_D A ws → va_S A s.heap H [] → lv_has ls maxL (lv_args 0 av) → W p l e rm s m av.toArray below meth c H [] 0 0 (MQ below (va_Ql post (fun u t => kt_Out D A (out u) t) A) av.toArray s mc ms A) (F0 m 0 ls [])) : kt_Ml l y wy rm D tys av sz ws post out mc ms := by
  refine Met.ofW (cc := cc) (maxL := maxL) (ret := ret) hy hw ?_
  intro p e s m args below meth c s₁ B hml hv
  obtain ⟨rfl, hsz, hP, hK, hD0, hN⟩ := hv
  subst hsz
  have hD := hD0.self (sz := s.heap.size)
  have hA : ∀ q : Nat, s.heap.size ≤ q → va_A ws s.heap.size q := fun q h => Or.inr h
  have hl := lv_entry av (n := maxL) hn
  rw [lg_entry_eq]
  exact body p e s m below meth c _ _ _ ⟨B.exec, B.bytes, B.returns, hml, findClass_of_methodNamed B.named, atoms_spec (ws := wy) B.pre, hN, hK, B.notSynchronized, (name_of_methodNamed B.named B.method).1, hA⟩ hP hD va_S.rf hl
section KT
variable {p : Program} {l : Launch} {e : Env} {R : Room} {s : State} {m : MethodId} {args : Array Value} {below : List Frame} {meth : Method} {c : Code} {H : Heap} {locs : List Loc} {cells slots : Nat} {Q : State → Prop}
variable {pc : Nat} {ls : Array Slot} {rest st0 : List Value} {a : Array Value} {A : Nat → Prop} {H0 : Heap} {mc ms : Nat} {D : va_G} {tys : List (ClassId × FieldType)} {ws wc wr : va_W} {cc : ByteArray}
theorem kt_ri {S : Type} {post : Int32 → S → Prop} {out : S → va_W} {v : Int32} (u : S) (hx : p.tables.exec = Jvm.exec) (hb : c.code = cc) (hr : meth.sig.returnType = some .int) (hlocks : meth.locks = false) (hS : va_S A s.heap H locs) (hdg : decode cc pc = .ok (.ireturn, 1)) (hP : va_P D vwCl (out u) H) (hD : va_D A (out u)) (hp : post v u) :
    W p l e R s m args below meth c H locs cells slots (MQ below (va_Qi post (fun u t => kt_Out D A (out u) t) A) args s cells slots A) (F0 m pc ls [.int v]) :=
  W.iret hx hb hr (fun t ht _ => ⟨⟨v, u, rfl, hp, by rw [ht]; exact hP, hD⟩, hS.F ht⟩) hS.2.2 hdg hlocks
theorem kt_rz {S : Type} {post : Int32 → S → Prop} {out : S → va_W} {v : Int32} (u : S) (hx : p.tables.exec = Jvm.exec) (hb : c.code = cc) (hr : meth.sig.returnType = some .boolean) (hlocks : meth.locks = false) (hS : va_S A s.heap H locs) (hdg : decode cc pc = .ok (.ireturn, 1)) (hP : va_P D vwCl (out u) H) (hD : va_D A (out u)) (hp : post v u) (hn : narrow .boolean (.int v) = .int v) :
    W p l e R s m args below meth c H locs cells slots (MQ below (va_Qi post (fun u t => kt_Out D A (out u) t) A) args s cells slots A) (F0 m pc ls [.int v]) :=
  W.zret hx hb hr hn (fun t ht _ => ⟨⟨v, u, rfl, hp, by rw [ht]; exact hP, hD⟩, hS.F ht⟩) hS.2.2 hdg hlocks
theorem kt_rl {S : Type} {post : Int64 → S → Prop} {out : S → va_W} {v : Int64} (u : S) (hx : p.tables.exec = Jvm.exec) (hb : c.code = cc) (hr : meth.sig.returnType = some .long) (hlocks : meth.locks = false) (hS : va_S A s.heap H locs) (hdg : decode cc pc = .ok (.lreturn, 1)) (hP : va_P D vwCl (out u) H) (hD : va_D A (out u)) (hp : post v u) :
    W p l e R s m args below meth c H locs cells slots (MQ below (va_Ql post (fun u t => kt_Out D A (out u) t) A) args s cells slots A) (F0 m pc ls [.long v]) :=
  W.lret hx hb hr (fun t ht _ => ⟨⟨v, u, rfl, hp, by rw [ht]; exact hP, hD⟩, hS.F ht⟩) hS.2.2 hdg hlocks
theorem kt_rv {S : Type} {post : S → Prop} {out : S → va_W} (u : S) (hx : p.tables.exec = Jvm.exec) (hb : c.code = cc) (hr : meth.sig.returnType = none) (hlocks : meth.locks = false) (hS : va_S A s.heap H locs) (hdg : decode cc pc = .ok (.return_, 1)) (hP : va_P D vwCl (out u) H) (hD : va_D A (out u)) (hp : post u) :
    W p l e R s m args below meth c H locs cells slots (MQ below (va_Qv post (fun u t => kt_Out D A (out u) t) A) args s cells slots A) (F0 m pc ls []) :=
  W.vret hx hb hr (fun t ht _ => ⟨⟨u, rfl, hp, by rw [ht]; exact hP, hD⟩, hS.F ht⟩) hS.2.2 hdg hlocks
theorem kt_fm {is : List Nat} (h : is.map (fun i => ws[i]?) = wc.map some) : is.filterMap (fun i => ws[i]?) = wc := by
  have h1 : is.filterMap (fun i => ws[i]?) = (is.map (fun i => ws[i]?)).filterMap id := by rw [List.filterMap_map]; rfl
  rw [h1, h, List.filterMap_map]
  exact List.filterMap_some
theorem kt_pure {D : va_G} {H1 : Heap} (hP : va_P D vwCl ws H) (hD : va_D A ws) (is : List Nat) (hC : is.map (fun i => ws[i]?) = wc.map some) (hk : ∀ q : Nat, q < H.size → ¬ va_A wc H.size q → H1[q]? = H[q]?) (hP1 : va_P D vwCl wc H1) : va_P D vwCl ws H1 := by
  intro k q hk1
  by_cases hq : ∃ (j : Nat) (e : va_E), wc[j]? = some (q.1, e)
  · obtain ⟨j, e, hj⟩ := hq
    have h1 : (is.map (fun i => ws[i]?))[j]? = some (some (q.1, e)) := by rw [hC, List.getElem?_map, hj]; rfl
    rw [List.getElem?_map] at h1
    cases hi : is[j]? with
    | none => rw [hi] at h1; cases h1
    | some i =>
      rw [hi] at h1
      have h2 : ws[i]? = some (q.1, e) := Option.some.inj h1
      have h3 : i = k := hD.1 i k _ _ h2 hk1 rfl
      subst h3
      have h4 : q = (q.1, e) := Option.some.inj (hk1.symm.trans h2)
      rw [h4]
      exact hP1 j _ hj
  · exact (hP k q hk1).kept (hk q.1 (hP k q hk1).lt (fun h => h.elim hq (fun h2 => absurd (hP k q hk1).lt (Nat.not_lt.mpr h2))))
theorem kt_preV {b : Addr} {As : List Value} (hN : kt_NW s) (hK : va_K D vwCl tys s) (hPc : va_P D vwCl wc H) (hDc : va_D A wc) (q0 : Nat) {ci : Nat} {q : vw_C} {fs : List Value} (hc : vwCl[ci]? = some q) (he : wc[q0]? = some (b, .inr (ci, fs))) : PreV s H q.1 b (va_Pc (.ref b :: As) (kt_In D tys wc H.size)) As :=
  ⟨kt_blind, va_recv hK hPc hc he, fun U hU hW => ⟨rfl, by rw [hU], by rw [hU]; exact hPc, va_K.moved hW.alike hK, hDc.weaken (fun _ _ _ _ => trivial), hN.warm hW⟩⟩
theorem kt_preS {As : List Value} (hN : kt_NW s) (hK : va_K D vwCl tys s) (hPc : va_P D vwCl wc H) (hDc : va_D A wc) : PreS s H (va_Pc As (kt_In D tys wc H.size)) As :=
  ⟨kt_blind, fun U hU hW => ⟨rfl, by rw [hU], by rw [hU]; exact hPc, va_K.moved hW.alike hK, hDc.weaken (fun _ _ _ _ => trivial), hN.warm hW⟩⟩
theorem kt_bi {S : Type} {post : Int32 → S → Prop} {out : S → va_W} (isC isR : List Nat) (hP : va_P D vwCl ws H) (hD : va_D A ws) (hS : va_S A H0 H locs) (hA : ∀ q, H0.size ≤ q → A q) (hC : isC.map (fun i => ws[i]?) = wc.map some) (hR : isR.map (fun i => ws[i]?) = wr.map some) (hnC : va_nd isC = true) (hnR : va_nd isR = true) (hdis : ∀ i ∈ isR, i ∉ isC)
    (hr : va_P D vwCl wc H → va_D A wc → va_Run p l e R s m args below meth c H locs cells slots mc ms (F0 m pc ls st0) rest (va_Qi post (fun u t => kt_Out D (va_A wc H.size) (out u) t) (va_A wc H.size) a) (va_A wc H.size))
    (kk : ∀ (r : Int32) (u : S) (H1 : Heap) (locs1 : List Loc), post r u → va_P D vwCl (wr ++ out u) H1 → va_D A (wr ++ out u) → va_S A H0 H1 locs1 → W p l e R s m args below meth c H1 locs1 (cells + mc) (slots + ms) Q (F0 m (pc + 3) ls (.int r :: rest))) : W p l e R s m args below meth c H locs cells slots Q (F0 m pc ls st0) := by
  have hFc := va_free hD hS hA isC hC
  refine va_calli (hr (hP.sub isC (kt_fm hC)) (hD.sub isC hnC hC)) hS (fun q _ h => hFc q h) hFc (fun r u t H1 locs1 ht hvm hw hB hz1 hk1 hS => ?_)
  obtain ⟨hP1, hD1⟩ := hB
  rw [ht] at hP1
  obtain ⟨hP, hD⟩ := va_join hP hD isC isR hC hR hnR hdis hk1 hFc hP1 hD1
  exact kk r u H1 locs1 hw hP hD hS
theorem kt_pi {S : Type} {post : Int32 → S → Prop} (isC : List Nat) (hP : va_P D vwCl ws H) (hD : va_D A ws) (hS : va_S A H0 H locs) (hA : ∀ q, H0.size ≤ q → A q) (hC : isC.map (fun i => ws[i]?) = wc.map some) (hnC : va_nd isC = true)
    (hr : va_P D vwCl wc H → va_D A wc → va_Run p l e R s m args below meth c H locs cells slots mc ms (F0 m pc ls st0) rest (va_Qi post (fun _ t => kt_Out D (va_A wc H.size) wc t) (va_A wc H.size) a) (va_A wc H.size))
    (kk : ∀ (r : Int32) (u : S) (H1 : Heap) (locs1 : List Loc), post r u → va_P D vwCl ws H1 → va_S A H0 H1 locs1 → W p l e R s m args below meth c H1 locs1 (cells + mc) (slots + ms) Q (F0 m (pc + 3) ls (.int r :: rest))) : W p l e R s m args below meth c H locs cells slots Q (F0 m pc ls st0) := by
  have hFc := va_free hD hS hA isC hC
  refine va_calli (hr (hP.sub isC (kt_fm hC)) (hD.sub isC hnC hC)) hS (fun q _ h => hFc q h) hFc (fun r u t H1 locs1 ht hvm hw hB hz1 hk1 hS => ?_)
  obtain ⟨hP1, hD1⟩ := hB
  rw [ht] at hP1
  exact kk r u H1 locs1 hw (kt_pure hP hD isC hC hk1 hP1) hS
theorem kt_bv {S : Type} {post : S → Prop} {out : S → va_W} (isC isR : List Nat) (hP : va_P D vwCl ws H) (hD : va_D A ws) (hS : va_S A H0 H locs) (hA : ∀ q, H0.size ≤ q → A q) (hC : isC.map (fun i => ws[i]?) = wc.map some) (hR : isR.map (fun i => ws[i]?) = wr.map some) (hnC : va_nd isC = true) (hnR : va_nd isR = true) (hdis : ∀ i ∈ isR, i ∉ isC)
    (hr : va_P D vwCl wc H → va_D A wc → va_Run p l e R s m args below meth c H locs cells slots mc ms (F0 m pc ls st0) rest (va_Qv post (fun u t => kt_Out D (va_A wc H.size) (out u) t) (va_A wc H.size) a) (va_A wc H.size))
    (kk : ∀ (u : S) (H1 : Heap) (locs1 : List Loc), post u → va_P D vwCl (wr ++ out u) H1 → va_D A (wr ++ out u) → va_S A H0 H1 locs1 → W p l e R s m args below meth c H1 locs1 (cells + mc) (slots + ms) Q (F0 m (pc + 3) ls rest)) : W p l e R s m args below meth c H locs cells slots Q (F0 m pc ls st0) := by
  have hFc := va_free hD hS hA isC hC
  refine va_callv (hr (hP.sub isC (kt_fm hC)) (hD.sub isC hnC hC)) hS (fun q _ h => hFc q h) hFc (fun u t H1 locs1 ht hvm hw hB hz1 hk1 hS => ?_)
  obtain ⟨hP1, hD1⟩ := hB
  rw [ht] at hP1
  obtain ⟨hP, hD⟩ := va_join hP hD isC isR hC hR hnR hdis hk1 hFc hP1 hD1
  exact kk u H1 locs1 hw hP hD hS
theorem kt_pv {S : Type} {post : S → Prop} (isC : List Nat) (hP : va_P D vwCl ws H) (hD : va_D A ws) (hS : va_S A H0 H locs) (hA : ∀ q, H0.size ≤ q → A q) (hC : isC.map (fun i => ws[i]?) = wc.map some) (hnC : va_nd isC = true)
    (hr : va_P D vwCl wc H → va_D A wc → va_Run p l e R s m args below meth c H locs cells slots mc ms (F0 m pc ls st0) rest (va_Qv post (fun _ t => kt_Out D (va_A wc H.size) wc t) (va_A wc H.size) a) (va_A wc H.size))
    (kk : ∀ (u : S) (H1 : Heap) (locs1 : List Loc), post u → va_P D vwCl ws H1 → va_S A H0 H1 locs1 → W p l e R s m args below meth c H1 locs1 (cells + mc) (slots + ms) Q (F0 m (pc + 3) ls rest)) : W p l e R s m args below meth c H locs cells slots Q (F0 m pc ls st0) := by
  have hFc := va_free hD hS hA isC hC
  refine va_callv (hr (hP.sub isC (kt_fm hC)) (hD.sub isC hnC hC)) hS (fun q _ h => hFc q h) hFc (fun u t H1 locs1 ht hvm hw hB hz1 hk1 hS => ?_)
  obtain ⟨hP1, hD1⟩ := hB
  rw [ht] at hP1
  exact kk u H1 locs1 hw (kt_pure hP hD isC hC hk1 hP1) hS
theorem kt_bl {S : Type} {post : Int64 → S → Prop} {out : S → va_W} (isC isR : List Nat) (hP : va_P D vwCl ws H) (hD : va_D A ws) (hS : va_S A H0 H locs) (hA : ∀ q, H0.size ≤ q → A q) (hC : isC.map (fun i => ws[i]?) = wc.map some) (hR : isR.map (fun i => ws[i]?) = wr.map some) (hnC : va_nd isC = true) (hnR : va_nd isR = true) (hdis : ∀ i ∈ isR, i ∉ isC)
    (hr : va_P D vwCl wc H → va_D A wc → va_Run p l e R s m args below meth c H locs cells slots mc ms (F0 m pc ls st0) rest (va_Ql post (fun u t => kt_Out D (va_A wc H.size) (out u) t) (va_A wc H.size) a) (va_A wc H.size))
    (kk : ∀ (r : Int64) (u : S) (H1 : Heap) (locs1 : List Loc), post r u → va_P D vwCl (wr ++ out u) H1 → va_D A (wr ++ out u) → va_S A H0 H1 locs1 → W p l e R s m args below meth c H1 locs1 (cells + mc) (slots + ms) Q (F0 m (pc + 3) ls (.long r :: rest))) : W p l e R s m args below meth c H locs cells slots Q (F0 m pc ls st0) := by
  have hFc := va_free hD hS hA isC hC
  refine va_calll (hr (hP.sub isC (kt_fm hC)) (hD.sub isC hnC hC)) hS (fun q _ h => hFc q h) hFc (fun r u t H1 locs1 ht hvm hw hB hz1 hk1 hS => ?_)
  obtain ⟨hP1, hD1⟩ := hB
  rw [ht] at hP1
  obtain ⟨hP, hD⟩ := va_join hP hD isC isR hC hR hnR hdis hk1 hFc hP1 hD1
  exact kk r u H1 locs1 hw hP hD hS
theorem kt_pl {S : Type} {post : Int64 → S → Prop} (isC : List Nat) (hP : va_P D vwCl ws H) (hD : va_D A ws) (hS : va_S A H0 H locs) (hA : ∀ q, H0.size ≤ q → A q) (hC : isC.map (fun i => ws[i]?) = wc.map some) (hnC : va_nd isC = true)
    (hr : va_P D vwCl wc H → va_D A wc → va_Run p l e R s m args below meth c H locs cells slots mc ms (F0 m pc ls st0) rest (va_Ql post (fun _ t => kt_Out D (va_A wc H.size) wc t) (va_A wc H.size) a) (va_A wc H.size))
    (kk : ∀ (r : Int64) (u : S) (H1 : Heap) (locs1 : List Loc), post r u → va_P D vwCl ws H1 → va_S A H0 H1 locs1 → W p l e R s m args below meth c H1 locs1 (cells + mc) (slots + ms) Q (F0 m (pc + 3) ls (.long r :: rest))) : W p l e R s m args below meth c H locs cells slots Q (F0 m pc ls st0) := by
  have hFc := va_free hD hS hA isC hC
  refine va_calll (hr (hP.sub isC (kt_fm hC)) (hD.sub isC hnC hC)) hS (fun q _ h => hFc q h) hFc (fun r u t H1 locs1 ht hvm hw hB hz1 hk1 hS => ?_)
  obtain ⟨hP1, hD1⟩ := hB
  rw [ht] at hP1
  exact kk r u H1 locs1 hw (kt_pure hP hD isC hC hk1 hP1) hS
theorem kt_newa (hx : p.tables.exec = Jvm.exec) (hb : c.code = cc) {atype : ArrayType} (harr : (Cond.arrayClass (newarray.typeOf atype)).before args s = true) {ty : FieldType} (hty : newarray.typeOf atype = ty) (hK : va_K D vwCl tys s) (hP : va_P D vwCl ws H) (hD : va_D A ws) (hS : va_S A H0 H locs) (hA : ∀ q, H0.size ≤ q → A q) {cA : ClassId} (t0 : Nat) (ht : tys[t0]? = some (cA, ty)) (hra : ∀ cA : ClassId, va_RA s cA ty → s.vm.findClass ("[" ++ ty.toString) = some cA)
    {n : Int32} {N' : Nat} (ha : ∀ cA : ClassId, vp_cell cA (N', .inl (fun _ => 0)) = arrV cA N' (fun _ => defaultValue ty)) (hn : ¬ n < 0) (hN : n.toNatClampNeg = N') (hbytes : N' * componentBytes ty ≤ 536870912) (hcells : cells + 1 ≤ R.cells) (hslots : slots + N' ≤ R.slots) (hdg : decode cc pc = .ok (.newarray atype, 2))
    (kk : ∀ (q : Nat) (H1 : Heap), va_P D vwCl (ws ++ [(q, .inl (cA, N', .inl (fun _ => 0)))]) H1 → va_D A (ws ++ [(q, .inl (cA, N', .inl (fun _ => 0)))]) → va_S A H0 H1 locs → W p l e R s m args below meth c H1 locs (cells + 1) (slots + N') Q (F0 m (pc + 2) ls (.ref q :: rest))) : W p l e R s m args below meth c H locs cells slots Q (F0 m pc ls (.int n :: rest)) := by
  refine va_newa hx hb harr hty hK hP hD hS hA ha hn hN hbytes hcells hslots hdg (fun q cA' H1 hK1 hP1 hD1 hS1 => ?_)
  have h1 := hra _ (hK.2 t0 _ ht).2
  have h2 := hra _ (hK1.2 tys.length (cA', ty) (by simp)).2
  have h3 : cA' = cA := Option.some.inj (h2.symm.trans h1)
  subst h3
  exact kk q H1 hP1 hD1 hS1
/-- a loop: at its head J, with fuel n; the goal behind it is walked in the step -/
theorem kt_loop {σ : Type} (J nL : Nat) (wsf : σ → va_W) (lf : σ → List (Nat × Value)) (I : Nat → σ → Prop) (h0 : ∀ u, ¬ I 0 u)
    (hs : ∀ n, (∀ u, I n u → ∀ (H1 : Heap) (locs1 : List Loc), va_P D vwCl (wsf u) H1 → va_D A (wsf u) → va_S A H0 H1 locs1 → ∀ ls1 : Array Slot, lv_has ls1 nL (lf u) → W p l e R s m args below meth c H1 locs1 cells slots Q (F0 m J ls1 [])) → ∀ u, I (n + 1) u → ∀ (H1 : Heap) (locs1 : List Loc), va_P D vwCl (wsf u) H1 → va_D A (wsf u) → va_S A H0 H1 locs1 → ∀ ls1 : Array Slot, lv_has ls1 nL (lf u) → W p l e R s m args below meth c H1 locs1 cells slots Q (F0 m J ls1 []))
    (n0 : Nat) (u0 : σ) (hI : I n0 u0) (hP : va_P D vwCl (wsf u0) H) (hD : va_D A (wsf u0)) (hS : va_S A H0 H locs) (hl : lv_has ls nL (lf u0)) : W p l e R s m args below meth c H locs cells slots Q (F0 m J ls []) := by
  have key : ∀ n u, I n u → ∀ (H1 : Heap) (locs1 : List Loc), va_P D vwCl (wsf u) H1 → va_D A (wsf u) → va_S A H0 H1 locs1 → ∀ ls1 : Array Slot, lv_has ls1 nL (lf u) → W p l e R s m args below meth c H1 locs1 cells slots Q (F0 m J ls1 []) := by
    intro n
    induction n with
    | zero => intro u h; exact absurd h (h0 u)
    | succ n ih => exact hs n ih
  exact key n0 u0 hI H locs hP hD hS ls hl
/-- a place where roads meet -/
theorem kt_join {σ : Type} {g : JFrame} (J nL : Nat) (wsf : σ → va_W) (lf : σ → List (Nat × Value)) (sf : σ → List Value) (I : σ → Prop)
    (h1 : ∀ u, I u → ∀ (H1 : Heap) (locs1 : List Loc), va_P D vwCl (wsf u) H1 → va_D A (wsf u) → va_S A H0 H1 locs1 → ∀ ls1 : Array Slot, lv_has ls1 nL (lf u) → W p l e R s m args below meth c H1 locs1 cells slots Q (F0 m J ls1 (sf u)))
    (h2 : (∀ u, I u → ∀ (H1 : Heap) (locs1 : List Loc), va_P D vwCl (wsf u) H1 → va_D A (wsf u) → va_S A H0 H1 locs1 → ∀ ls1 : Array Slot, lv_has ls1 nL (lf u) → W p l e R s m args below meth c H1 locs1 cells slots Q (F0 m J ls1 (sf u))) → W p l e R s m args below meth c H locs cells slots Q g) : W p l e R s m args below meth c H locs cells slots Q g := h2 h1
end KT
theorem kt_P_arr {D : va_G} {ws : va_W} {H : Heap} {a n : Nat} {cA : ClassId} {f g : Nat → Int32} (hP : va_P D vwCl ws H) (i : Nat) (he : ws[i]? = some (a, .inl (cA, n, .inl f))) (hfg : ∀ j, j < n → f j = g j) : va_P D vwCl (ws.set i (a, .inl (cA, n, .inl g))) H := by
  have hl := (List.getElem?_eq_some_iff.mp he).1
  intro k q hk
  by_cases hki : k = i
  · subst hki
    rw [List.getElem?_set_self hl] at hk
    cases hk
    have h1 : H[a]? = some (vp_cell cA (n, .inl f)) := hP k _ he
    show H[a]? = some (vp_cell cA (n, .inl g))
    rw [h1]
    have h2 : (Array.ofFn (n := n) fun j => Value.int (f j.val)) = Array.ofFn (n := n) fun j => Value.int (g j.val) := by
      congr 1
      funext j
      rw [hfg j.val j.isLt]
    show some (arrV cA n (fun j => .int (f j))) = some (arrV cA n (fun j => .int (g j)))
    unfold arrV
    rw [h2]
  · rw [List.getElem?_set_ne (Ne.symm hki)] at hk
    exact hP k q hk
/-- a boolean answer -/
def kt_B (r : Int32) (P : Prop) : Prop := (r = 1 ∧ P) ∨ (r = 0 ∧ ¬ P)
theorem kt_B.t {r : Int32} {P : Prop} (h : kt_B r P) (hr : ¬ r = 0) : P := by
  rcases h with ⟨-, h⟩ | ⟨h, -⟩
  · exact h
  · exact absurd h hr
theorem kt_B.f {r : Int32} {P : Prop} (h : kt_B r P) (hr : r = 0) : ¬ P := by
  rcases h with ⟨h, -⟩ | ⟨-, h⟩
  · rw [hr] at h; exact absurd h (by decide)
  · exact h
theorem kt_B.z {r : Int32} {P : Prop} (h : kt_B r P) : narrow .boolean (.int r) = .int r := by
  rcases h with ⟨rfl, -⟩ | ⟨rfl, -⟩ <;> rfl
theorem kt_B.n {r : Int32} {P : Prop} (h : kt_B r P) : fits .boolean (.int r) = true := by
  rcases h with ⟨rfl, -⟩ | ⟨rfl, -⟩ <;> rfl
theorem kt_lt (a b : Int32) : a < b ↔ a.toInt < b.toInt := Int32.lt_iff_toInt_lt
theorem kt_le (a b : Int32) : a ≤ b ↔ a.toInt ≤ b.toInt := Int32.le_iff_toInt_le
theorem kt_eq (a b : Int32) : a = b ↔ a.toInt = b.toInt := Int32.toInt_inj.symm
theorem kt_c0 : (0 : Int32).toInt = 0 := by decide
theorem kt_c1 : (1 : Int32).toInt = 1 := by decide
theorem kt_c2 : (2 : Int32).toInt = 2 := by decide
theorem kt_c3 : (3 : Int32).toInt = 3 := by decide
theorem kt_c4 : (4 : Int32).toInt = 4 := by decide
theorem kt_c5 : (5 : Int32).toInt = 5 := by decide
theorem kt_c6 : (6 : Int32).toInt = 6 := by decide
theorem kt_c7 : (7 : Int32).toInt = 7 := by decide
theorem kt_c8 : (8 : Int32).toInt = 8 := by decide
theorem kt_c9 : (9 : Int32).toInt = 9 := by decide
theorem kt_c40 : (40 : Int32).toInt = 40 := by decide
theorem kt_c81 : (81 : Int32).toInt = 81 := by decide
theorem kt_cm1 : (-1 : Int32).toInt = -1 := by decide
theorem kt_sw (x : Int32) (n : Nat) : (x.toInt < 0 ∨ (n : Int) ≤ x.toInt) ∨ (0 ≤ x.toInt ∧ x.toInt < n) := by omega
theorem kt_nIof {x : Int32} (h : 0 ≤ x.toInt) : x = nI x.toInt.toNat := by
  rw [kt_eq, nI_toInt]
  · omega
  · have := Int32.toInt_lt x; omega
theorem kt_nI {n : Nat} (h : n < 1000000000) : (nI n).toInt = (n : Int) := nI_toInt (by omega)
theorem kt_in {x : Int32} {n : Nat} (h1 : 0 ≤ x.toInt) (h2 : x.toInt < n) : vp_in x n := vp_in_iff.mpr ⟨h1, h2⟩
