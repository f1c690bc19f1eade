/-! own kit: truth values as ints, pure and changing contracts, calls, branches on numbers -/
def bI (b : Bool) : Int32 := if b then 1 else 0
theorem bI_0 {b : Bool} : bI b = 0 ↔ b = false := by cases b <;> decide
theorem bI_n0 {b : Bool} : ¬ bI b = 0 ↔ b = true := by cases b <;> decide
theorem bI_nar (b : Bool) : narrow .boolean (.int (bI b)) = .int (bI b) := by cases b <;> decide
theorem nI_nar0 : narrow .boolean (.int (nI 0)) = .int (nI 0) := by decide
theorem nI_nar1 : narrow .boolean (.int (nI 1)) = .int (nI 1) := by decide
theorem nI_bI0 : nI 0 = bI false := by decide
theorem nI_bI1 : nI 1 = bI true := by decide
def zk_nx : List Cond := [
  (Jvm.Cond.methodLinkNest "DunceSee" (11 : Nat) ({ cls := "DunceSee$Roll", name := "<init>", desc := "()V" } : Jvm.MethodName) "DunceSee"),
  (Jvm.Cond.fieldLinkNest "DunceSee$Reader" (22 : Nat) "DunceSee$Roll" "days" "I" "DunceSee"),
  (Jvm.Cond.fieldLinkNest "DunceSee" (152 : Nat) "DunceSee$Roll" "days" "I" "DunceSee"),
  (Jvm.Cond.fieldLinkNest "DunceSee$Reader" (25 : Nat) "DunceSee$Roll" "pupils" "I" "DunceSee"),
  (Jvm.Cond.fieldLinkNest "DunceSee" (76 : Nat) "DunceSee$Roll" "pupils" "I" "DunceSee"),
  (Jvm.Cond.fieldLinkNest "DunceSee$Reader" (32 : Nat) "DunceSee$Roll" "doubt" "I" "DunceSee"),
  (Jvm.Cond.fieldLinkNest "DunceSee" (108 : Nat) "DunceSee$Roll" "doubt" "I" "DunceSee"),
  (Jvm.Cond.fieldLinkNest "DunceSee$Reader" (39 : Nat) "DunceSee$Roll" "room" "I" "DunceSee"),
  (Jvm.Cond.fieldLinkNest "DunceSee" (111 : Nat) "DunceSee$Roll" "room" "I" "DunceSee"),
  (Jvm.Cond.fieldLinkNest "DunceSee" (98 : Nat) "DunceSee$Roll" "hardOf" "[I" "DunceSee"),
  (Jvm.Cond.fieldLinkNest "DunceSee$Reader" (49 : Nat) "DunceSee$Roll" "hardOf" "[I" "DunceSee"),
  (Jvm.Cond.fieldLinkNest "DunceSee" (82 : Nat) "DunceSee$Roll" "kindOf" "[I" "DunceSee"),
  (Jvm.Cond.fieldLinkNest "DunceSee$Reader" (53 : Nat) "DunceSee$Roll" "kindOf" "[I" "DunceSee"),
  (Jvm.Cond.fieldLinkNest "DunceSee" (86 : Nat) "DunceSee$Roll" "witOf" "[I" "DunceSee"),
  (Jvm.Cond.fieldLinkNest "DunceSee$Reader" (60 : Nat) "DunceSee$Roll" "witOf" "[I" "DunceSee"),
  (Jvm.Cond.fieldLinkNest "DunceSee" (89 : Nat) "DunceSee$Roll" "patienceOf" "[I" "DunceSee"),
  (Jvm.Cond.fieldLinkNest "DunceSee$Reader" (63 : Nat) "DunceSee$Roll" "patienceOf" "[I" "DunceSee"),
  (Jvm.Cond.fieldLinkNest "DunceSee" (146 : Nat) "DunceSee$Roll" "pretendsOf" "[I" "DunceSee"),
  (Jvm.Cond.fieldLinkNest "DunceSee" (230 : Nat) "DunceSee$Roll" "standing" "[I" "DunceSee"),
  (Jvm.Cond.methodLinkNest "DunceSee" (23 : Nat) ({ cls := "DunceSee$Reader", name := "<init>", desc := "()V" } : Jvm.MethodName) "DunceSee"),
  (Jvm.Cond.methodLinkNest "DunceSee$Reader" (11 : Nat) ({ cls := "DunceSee$Roll", name := "<init>", desc := "()V" } : Jvm.MethodName) "DunceSee"),
  (Jvm.Cond.fieldLinkNest "DunceSee" (65 : Nat) "DunceSee$Reader" "roll" "LDunceSee$Roll;" "DunceSee"),
  (Jvm.Cond.methodLinkNest "DunceSee" (30 : Nat) ({ cls := "DunceSee$Readings", name := "<init>", desc := "()V" } : Jvm.MethodName) "DunceSee"),
  (Jvm.Cond.fieldLinkNest "DunceSee" (155 : Nat) "DunceSee$Readings" "count" "I" "DunceSee"),
  (Jvm.Cond.fieldLinkNest "DunceSee" (195 : Nat) "DunceSee$Sheets" "laneOf" "[I" "DunceSee")]
def zk_nxo (w : Cond) : Bool := match w with
  | .fieldLinkNest .. => true
  | .methodLinkNest .. => true
  | _ => false
theorem zk_nx_ok : ∀ w ∈ zk_nx, zk_nxo w = true := by
  intro w hw
  simp only [zk_nx, List.mem_cons, List.not_mem_nil, or_false] at hw
  rcases hw with rfl | rfl | rfl | rfl | rfl | rfl | rfl | rfl | rfl | rfl | rfl | rfl | rfl | rfl | rfl | rfl | rfl | rfl | rfl | rfl | rfl | rfl | rfl | rfl | rfl <;> rfl
def zk_Nx (U : State) : Prop := ∀ w ∈ zk_nx, va_Nw w U
theorem zk_Nx.warm {s U : State} (hW : s.WarmedH U.vm) (h : zk_Nx s) : zk_Nx U := fun w hw => by
  have h1 := zk_nx_ok w hw
  have h2 := h w hw
  unfold zk_nxo at h1
  split at h1
  · exact va_Nw.warmF hW h2
  · exact va_Nw.warmM hW h2
  · cases h1
theorem zk_Nx.same {u U : State} (q : u.vm = U.vm) (h : zk_Nx u) : zk_Nx U := fun w hw => by
  have h1 := zk_nx_ok w hw
  have h2 := h w hw
  unfold zk_nxo at h1
  split at h1
  · exact va_Nw.same rfl q h2
  · exact va_Nw.same rfl q h2
  · cases h1
def Kx (D : va_G) (cI : ClassId) (U : State) : Prop := va_K D vwCl [(cI, .int)] U ∧ zk_Nx U
theorem Kx.warm {D : va_G} {cI : ClassId} {s U : State} (h : Kx D cI s) (hW : s.WarmedH U.vm) : Kx D cI U := ⟨va_K.moved hW.alike h.1, h.2.warm hW⟩
theorem Kx.frame {D : va_G} {cI : ClassId} {U : State} (h : Kx D cI U) (g : JFrame) (mk : MethodId) (a : Array Value) : Kx D cI (U.calling g mk a) := ⟨va_K.moved (u := U) (U := U.calling g mk a) (Vm.Alike.refl U.vm) h.1, zk_Nx.same (u := U) (U := U.calling g mk a) rfl h.2⟩
theorem Kx.nest {D : va_G} {cI : ClassId} {U : State} (h : Kx D cI U) (k : Nat) {w : Cond} (hk : zk_nx[k]? = some w) {A : Array Value} : w.before A U = true := by
  have hm := List.mem_of_getElem? hk
  have h1 := zk_nx_ok w hm
  have h2 := h.2 w hm
  unfold zk_nxo at h1
  split at h1
  · exact va_Nw.use rfl h2
  · exact va_Nw.use rfl h2
  · cases h1
/-- a method that only reads: its start -/
def PS (D : va_G) (cI : ClassId) (av : List Value) (w : va_W) : Array Value → State → Prop := va_Pc av (fun U => va_P D vwCl w U.heap ∧ Kx D cI U)
theorem PS.blind {D : va_G} {cI : ClassId} {av : List Value} {w : va_W} : FrameBlind (PS D cI av w) := fun a U g mk q => ⟨q.1, q.2.1, q.2.2.frame g mk a⟩
/-- a method that changes its cells: its start and its ends -/
def PQ (D : va_G) (cI : ClassId) (av : List Value) (w : va_W) (sz : Nat) : Array Value → State → Prop := va_Pc av (fun U => U.heap.size = sz ∧ va_P D vwCl w U.heap ∧ Kx D cI U ∧ va_D (fun _ => True) w)
theorem PQ.blind {D : va_G} {cI : ClassId} {av : List Value} {w : va_W} {sz : Nat} : FrameBlind (PQ D cI av w sz) := fun a U g mk q => ⟨q.1, q.2.1, q.2.2.1, q.2.2.2.1.frame g mk a, q.2.2.2.2⟩
def QI {S : Type} (D : va_G) (post : Int32 → S → Prop) (w2 : S → va_W) (A : Nat → Prop) : Array Value → State → Outcome → State → Prop := va_Qi post (fun u t => va_P D vwCl (w2 u) t.heap ∧ va_D A (w2 u)) A
def QL {S : Type} (D : va_G) (post : Int64 → S → Prop) (w2 : S → va_W) (A : Nat → Prop) : Array Value → State → Outcome → State → Prop := va_Ql post (fun u t => va_P D vwCl (w2 u) t.heap ∧ va_D A (w2 u)) A
def QV {S : Type} (D : va_G) (post : S → Prop) (w2 : S → va_W) (A : Nat → Prop) : Array Value → State → Outcome → State → Prop := va_Qv post (fun u t => va_P D vwCl (w2 u) t.heap ∧ va_D A (w2 u)) A
theorem zk_S {l : Launch} {y : MethodName} {ws0 ws' : List Cond} {rm : Room} {D : va_G} {cI : ClassId} {av : List Value} {w : va_W} {Qc : Array Value → State → Outcome → State → Prop} {cc : ByteArray} {maxL : Nat} {ret : Option FieldType} (hy : plainName y.cls = true) (hw : ws0 = Cond.code y cc maxL ret :: ws') (hlen : (lg_sl av).length ≤ maxL)
    (body : ∀ (p : Program) (e : Env) (s : State) (m : MethodId) (below : List Frame) (meth : Method) (c : Code), p.tables.exec = Jvm.exec → c.code = cc → meth.sig.returnType = ret → meth.locks = false → c.maxLocals = maxL → s.vm.findClass y.cls = some m.cls → (∀ w ∈ ws0, w.before av.toArray s = true) → va_P D vwCl w s.heap → Kx D cI s → ∀ ls : Array Slot, lv_has ls maxL (lv_args 0 av) → W p l e rm s m av.toArray below meth c s.heap [] 0 0 (MQ below Qc av.toArray s 0 0 (fun _ => False)) (F0 m 0 ls [])) : Met l y ws0 rm (PS D cI av w) Qc 0 0 (fun _ => False) := by
  refine Met.ofW (cc := cc) (maxL := maxL) (ret := ret) hy hw ?_
  intro p e s m args below meth c s₁ B hml hv
  obtain ⟨rfl, hP, hK⟩ := hv
  have hts := atoms_spec (ws := ws0) B.pre
  have hl := lv_entry av (n := maxL) hlen
  rw [lg_entry_eq]
  exact body p e s m below meth c B.exec B.bytes B.returns B.notSynchronized hml (findClass_of_methodNamed B.named) hts hP hK _ hl
theorem zk_Q {l : Launch} {y : MethodName} {ws0 ws' : List Cond} {rm : Room} {D : va_G} {cI : ClassId} {av : List Value} {w : va_W} {sz mc ms : Nat} (Qf : (Nat → Prop) → Array Value → State → Outcome → State → Prop) {cc : ByteArray} {maxL : Nat} {ret : Option FieldType} (hy : plainName y.cls = true) (hw : ws0 = Cond.code y cc maxL ret :: ws') (hlen : (lg_sl av).length ≤ maxL)
    (body : ∀ (p : Program) (e : Env) (s : State) (m : MethodId) (below : List Frame) (meth : Method) (c : Code), p.tables.exec = Jvm.exec → c.code = cc → meth.sig.returnType = ret → meth.locks = false → c.maxLocals = maxL → s.vm.findClass y.cls = some m.cls → meth.name = y.name → (∀ w ∈ ws0, w.before av.toArray s = true) → va_P D vwCl w s.heap → Kx D cI s → ∀ A : Nat → Prop, (∀ q, s.heap.size ≤ q → A q) → va_D A w → va_S A s.heap s.heap [] → ∀ ls : Array Slot, lv_has ls maxL (lv_args 0 av) → W p l e rm s m av.toArray below meth c s.heap [] 0 0 (MQ below (Qf A) av.toArray s mc ms A) (F0 m 0 ls [])) : Met l y ws0 rm (PQ D cI av w sz) (Qf (va_A w sz)) mc ms (va_A w sz) := by
  refine Met.ofW (cc := cc) (maxL := maxL) (ret := ret) hy hw ?_
  intro p e s m args below meth c s₁ B hml hv
  obtain ⟨rfl, hsz, hP, hK, hD⟩ := hv
  subst hsz
  have hts := atoms_spec (ws := ws0) B.pre
  have hl := lv_entry av (n := maxL) hlen
  rw [lg_entry_eq]
  exact body p e s m below meth c B.exec B.bytes B.returns B.notSynchronized hml (findClass_of_methodNamed B.named) (name_of_methodNamed B.named B.method).1 hts hP hK _ (fun q h => Or.inr h) hD.self va_S.rf _ hl
theorem zk_arrV {cI : ClassId} {n : Nat} {f g : Nat → Int32} (h : ∀ j, j < n → f j = g j) : arrV cI n (fun j => .int (f j)) = arrV cI n (fun j => .int (g j)) := by
  have e : ∀ x : Nat → Value, (arrV cI n x) = (arrV cI n x) := fun _ => rfl
  unfold arrV
  congr 1
  apply Array.ext
  · simp
  · intro i h1 h2
    simp at h1 h2
    simp [h i (by omega)]
section ZK
variable {p : Program} {l : Launch} {e : Env} {R : Room} {s : State} {m : MethodId} {args : Array Value} {below : List Frame} {meth : Method} {c : Code} {H : Heap} {locs : List Loc} {cells slots : Nat} {Q : State → Prop}
variable {cc : ByteArray} {pc : Nat} {ls : Array Slot} {rest st0 : List Value} {D : va_G} {cI : ClassId} {A : Nat → Prop} {a : Nat} {w : va_W} {H0 : Heap}
theorem zk_ifeqB (hx : p.tables.exec = Jvm.exec) (hb : c.code = cc) {b : Bool} {off : Int} {tgt : Nat} (hdg : decode cc pc = .ok (.ifCond .eq off, 3)) (ht : (pc : Int) + off = (tgt : Int))
    (kt : b = false → W p l e R s m args below meth c H locs cells slots Q (F0 m tgt ls rest)) (kf : b = true → W p l e R s m args below meth c H locs cells slots Q (F0 m (pc + 3) ls rest)) : W p l e R s m args below meth c H locs cells slots Q (F0 m pc ls (.int (bI b) :: rest)) :=
  lv_if_eq hx hb hdg ht (fun h => kt (bI_0.mp h)) (fun h => kf (bI_n0.mp h))
theorem zk_ifneB (hx : p.tables.exec = Jvm.exec) (hb : c.code = cc) {b : Bool} {off : Int} {tgt : Nat} (hdg : decode cc pc = .ok (.ifCond .ne off, 3)) (ht : (pc : Int) + off = (tgt : Int))
    (kt : b = true → W p l e R s m args below meth c H locs cells slots Q (F0 m tgt ls rest)) (kf : b = false → W p l e R s m args below meth c H locs cells slots Q (F0 m (pc + 3) ls rest)) : W p l e R s m args below meth c H locs cells slots Q (F0 m pc ls (.int (bI b) :: rest)) :=
  lv_if_ne hx hb hdg ht (fun h => kt (by first | exact bI_n0.mp h | exact bI_0.mp h)) (fun h => kf (by first | exact bI_0.mp h | (cases b <;> simp_all [bI])))
theorem zk_icmp_eq (hx : p.tables.exec = Jvm.exec) (hb : c.code = cc) {i j : Nat} {off : Int} {tgt : Nat} (hdg : decode cc pc = .ok (.if_icmp .eq off, 3)) (ht : (pc : Int) + off = (tgt : Int)) (hi : i < 2 ^ 31) (hj : j < 2 ^ 31)
    (kt : i = j → W p l e R s m args below meth c H locs cells slots Q (F0 m tgt ls rest)) (kf : i ≠ j → W p l e R s m args below meth c H locs cells slots Q (F0 m (pc + 3) ls rest)) : W p l e R s m args below meth c H locs cells slots Q (F0 m pc ls (.int (nI j) :: .int (nI i) :: rest)) :=
  lv_icmp_eq hx hb hdg ht (fun h => kt (by have h : i = j := (nI_eq hi hj).mp h; omega)) (fun h => kf (by have h : ¬ i = j := fun q => h ((nI_eq hi hj).mpr q); omega))
theorem zk_icmp_ne (hx : p.tables.exec = Jvm.exec) (hb : c.code = cc) {i j : Nat} {off : Int} {tgt : Nat} (hdg : decode cc pc = .ok (.if_icmp .ne off, 3)) (ht : (pc : Int) + off = (tgt : Int)) (hi : i < 2 ^ 31) (hj : j < 2 ^ 31)
    (kt : i ≠ j → W p l e R s m args below meth c H locs cells slots Q (F0 m tgt ls rest)) (kf : i = j → W p l e R s m args below meth c H locs cells slots Q (F0 m (pc + 3) ls rest)) : W p l e R s m args below meth c H locs cells slots Q (F0 m pc ls (.int (nI j) :: .int (nI i) :: rest)) :=
  lv_icmp_ne hx hb hdg ht (fun h => kt (by have h : ¬ i = j := fun q => h ((nI_eq hi hj).mpr q); omega)) (fun h => kf (by have h : i = j := (nI_eq hi hj).mp h; omega))
theorem zk_icmp_lt (hx : p.tables.exec = Jvm.exec) (hb : c.code = cc) {i j : Nat} {off : Int} {tgt : Nat} (hdg : decode cc pc = .ok (.if_icmp .lt off, 3)) (ht : (pc : Int) + off = (tgt : Int)) (hi : i < 2 ^ 31) (hj : j < 2 ^ 31)
    (kt : i < j → W p l e R s m args below meth c H locs cells slots Q (F0 m tgt ls rest)) (kf : j ≤ i → W p l e R s m args below meth c H locs cells slots Q (F0 m (pc + 3) ls rest)) : W p l e R s m args below meth c H locs cells slots Q (F0 m pc ls (.int (nI j) :: .int (nI i) :: rest)) :=
  lv_icmp_lt hx hb hdg ht (fun h => kt (by have h : i < j := (nI_ltI hi hj).mp h; omega)) (fun h => kf (by have h : ¬ i < j := fun q => h ((nI_ltI hi hj).mpr q); omega))
theorem zk_icmp_ge (hx : p.tables.exec = Jvm.exec) (hb : c.code = cc) {i j : Nat} {off : Int} {tgt : Nat} (hdg : decode cc pc = .ok (.if_icmp .ge off, 3)) (ht : (pc : Int) + off = (tgt : Int)) (hi : i < 2 ^ 31) (hj : j < 2 ^ 31)
    (kt : j ≤ i → W p l e R s m args below meth c H locs cells slots Q (F0 m tgt ls rest)) (kf : i < j → W p l e R s m args below meth c H locs cells slots Q (F0 m (pc + 3) ls rest)) : W p l e R s m args below meth c H locs cells slots Q (F0 m pc ls (.int (nI j) :: .int (nI i) :: rest)) :=
  lv_icmp_ge hx hb hdg ht (fun h => kt (by have h : j ≤ i := (nI_leI hj hi).mp h; omega)) (fun h => kf (by have h : ¬ j ≤ i := fun q => h ((nI_leI hj hi).mpr q); omega))
theorem zk_icmp_gt (hx : p.tables.exec = Jvm.exec) (hb : c.code = cc) {i j : Nat} {off : Int} {tgt : Nat} (hdg : decode cc pc = .ok (.if_icmp .gt off, 3)) (ht : (pc : Int) + off = (tgt : Int)) (hi : i < 2 ^ 31) (hj : j < 2 ^ 31)
    (kt : j < i → W p l e R s m args below meth c H locs cells slots Q (F0 m tgt ls rest)) (kf : i ≤ j → W p l e R s m args below meth c H locs cells slots Q (F0 m (pc + 3) ls rest)) : W p l e R s m args below meth c H locs cells slots Q (F0 m pc ls (.int (nI j) :: .int (nI i) :: rest)) :=
  lv_icmp_gt hx hb hdg ht (fun h => kt (by have h : j < i := (nI_ltI hj hi).mp h; omega)) (fun h => kf (by have h : ¬ j < i := fun q => h ((nI_ltI hj hi).mpr q); omega))
theorem zk_icmp_le (hx : p.tables.exec = Jvm.exec) (hb : c.code = cc) {i j : Nat} {off : Int} {tgt : Nat} (hdg : decode cc pc = .ok (.if_icmp .le off, 3)) (ht : (pc : Int) + off = (tgt : Int)) (hi : i < 2 ^ 31) (hj : j < 2 ^ 31)
    (kt : i ≤ j → W p l e R s m args below meth c H locs cells slots Q (F0 m tgt ls rest)) (kf : j < i → W p l e R s m args below meth c H locs cells slots Q (F0 m (pc + 3) ls rest)) : W p l e R s m args below meth c H locs cells slots Q (F0 m pc ls (.int (nI j) :: .int (nI i) :: rest)) :=
  lv_icmp_le hx hb hdg ht (fun h => kt (by have h : i ≤ j := (nI_leI hi hj).mp h; omega)) (fun h => kf (by have h : ¬ i ≤ j := fun q => h ((nI_leI hi hj).mpr q); omega))
theorem zk_iald (hx : p.tables.exec = Jvm.exec) (hb : c.code = cc) (hK : Kx D cI s) (hP : va_P D vwCl w H) (q0 : Nat) {n : Nat} {f : Nat → Int32} (ha : w[q0]? = some (a, .inl (cI, n, .inl f))) {j : Nat} (hj : j < n) (hn : n < 2 ^ 31) (hdg : decode cc pc = .ok (.iaload, 1))
    (kk : W p l e R s m args below meth c H locs cells slots Q (F0 m (pc + 1) ls (.int (f j) :: rest))) : W p l e R s m args below meth c H locs cells slots Q (F0 m pc ls (.int (nI j) :: .ref a :: rest)) :=
  va_iald hx hb hK.1 hP q0 0 ha rfl (vp_in_nI hj hn) hdg (by rw [nI_clamp (by omega)]; exact kk)
theorem zk_iast (hx : p.tables.exec = Jvm.exec) (hb : c.code = cc) (hK : Kx D cI s) (hP : va_P D vwCl w H) (hD : va_D A w) (hS : va_S A H0 H locs) (q0 : Nat) {n : Nat} {f : Nat → Int32} (ha : w[q0]? = some (a, .inl (cI, n, .inl f))) {j : Nat} {x : Int32} (hj : j < n) (hn : n < 2 ^ 31) (hdg : decode cc pc = .ok (.iastore, 1))
    (kk : ∀ (H1 : Heap) (locs1 : List Loc), va_P D vwCl (w.set q0 (a, .inl (cI, n, .inl (upd f j x)))) H1 → va_D A (w.set q0 (a, .inl (cI, n, .inl (upd f j x)))) → va_S A H0 H1 locs1 → W p l e R s m args below meth c H1 locs1 cells slots Q (F0 m (pc + 1) ls rest)) : W p l e R s m args below meth c H locs cells slots Q (F0 m pc ls (.int x :: .int (nI j) :: .ref a :: rest)) :=
  va_iast hx hb hK.1 hP hD hS q0 0 ha rfl (vp_in_nI hj hn) hdg (by rw [nI_clamp (by omega)]; exact kk)
theorem zk_iaddN (hx : p.tables.exec = Jvm.exec) (hb : c.code = cc) {i j : Nat} (hdg : decode cc pc = .ok (.iadd, 1)) (kk : W p l e R s m args below meth c H locs cells slots Q (F0 m (pc + 1) ls (.int (nI (i + j)) :: rest))) : W p l e R s m args below meth c H locs cells slots Q (F0 m pc ls (.int (nI j) :: .int (nI i) :: rest)) :=
  lv_iadd hx hb hdg (by rw [nI_add]; exact kk)
theorem zk_isubN (hx : p.tables.exec = Jvm.exec) (hb : c.code = cc) {i j : Nat} (h : j ≤ i) (hdg : decode cc pc = .ok (.isub, 1)) (kk : W p l e R s m args below meth c H locs cells slots Q (F0 m (pc + 1) ls (.int (nI (i - j)) :: rest))) : W p l e R s m args below meth c H locs cells slots Q (F0 m pc ls (.int (nI j) :: .int (nI i) :: rest)) :=
  lv_isub hx hb hdg (by rw [pk_sub h]; exact kk)
theorem zk_imulN (hx : p.tables.exec = Jvm.exec) (hb : c.code = cc) {i j : Nat} (hdg : decode cc pc = .ok (.imul, 1)) (kk : W p l e R s m args below meth c H locs cells slots Q (F0 m (pc + 1) ls (.int (nI (i * j)) :: rest))) : W p l e R s m args below meth c H locs cells slots Q (F0 m pc ls (.int (nI j) :: .int (nI i) :: rest)) :=
  lv_imul hx hb hdg (by rw [pk_mul]; exact kk)
/-- the top of the stack by another name -/
theorem zk_top {x y : Int32} (h : x = y) (kk : W p l e R s m args below meth c H locs cells slots Q (F0 m pc ls (.int y :: rest))) : W p l e R s m args below meth c H locs cells slots Q (F0 m pc ls (.int x :: rest)) := h ▸ kk
theorem zk_topl {x y : Int64} (h : x = y) (kk : W p l e R s m args below meth c H locs cells slots Q (F0 m pc ls (.long y :: rest))) : W p l e R s m args below meth c H locs cells slots Q (F0 m pc ls (.long x :: rest)) := h ▸ kk
/-- answers of a method that only reads -/
theorem zk_retS {t v : Int32} (hx : p.tables.exec = Jvm.exec) (hb : c.code = cc) (hr : meth.sig.returnType = some .int) (h : v = t) (hdg : decode cc pc = .ok (.ireturn, 1)) (hlocks : meth.locks = false) : W p l e R s m args below meth c s.heap [] 0 0 (MQ below (vp_Si (fun r => r = t)) args s 0 0 (fun _ => False)) (F0 m pc ls [.int v]) :=
  W.iret (v := v) hx hb hr (fun _ ht _ => ⟨v, rfl, h, ht⟩) (fun _ h => nomatch h) hdg hlocks
theorem zk_retSB {t v : Int32} (hx : p.tables.exec = Jvm.exec) (hb : c.code = cc) (hr : meth.sig.returnType = some .boolean) (hn : narrow .boolean (.int v) = .int v) (h : v = t) (hdg : decode cc pc = .ok (.ireturn, 1)) (hlocks : meth.locks = false) : W p l e R s m args below meth c s.heap [] 0 0 (MQ below (vp_Si (fun r => r = t)) args s 0 0 (fun _ => False)) (F0 m pc ls [.int v]) :=
  W.zret (v := v) hx hb hr hn (fun _ ht _ => ⟨v, rfl, h, ht⟩) (fun _ h => nomatch h) hdg hlocks
theorem zk_retSL {t v : Int64} (hx : p.tables.exec = Jvm.exec) (hb : c.code = cc) (hr : meth.sig.returnType = some .long) (h : v = t) (hdg : decode cc pc = .ok (.lreturn, 1)) (hlocks : meth.locks = false) : W p l e R s m args below meth c s.heap [] 0 0 (MQ below (vp_Sl (fun r => r = t)) args s 0 0 (fun _ => False)) (F0 m pc ls [.long v]) :=
  W.lret (v := v) hx hb hr (fun _ ht _ => ⟨v, rfl, h, ht⟩) (fun _ h => nomatch h) hdg hlocks
theorem zk_retSV (hx : p.tables.exec = Jvm.exec) (hb : c.code = cc) (hr : meth.sig.returnType = none) (hdg : decode cc pc = .ok (.return_, 1)) (hlocks : meth.locks = false) : W p l e R s m args below meth c s.heap [] 0 0 (MQ below (va_Sv (fun _ => True)) args s 0 0 (fun _ => False)) (F0 m pc ls []) :=
  W.vret hx hb hr (fun _ ht _ => ⟨rfl, trivial, ht⟩) (fun _ h => nomatch h) hdg hlocks
/-- answers of a method that changes its cells -/
theorem zk_retI {S : Type} {post : Int32 → S → Prop} {w2 : S → va_W} {v : Int32} (hx : p.tables.exec = Jvm.exec) (hb : c.code = cc) (hr : meth.sig.returnType = some .int) (hS : va_S A s.heap H locs) (u : S) (hp : post v u) (hP : va_P D vwCl (w2 u) H) (hD : va_D A (w2 u)) (hdg : decode cc pc = .ok (.ireturn, 1)) (hlocks : meth.locks = false) : W p l e R s m args below meth c H locs cells slots (MQ below (QI D post w2 A) args s cells slots A) (F0 m pc ls [.int v]) :=
  W.iret (v := v) hx hb hr (fun t ht _ => ⟨⟨v, u, rfl, hp, by rw [ht]; exact hP, hD⟩, hS.F ht⟩) hS.2.2 hdg hlocks
theorem zk_retB {S : Type} {post : Int32 → S → Prop} {w2 : S → va_W} {v : Int32} (hx : p.tables.exec = Jvm.exec) (hb : c.code = cc) (hr : meth.sig.returnType = some .boolean) (hn : narrow .boolean (.int v) = .int v) (hS : va_S A s.heap H locs) (u : S) (hp : post v u) (hP : va_P D vwCl (w2 u) H) (hD : va_D A (w2 u)) (hdg : decode cc pc = .ok (.ireturn, 1)) (hlocks : meth.locks = false) : W p l e R s m args below meth c H locs cells slots (MQ below (QI D post w2 A) args s cells slots A) (F0 m pc ls [.int v]) :=
  W.zret (v := v) hx hb hr hn (fun t ht _ => ⟨⟨v, u, rfl, hp, by rw [ht]; exact hP, hD⟩, hS.F ht⟩) hS.2.2 hdg hlocks
theorem zk_retL {S : Type} {post : Int64 → S → Prop} {w2 : S → va_W} {v : Int64} (hx : p.tables.exec = Jvm.exec) (hb : c.code = cc) (hr : meth.sig.returnType = some .long) (hS : va_S A s.heap H locs) (u : S) (hp : post v u) (hP : va_P D vwCl (w2 u) H) (hD : va_D A (w2 u)) (hdg : decode cc pc = .ok (.lreturn, 1)) (hlocks : meth.locks = false) : W p l e R s m args below meth c H locs cells slots (MQ below (QL D post w2 A) args s cells slots A) (F0 m pc ls [.long v]) :=
  W.lret (v := v) hx hb hr (fun t ht _ => ⟨⟨v, u, rfl, hp, by rw [ht]; exact hP, hD⟩, hS.F ht⟩) hS.2.2 hdg hlocks
theorem zk_retV {S : Type} {post : S → Prop} {w2 : S → va_W} (hx : p.tables.exec = Jvm.exec) (hb : c.code = cc) (hr : meth.sig.returnType = none) (hS : va_S A s.heap H locs) (u : S) (hp : post u) (hP : va_P D vwCl (w2 u) H) (hD : va_D A (w2 u)) (hdg : decode cc pc = .ok (.return_, 1)) (hlocks : meth.locks = false) : W p l e R s m args below meth c H locs cells slots (MQ below (QV D post w2 A) args s cells slots A) (F0 m pc ls []) :=
  W.vret hx hb hr (fun t ht _ => ⟨⟨u, rfl, hp, by rw [ht]; exact hP, hD⟩, hS.F ht⟩) hS.2.2 hdg hlocks
theorem zk_callVi {y : MethodName} {bytes : ByteArray} {maxL nL n index : Nat} {ret : Option FieldType} {ws0 : List Cond} {rm : Room} {Ts : List Cond} {own C : String} {b : Addr} {As : List Value} {ci N : Nat} {T : u_T} {fs : List Value} {wc : va_W} (t : Int32) (S : CallFix p m c cc nL s args Ts own) (hK : Kx D cI s) (hP : va_P D vwCl w H) (is : List Nat) (hC : is.filterMap (fun i => w[i]?) = wc) (hM : Met l y ws0 rm (PS D cI (.ref b :: As) wc) (vp_Si (fun r => r = t)) 0 0 (fun _ => False)) (cw : CallW R s args own C index y bytes maxL ret ws0 rm 0 0 n) (hr0 : wc[0]? = some (b, .inr (ci, fs))) (hcl : vwCl[ci]? = some (C, T, N)) (hn : As.length = n) (hsize : ls.size = nL) (hst : st0 = As.reverse ++ .ref b :: rest) (hW : (rest.map fun v => v.category).sum ≤ 8) (hdg : decode cc pc = .ok (.invokevirtual index, 3)) (hf : cells + 0 ≤ R.cells ∧ slots + 0 ≤ R.slots)
    (kk : W p l e R s m args below meth c H locs cells slots Q (F0 m (pc + 3) ls (.int t :: rest))) : W p l e R s m args below meth c H locs cells slots Q (F0 m pc ls st0) := by
  have hPc := hP.sub is hC
  exact vp_callSi (W.runV (g := F0 m pc ls st0) (rest := rest) S hM cw ⟨PS.blind, va_recv hK.1 hPc hcl hr0, fun U hU hW => ⟨rfl, by rw [hU]; exact hPc, hK.warm hW⟩⟩ rfl hn hsize hst (lv_room hW) hdg hf) (fun r hr => by subst hr; exact kk)
theorem zk_callVl {y : MethodName} {bytes : ByteArray} {maxL nL n index : Nat} {ret : Option FieldType} {ws0 : List Cond} {rm : Room} {Ts : List Cond} {own C : String} {b : Addr} {As : List Value} {ci N : Nat} {T : u_T} {fs : List Value} {wc : va_W} (t : Int64) (S : CallFix p m c cc nL s args Ts own) (hK : Kx D cI s) (hP : va_P D vwCl w H) (is : List Nat) (hC : is.filterMap (fun i => w[i]?) = wc) (hM : Met l y ws0 rm (PS D cI (.ref b :: As) wc) (vp_Sl (fun r => r = t)) 0 0 (fun _ => False)) (cw : CallW R s args own C index y bytes maxL ret ws0 rm 0 0 n) (hr0 : wc[0]? = some (b, .inr (ci, fs))) (hcl : vwCl[ci]? = some (C, T, N)) (hn : As.length = n) (hsize : ls.size = nL) (hst : st0 = As.reverse ++ .ref b :: rest) (hW : (rest.map fun v => v.category).sum ≤ 8) (hdg : decode cc pc = .ok (.invokevirtual index, 3)) (hf : cells + 0 ≤ R.cells ∧ slots + 0 ≤ R.slots)
    (kk : W p l e R s m args below meth c H locs cells slots Q (F0 m (pc + 3) ls (.long t :: rest))) : W p l e R s m args below meth c H locs cells slots Q (F0 m pc ls st0) := by
  have hPc := hP.sub is hC
  exact vp_callSl (W.runV (g := F0 m pc ls st0) (rest := rest) S hM cw ⟨PS.blind, va_recv hK.1 hPc hcl hr0, fun U hU hW => ⟨rfl, by rw [hU]; exact hPc, hK.warm hW⟩⟩ rfl hn hsize hst (lv_room hW) hdg hf) (fun r hr => by subst hr; exact kk)
theorem zk_callSi {y : MethodName} {bytes : ByteArray} {maxL nL n index : Nat} {ret : Option FieldType} {ws0 : List Cond} {rm : Room} {Ts : List Cond} {own : String} {As : List Value} {wc : va_W} (t : Int32) (S : CallFix p m c cc nL s args Ts own) (hK : Kx D cI s) (hP : va_P D vwCl w H) (is : List Nat) (hC : is.filterMap (fun i => w[i]?) = wc) (hM : Met l y ws0 rm (PS D cI As wc) (vp_Si (fun r => r = t)) 0 0 (fun _ => False)) (cw : CallB R s args own index y bytes maxL ret ws0 rm 0 0 n ∧ (Cond.static y).before args s = true) (hn : As.length = n) (hsize : ls.size = nL) (hst : st0 = As.reverse ++ rest) (hW : (rest.map fun v => v.category).sum ≤ 8) (hdg : decode cc pc = .ok (.invokestatic index, 3)) (hf : cells + 0 ≤ R.cells ∧ slots + 0 ≤ R.slots)
    (kk : W p l e R s m args below meth c H locs cells slots Q (F0 m (pc + 3) ls (.int t :: rest))) : W p l e R s m args below meth c H locs cells slots Q (F0 m pc ls st0) := by
  have hPc := hP.sub is hC
  exact vp_callSi (W.runS (g := F0 m pc ls st0) (rest := rest) S hM cw ⟨PS.blind, fun U hU hW => ⟨rfl, by rw [hU]; exact hPc, hK.warm hW⟩⟩ rfl hn hsize hst (lv_room hW) hdg hf) (fun r hr => by subst hr; exact kk)
theorem zk_callSl {y : MethodName} {bytes : ByteArray} {maxL nL n index : Nat} {ret : Option FieldType} {ws0 : List Cond} {rm : Room} {Ts : List Cond} {own : String} {As : List Value} {wc : va_W} (t : Int64) (S : CallFix p m c cc nL s args Ts own) (hK : Kx D cI s) (hP : va_P D vwCl w H) (is : List Nat) (hC : is.filterMap (fun i => w[i]?) = wc) (hM : Met l y ws0 rm (PS D cI As wc) (vp_Sl (fun r => r = t)) 0 0 (fun _ => False)) (cw : CallB R s args own index y bytes maxL ret ws0 rm 0 0 n ∧ (Cond.static y).before args s = true) (hn : As.length = n) (hsize : ls.size = nL) (hst : st0 = As.reverse ++ rest) (hW : (rest.map fun v => v.category).sum ≤ 8) (hdg : decode cc pc = .ok (.invokestatic index, 3)) (hf : cells + 0 ≤ R.cells ∧ slots + 0 ≤ R.slots)
    (kk : W p l e R s m args below meth c H locs cells slots Q (F0 m (pc + 3) ls (.long t :: rest))) : W p l e R s m args below meth c H locs cells slots Q (F0 m pc ls st0) := by
  have hPc := hP.sub is hC
  exact vp_callSl (W.runS (g := F0 m pc ls st0) (rest := rest) S hM cw ⟨PS.blind, fun U hU hW => ⟨rfl, by rw [hU]; exact hPc, hK.warm hW⟩⟩ rfl hn hsize hst (lv_room hW) hdg hf) (fun r hr => by subst hr; exact kk)
theorem zk_callSv {y : MethodName} {bytes : ByteArray} {maxL nL n index : Nat} {ret : Option FieldType} {ws0 : List Cond} {rm : Room} {Ts : List Cond} {own : String} {As : List Value} {wc : va_W} (S : CallFix p m c cc nL s args Ts own) (hK : Kx D cI s) (hP : va_P D vwCl w H) (is : List Nat) (hC : is.filterMap (fun i => w[i]?) = wc) (hM : Met l y ws0 rm (PS D cI As wc) (va_Sv (fun _ => True)) 0 0 (fun _ => False)) (cw : CallB R s args own index y bytes maxL ret ws0 rm 0 0 n ∧ (Cond.static y).before args s = true) (hn : As.length = n) (hsize : ls.size = nL) (hst : st0 = As.reverse ++ rest) (hW : (rest.map fun v => v.category).sum ≤ 8) (hdg : decode cc pc = .ok (.invokestatic index, 3)) (hf : cells + 0 ≤ R.cells ∧ slots + 0 ≤ R.slots)
    (kk : W p l e R s m args below meth c H locs cells slots Q (F0 m (pc + 3) ls rest)) : W p l e R s m args below meth c H locs cells slots Q (F0 m pc ls st0) := by
  have hPc := hP.sub is hC
  exact va_csv (W.runS (g := F0 m pc ls st0) (rest := rest) S hM cw ⟨PS.blind, fun U hU hW => ⟨rfl, by rw [hU]; exact hPc, hK.warm hW⟩⟩ rfl hn hsize hst (lv_room hW) hdg hf) (fun _ => kk)
theorem zk_dis {isR isC : List Nat} (h : isR.all (fun i => !isC.contains i) = true) : ∀ i ∈ isR, i ∉ isC := fun i hi hc => by
  have h1 := List.all_eq_true.mp h i hi
  rw [List.contains_iff_mem.mpr hc] at h1
  cases h1
theorem zk_subP {ws ws' : va_W} (h : va_P D vwCl ws H) (is : List Nat) (hs : is.map (fun i => ws[i]?) = ws'.map some) : va_P D vwCl ws' H := fun k q hk => by
  have h1 : (is.map (fun i => ws[i]?))[k]? = some (some q) := by rw [hs, List.getElem?_map, hk]; rfl
  rw [List.getElem?_map] at h1
  cases hi : is[k]? with
  | none => rw [hi] at h1; cases h1
  | some i => rw [hi] at h1; exact h i q (Option.some.inj h1)
/-- an array's cell holds what lies within its length -/
theorem zk_arr {n a0 k : Nat} {f g : Nat → Int32} (h : va_P D vwCl w H) (hk : w[k]? = some (a0, .inl (cI, n, .inl f))) (hfg : ∀ j, j < n → f j = g j) : va_P D vwCl (w.set k (a0, .inl (cI, n, .inl g))) H := by
  intro i q hi
  rw [List.getElem?_set] at hi
  split at hi
  · rename_i hki
    subst hki
    split at hi
    · cases hi
      have h1 : H[a0]? = some (vp_cell cI (n, .inl f)) := h _ _ hk
      show H[a0]? = some (vp_cell cI (n, .inl g))
      rw [h1, vp_cell_i, vp_cell_i]
      congr 1
      exact zk_arrV hfg
    · cases hi
  · exact h i q hi
theorem zk_arrD {n a0 k : Nat} {f g : Nat → Int32} (h : va_D A w) (hk : w[k]? = some (a0, .inl (cI, n, .inl f))) : va_D A (w.set k (a0, .inl (cI, n, .inl g))) := h.set hk
theorem zk_effVi {y : MethodName} {bytes : ByteArray} {maxL nL n index : Nat} {ret : Option FieldType} {ws0 : List Cond} {rm : Room} {Ts : List Cond} {own C : String} {b : Addr} {As : List Value} {ci N : Nat} {T : u_T} {fs : List Value} {S : Type} (post : Int32 → S → Prop) (w2 : S → va_W) (F : CallFix p m c cc nL s args Ts own) (hK : Kx D cI s) (hP : va_P D vwCl w H) (hD : va_D A w) (hS : va_S A H0 H locs) (hA : ∀ q, H0.size ≤ q → A q) (isC isR : List Nat) {wc wr : va_W} (hC : isC.map (fun i => w[i]?) = wc.map some) (hR : isR.map (fun i => w[i]?) = wr.map some) (hnC : va_nd isC = true) (hnR : va_nd isR = true) (hdis : isR.all (fun i => !isC.contains i) = true) (pm : List Nat) (w3 : S → va_W) (hpm : ∀ u, pm.map (fun i => (wr ++ w2 u)[i]?) = (w3 u).map some) (hnp : va_nd pm = true) (hM : Met l y ws0 rm (PQ D cI (.ref b :: As) wc H.size) (QI D post w2 (va_A wc H.size)) 0 0 (va_A wc H.size)) (cw : CallW R s args own C index y bytes maxL ret ws0 rm 0 0 n) (hr0 : wc[0]? = some (b, .inr (ci, fs))) (hcl : vwCl[ci]? = some (C, T, N)) (hn : As.length = n) (hsize : ls.size = nL) (hst : st0 = As.reverse ++ .ref b :: rest) (hW : (rest.map fun v => v.category).sum ≤ 8) (hdg : decode cc pc = .ok (.invokevirtual index, 3)) (hf : cells + 0 ≤ R.cells ∧ slots + 0 ≤ R.slots)
    (kk : ∀ (r : Int32) (u : S) (H1 : Heap) (locs1 : List Loc), post r u → va_P D vwCl (w3 u) H1 → va_D A (w3 u) → va_S A H0 H1 locs1 → W p l e R s m args below meth c H1 locs1 cells slots Q (F0 m (pc + 3) ls (.int r :: rest))) : W p l e R s m args below meth c H locs cells slots Q (F0 m pc ls st0) := by
  have hPc : va_P D vwCl wc H := zk_subP hP isC hC
  have hDc := hD.sub isC hnC hC
  have hFc := va_free (wc := wc) hD hS hA isC hC
  refine va_calli (va_runV (g := F0 m pc ls st0) (rest := rest) F hM cw ⟨PQ.blind, va_recv hK.1 hPc hcl hr0, fun U hU hW => ⟨rfl, by rw [hU], by rw [hU]; exact hPc, hK.warm hW, hDc.weaken (fun _ _ _ _ => trivial)⟩⟩ rfl hn hsize hst (lv_room hW) hdg hf) hS (fun q _ h => hFc q h) hFc (fun r u t H1 locs1 ht hvm hw hB hz1 hk1 hS1 => ?_)
  obtain ⟨hP1, hD1⟩ := hB
  rw [ht] at hP1
  obtain ⟨hP2, hD2⟩ := va_join hP hD isC isR hC hR hnR (zk_dis hdis) hk1 hFc hP1 hD1
  exact kk r u H1 locs1 hw (zk_subP hP2 pm (hpm u)) (hD2.sub pm hnp (hpm u)) hS1
theorem zk_effVl {y : MethodName} {bytes : ByteArray} {maxL nL n index : Nat} {ret : Option FieldType} {ws0 : List Cond} {rm : Room} {Ts : List Cond} {own C : String} {b : Addr} {As : List Value} {ci N : Nat} {T : u_T} {fs : List Value} {S : Type} (post : Int64 → S → Prop) (w2 : S → va_W) (F : CallFix p m c cc nL s args Ts own) (hK : Kx D cI s) (hP : va_P D vwCl w H) (hD : va_D A w) (hS : va_S A H0 H locs) (hA : ∀ q, H0.size ≤ q → A q) (isC isR : List Nat) {wc wr : va_W} (hC : isC.map (fun i => w[i]?) = wc.map some) (hR : isR.map (fun i => w[i]?) = wr.map some) (hnC : va_nd isC = true) (hnR : va_nd isR = true) (hdis : isR.all (fun i => !isC.contains i) = true) (pm : List Nat) (w3 : S → va_W) (hpm : ∀ u, pm.map (fun i => (wr ++ w2 u)[i]?) = (w3 u).map some) (hnp : va_nd pm = true) (hM : Met l y ws0 rm (PQ D cI (.ref b :: As) wc H.size) (QL D post w2 (va_A wc H.size)) 0 0 (va_A wc H.size)) (cw : CallW R s args own C index y bytes maxL ret ws0 rm 0 0 n) (hr0 : wc[0]? = some (b, .inr (ci, fs))) (hcl : vwCl[ci]? = some (C, T, N)) (hn : As.length = n) (hsize : ls.size = nL) (hst : st0 = As.reverse ++ .ref b :: rest) (hW : (rest.map fun v => v.category).sum ≤ 8) (hdg : decode cc pc = .ok (.invokevirtual index, 3)) (hf : cells + 0 ≤ R.cells ∧ slots + 0 ≤ R.slots)
    (kk : ∀ (r : Int64) (u : S) (H1 : Heap) (locs1 : List Loc), post r u → va_P D vwCl (w3 u) H1 → va_D A (w3 u) → va_S A H0 H1 locs1 → W p l e R s m args below meth c H1 locs1 cells slots Q (F0 m (pc + 3) ls (.long r :: rest))) : W p l e R s m args below meth c H locs cells slots Q (F0 m pc ls st0) := by
  have hPc : va_P D vwCl wc H := zk_subP hP isC hC
  have hDc := hD.sub isC hnC hC
  have hFc := va_free (wc := wc) hD hS hA isC hC
  refine va_calll (va_runV (g := F0 m pc ls st0) (rest := rest) F hM cw ⟨PQ.blind, va_recv hK.1 hPc hcl hr0, fun U hU hW => ⟨rfl, by rw [hU], by rw [hU]; exact hPc, hK.warm hW, hDc.weaken (fun _ _ _ _ => trivial)⟩⟩ rfl hn hsize hst (lv_room hW) hdg hf) hS (fun q _ h => hFc q h) hFc (fun r u t H1 locs1 ht hvm hw hB hz1 hk1 hS1 => ?_)
  obtain ⟨hP1, hD1⟩ := hB
  rw [ht] at hP1
  obtain ⟨hP2, hD2⟩ := va_join hP hD isC isR hC hR hnR (zk_dis hdis) hk1 hFc hP1 hD1
  exact kk r u H1 locs1 hw (zk_subP hP2 pm (hpm u)) (hD2.sub pm hnp (hpm u)) hS1
theorem zk_effVv {y : MethodName} {bytes : ByteArray} {maxL nL n index : Nat} {ret : Option FieldType} {ws0 : List Cond} {rm : Room} {Ts : List Cond} {own C : String} {b : Addr} {As : List Value} {ci N : Nat} {T : u_T} {fs : List Value} {S : Type} (post : S → Prop) (w2 : S → va_W) (F : CallFix p m c cc nL s args Ts own) (hK : Kx D cI s) (hP : va_P D vwCl w H) (hD : va_D A w) (hS : va_S A H0 H locs) (hA : ∀ q, H0.size ≤ q → A q) (isC isR : List Nat) {wc wr : va_W} (hC : isC.map (fun i => w[i]?) = wc.map some) (hR : isR.map (fun i => w[i]?) = wr.map some) (hnC : va_nd isC = true) (hnR : va_nd isR = true) (hdis : isR.all (fun i => !isC.contains i) = true) (pm : List Nat) (w3 : S → va_W) (hpm : ∀ u, pm.map (fun i => (wr ++ w2 u)[i]?) = (w3 u).map some) (hnp : va_nd pm = true) (hM : Met l y ws0 rm (PQ D cI (.ref b :: As) wc H.size) (QV D post w2 (va_A wc H.size)) 0 0 (va_A wc H.size)) (cw : CallW R s args own C index y bytes maxL ret ws0 rm 0 0 n) (hr0 : wc[0]? = some (b, .inr (ci, fs))) (hcl : vwCl[ci]? = some (C, T, N)) (hn : As.length = n) (hsize : ls.size = nL) (hst : st0 = As.reverse ++ .ref b :: rest) (hW : (rest.map fun v => v.category).sum ≤ 8) (hdg : decode cc pc = .ok (.invokevirtual index, 3)) (hf : cells + 0 ≤ R.cells ∧ slots + 0 ≤ R.slots)
    (kk : ∀ (u : S) (H1 : Heap) (locs1 : List Loc), post u → va_P D vwCl (w3 u) H1 → va_D A (w3 u) → va_S A H0 H1 locs1 → W p l e R s m args below meth c H1 locs1 cells slots Q (F0 m (pc + 3) ls rest)) : W p l e R s m args below meth c H locs cells slots Q (F0 m pc ls st0) := by
  have hPc : va_P D vwCl wc H := zk_subP hP isC hC
  have hDc := hD.sub isC hnC hC
  have hFc := va_free (wc := wc) hD hS hA isC hC
  refine va_callv (va_runV (g := F0 m pc ls st0) (rest := rest) F hM cw ⟨PQ.blind, va_recv hK.1 hPc hcl hr0, fun U hU hW => ⟨rfl, by rw [hU], by rw [hU]; exact hPc, hK.warm hW, hDc.weaken (fun _ _ _ _ => trivial)⟩⟩ rfl hn hsize hst (lv_room hW) hdg hf) hS (fun q _ h => hFc q h) hFc (fun u t H1 locs1 ht hvm hw hB hz1 hk1 hS1 => ?_)
  obtain ⟨hP1, hD1⟩ := hB
  rw [ht] at hP1
  obtain ⟨hP2, hD2⟩ := va_join hP hD isC isR hC hR hnR (zk_dis hdis) hk1 hFc hP1 hD1
  exact kk u H1 locs1 hw (zk_subP hP2 pm (hpm u)) (hD2.sub pm hnp (hpm u)) hS1
theorem zk_effSv {y : MethodName} {bytes : ByteArray} {maxL nL n index : Nat} {ret : Option FieldType} {ws0 : List Cond} {rm : Room} {Ts : List Cond} {own : String} {As : List Value} {S : Type} (post : S → Prop) (w2 : S → va_W) (F : CallFix p m c cc nL s args Ts own) (hK : Kx D cI s) (hP : va_P D vwCl w H) (hD : va_D A w) (hS : va_S A H0 H locs) (hA : ∀ q, H0.size ≤ q → A q) (isC isR : List Nat) {wc wr : va_W} (hC : isC.map (fun i => w[i]?) = wc.map some) (hR : isR.map (fun i => w[i]?) = wr.map some) (hnC : va_nd isC = true) (hnR : va_nd isR = true) (hdis : isR.all (fun i => !isC.contains i) = true) (pm : List Nat) (w3 : S → va_W) (hpm : ∀ u, pm.map (fun i => (wr ++ w2 u)[i]?) = (w3 u).map some) (hnp : va_nd pm = true) (hM : Met l y ws0 rm (PQ D cI As wc H.size) (QV D post w2 (va_A wc H.size)) 0 0 (va_A wc H.size)) (cw : CallB R s args own index y bytes maxL ret ws0 rm 0 0 n ∧ (Cond.static y).before args s = true) (hn : As.length = n) (hsize : ls.size = nL) (hst : st0 = As.reverse ++ rest) (hW : (rest.map fun v => v.category).sum ≤ 8) (hdg : decode cc pc = .ok (.invokestatic index, 3)) (hf : cells + 0 ≤ R.cells ∧ slots + 0 ≤ R.slots)
    (kk : ∀ (u : S) (H1 : Heap) (locs1 : List Loc), post u → va_P D vwCl (w3 u) H1 → va_D A (w3 u) → va_S A H0 H1 locs1 → W p l e R s m args below meth c H1 locs1 cells slots Q (F0 m (pc + 3) ls rest)) : W p l e R s m args below meth c H locs cells slots Q (F0 m pc ls st0) := by
  have hPc : va_P D vwCl wc H := zk_subP hP isC hC
  have hDc := hD.sub isC hnC hC
  have hFc := va_free (wc := wc) hD hS hA isC hC
  refine va_callv (va_runS (g := F0 m pc ls st0) (rest := rest) F hM cw ⟨PQ.blind, fun U hU hW => ⟨rfl, by rw [hU], by rw [hU]; exact hPc, hK.warm hW, hDc.weaken (fun _ _ _ _ => trivial)⟩⟩ rfl hn hsize hst (lv_room hW) hdg hf) hS (fun q _ h => hFc q h) hFc (fun u t H1 locs1 ht hvm hw hB hz1 hk1 hS1 => ?_)
  obtain ⟨hP1, hD1⟩ := hB
  rw [ht] at hP1
  obtain ⟨hP2, hD2⟩ := va_join hP hD isC isR hC hR hnR (zk_dis hdis) hk1 hFc hP1 hD1
  exact kk u H1 locs1 hw (zk_subP hP2 pm (hpm u)) (hD2.sub pm hnp (hpm u)) hS1
end ZK
