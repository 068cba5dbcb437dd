/-! THE CLAIM OUT OF ONE WALK OF THE LAW'S BODY. Your part is whole_start (and what it stands on); all else here is the same for every law, but numbers. -/
def R_law : String := "ProvedTableLaw"
def lw_P (b : Addr) (xs : List Int32) (args : Array Value) (s : State) : Prop := args = #[.ref b] ∧ s.IntsAt b xs ∧ xs.length ≤ 3072 ∧ (Jvm.Cond.and given_1 narrow_1).before args s = true
def lw_Q (_ : Array Value) (s : State) (o : Outcome) (t : State) : Prop := o = .returned (some (.int 1)) ∧ Framed s o t [] 600000 7302250
def lw_Z (below : List Frame) (a : Array Value) (s : State) : State → Prop := fun t => ∃ o, t.status = .running ∧ Ended t below o ∧ lw_Q a s o t
/-- the law's own end, with 1 on the stack, nothing written that was there before, its room as the claim has it -/
theorem lw_ret {p : Program} {l : Launch} {e : Env} {s : State} {m : MethodId} {below : List Frame} {meth : Method} {c : Code} {b : Nat} (hx : p.tables.exec = Jvm.exec) (hb : c.code = code) (hr : meth.sig.returnType = ret) (hlocks : meth.locks = false) {pc : Nat} {H : Heap} {ls : Array Slot} (hdg : decode code pc = .ok (.ireturn, 1)) : W p l e room_1 s m #[Value.ref b] below meth c H [] 600000 7302250 (lw_Z below #[Value.ref b] s) (F0 m pc ls [.int 1]) := by
  intro T hT X
  obtain ⟨fs, hret, hrun, hended, hW, hframe⟩ := X.leave (v := some (.int 1)) (hlocks := hlocks) (fun h => by rw [hr] at h; cases h)
  have hmeth' : T.vm.method? m = some meth := X.method'
  refine ⟨T.setFrames fs, ?_, .returned (some (.int 1)), hrun, hended, rfl, ⟨_, rfl⟩, hW, hframe⟩
  jvm_step X.here [X.here.top, hx, hb, hdg, hmeth', hr, ret, narrow_b1]
  (try refine ⟨rfl, ?_⟩); (try refine ⟨rfl, ?_⟩)
  first | (intro acts; rw [hret _ acts rfl rfl rfl]) | rw [hret _ _ rfl rfl rfl]
  exact Steps.refl _
/-- what holds at the law's entry: the machine, the code, the tables' words (any of lw_tbl by 'hts w (by decide +kernel)'), the script of L ints xs at the cell b, what the Statement gives of the start (any of its parts by flat_of_before) -/
def lw_At (p : Program) (s : State) (m : MethodId) (meth : Method) (c : Code) (b L : Nat) (xs : Nat → Int32) : Prop :=
  p.tables.exec = Jvm.exec ∧ c.code = code ∧ meth.sig.returnType = ret ∧ c.maxLocals = 4 ∧ s.vm.findClass R_law = some m.cls ∧ (∀ w ∈ lw_tbl, w.before #[Value.ref b] s = true) ∧ va_X b L xs s s.heap ∧ b < s.heap.size ∧ meth.locks = false ∧ (Jvm.Cond.and given_1 narrow_1).before #[Value.ref b] s = true
theorem ao6 : Cond.arrayOver (.object RX6) ∈ lw_tbl := List.mem_of_getElem? (i := 273) (by decide +kernel)
theorem ao4 : Cond.arrayOver (.object RX4) ∈ lw_tbl := List.mem_of_getElem? (i := 275) (by decide +kernel)
theorem nst : Cond.methodLinkNest RX5 31 yX7_lowestBit "ProvedTable" ∈ lw_tbl := List.mem_of_getElem? (i := 738) (by decide +kernel)
theorem lsC : Cond.laysStatic "java/lang/String" "COMPACT_STRINGS" "Z" ∈ lw_tbl := List.mem_of_getElem? (i := 482) (by decide +kernel)
theorem lsQ : Cond.laysStatic "jdk/internal/util/Preconditions" "SIOOBE_FORMATTER" "Ljava/util/function/BiFunction;" ∈ lw_tbl := List.mem_of_getElem? (i := 498) (by decide +kernel)
theorem inS : Cond.initialized "java/lang/String" ∈ lw_tbl := List.mem_of_getElem? (i := 132) (by decide +kernel)
theorem inQ : Cond.initialized "jdk/internal/util/Preconditions" ∈ lw_tbl := List.mem_of_getElem? (i := 134) (by decide +kernel)
theorem ist0 : Cond.instantiable RX0 1 ∈ TBL := tm 374 (by decide +kernel) (by decide +kernel)
theorem ist1 : Cond.instantiable RX1 7 ∈ TBL := tm 339 (by decide +kernel) (by decide +kernel)
theorem ist2 : Cond.instantiable RX2 8 ∈ TBL := tm 147 (by decide +kernel) (by decide +kernel)
theorem ist3 : Cond.instantiable RX3 4 ∈ TBL := tm 316 (by decide +kernel) (by decide +kernel)
theorem ist4 : Cond.instantiable RX4 4 ∈ TBL := tm 276 (by decide +kernel) (by decide +kernel)
theorem ist5 : Cond.instantiable RX5 1 ∈ TBL := tm 305 (by decide +kernel) (by decide +kernel)
theorem ist6 : Cond.instantiable RX6 14 ∈ TBL := tm 182 (by decide +kernel) (by decide +kernel)
theorem ist7 : Cond.instantiable RX7 12 ∈ TBL := tm 139 (by decide +kernel) (by decide +kernel)
theorem ist8 : Cond.instantiable RX8 34 ∈ TBL := tm 1228 (by decide +kernel) (by decide +kernel)
theorem cls_ex {args : Array Value} {s : State} (hts : ∀ w ∈ TBL, w.before args s = true) : ∃ D : va_G, ∀ (c : Nat) (q : vw_C), clz[c]? = some q → u_Kn s q.1 q.2.1 q.2.2 (D.1 c) (D.2 c) := by
  obtain ⟨c0, i0, k0⟩ := u_known (C := RX0) (T := TX0) (N := 1) hts wi0 (hts _ ist0)
  obtain ⟨c1, i1, k1⟩ := u_known (C := RX1) (T := TX1) (N := 7) hts wi1 (hts _ ist1)
  obtain ⟨c2, i2, k2⟩ := u_known (C := RX2) (T := TX2) (N := 8) hts wi2 (hts _ ist2)
  obtain ⟨c3, i3, k3⟩ := u_known (C := RX3) (T := TX3) (N := 4) hts wi3 (hts _ ist3)
  obtain ⟨c4, i4, k4⟩ := u_known (C := RX4) (T := TX4) (N := 4) hts wi4 (hts _ ist4)
  obtain ⟨c5, i5, k5⟩ := u_known (C := RX5) (T := TX5) (N := 1) hts wi5 (hts _ ist5)
  obtain ⟨c6, i6, k6⟩ := u_known (C := RX6) (T := TX6) (N := 14) hts wi6 (hts _ ist6)
  obtain ⟨c7, i7, k7⟩ := u_known (C := RX7) (T := TX7) (N := 12) hts wi7 (hts _ ist7)
  obtain ⟨c8, i8, k8⟩ := u_known (C := RX8) (T := TX8) (N := 34) hts wi8 (hts _ ist8)
  refine ⟨(fun k => [c0, c1, c2, c3, c4, c5, c6, c7, c8].getD k 0, fun k => [i0, i1, i2, i3, i4, i5, i6, i7, i8].getD k (fun _ => 0)), fun c q hq => ?_⟩
  have hk : c = 0 ∨ c = 1 ∨ c = 2 ∨ c = 3 ∨ c = 4 ∨ c = 5 ∨ c = 6 ∨ c = 7 ∨ c = 8 := by
    have h := (List.getElem?_eq_some_iff.mp hq).1
    simp [clz] at h
    omega
  rcases hk with rfl | rfl | rfl | rfl | rfl | rfl | rfl | rfl | rfl <;> cases hq
  · exact k0
  · exact k1
  · exact k2
  · exact k3
  · exact k4
  · exact k5
  · exact k6
  · exact k7
  · exact k8
def NL : List Cond := flatC (Jvm.Cond.and given_1 narrow_1)
def tixS : List Nat := [81, 86, 94, 98, 53, 105, 173, 175, 183, 185, 187, 189, 62, 67, 132, 72, 144, 146]
def tmS (i : Nat) : Term := .string "ProvedTable$Reader" (tixS.getD i 0)
theorem sp_ex : ∀ i, i < 18 → Cond.exactly (tmS i) "java/lang/String" ∈ NL := by decide +kernel
theorem sp_co : ∀ i, i < 18 → Cond.eq (.field (tmS i) "java/lang/String" "coder" "B") (.int 0) ∈ NL := by decide +kernel
theorem sp_ar : ∀ i, i < 18 → Cond.arrayOf (.field (tmS i) "java/lang/String" "value" "[B") .byte ∈ NL := by decide +kernel
theorem sp_le : ∀ i, i < 18 → Cond.eq (.length (.field (tmS i) "java/lang/String" "value" "[B")) (.int (Int32.ofNat (slen.getD i 0))) ∈ NL := by decide +kernel
theorem sp_el : ∀ i, i < 18 → ∀ j, j < slen.getD i 0 → Cond.eq (.elem (.field (tmS i) "java/lang/String" "value" "[B") (.int (Int32.ofNat j))) (.int ((sbyt.getD i []).getD j 0)) ∈ NL := by decide +kernel
theorem sp_ld : ∀ q ∈ sldc, q.2.2.2 < 18 ∧ (Term.string q.1 q.2.1 = tmS q.2.2.2 ∨ Cond.eq (tmS q.2.2.2) (.string q.1 q.2.1) ∈ NL) := by decide +kernel
theorem sp_sr : ∀ q ∈ sldc, Cond.stringRef q.1 q.2.1 q.2.2.1 ∈ lw_tbl := by decide +kernel
theorem sp_cs : Cond.eq (.static "java/lang/String" "COMPACT_STRINGS" "Z") (.int 1) ∈ NL := by decide +kernel
theorem sp_sf : Cond.isRef (.static "jdk/internal/util/Preconditions" "SIOOBE_FORMATTER" "Ljava/util/function/BiFunction;") ∈ NL := by decide +kernel
theorem sp_nj : ∀ i, i < 18 → ∀ j, j < 18 → slen.getD i 0 = slen.getD j 0 → (∀ k, k < slen.getD i 0 → (sbyt.getD i []).getD k 0 = (sbyt.getD j []).getD k 0) → i = j := by decide +kernel
theorem str_ex {args : Array Value} {s : State} {A : Nat → Prop} (hN : ∀ w ∈ NL, w.before args s = true) (hA : ∀ a : Nat, a < s.heap.size → ¬ A a) : ∃ sk sv : Nat → Nat, vk_S 18 slen sbyt sk sv A s s.heap ∧ ∀ i, i < 18 → (tmS i).eval args s none [] s = some (.ref (sk i)) := by
  have h0 : ∀ i : Nat, ∃ q : Nat × Nat, i < 18 → (tmS i).eval args s none [] s = some (.ref q.1) ∧ va_O "java/lang/String" q.1 A s s.heap ∧ va_OF "java/lang/String" "coder" "B" (.int 0) q.1 A s s.heap ∧ va_OF "java/lang/String" "value" "[B" (.ref q.2) q.1 A s s.heap ∧ va_T .byte q.2 (slen.getD i 0) (fun j => .int ((sbyt.getD i []).getD j 0)) A s s.heap := by
    intro i
    by_cases hi : i < 18
    · obtain ⟨a, c, cA, kA, q1, q2, q3, q4, q5, q6, -⟩ := Cond.exactly_spec (args := args) (first := s) (o := none) (s := s) (idx := []) (t := tmS i) (cls := "java/lang/String") (hN _ (sp_ex i hi))
      obtain ⟨t, ht, hT⟩ := va_Tof (f := fun j => .int ((sbyt.getD i []).getD j 0)) (A := A) (slen_lt i) (hN _ (sp_ar i hi)) (va_eqt (hN _ (sp_le i hi))) (fun j hj => va_eqt (hN _ (sp_el i hi j hj))) hA
      exact ⟨(a, t), fun _ => ⟨q1, ⟨cA, q3, q5, by rw [q6]; exact q2, hA a (Array.getElem?_eq_some_iff.mp q3).1⟩, vk_OFof q1 (va_eqt (hN _ (sp_co i hi))) hA, vk_OFof q1 ht hA, hT⟩⟩
    · exact ⟨(0, 0), fun h => absurd h hi⟩
  obtain ⟨ad, had⟩ := Classical.axiomOfChoice h0
  refine ⟨fun i => (ad i).1, fun i => (ad i).2, ⟨fun i hi => (had i hi).2, fun i j hi hj e => ?_⟩, fun i hi => (had i hi).1⟩
  obtain ⟨-, -, -, ⟨cf, k, fi, f, cell, f1, f2, f3, f4, f5, f6⟩, t1⟩ := had i hi
  obtain ⟨-, -, -, ⟨cf', k', fi', f', cell', g1, g2, g3, g4, g5, g6⟩, t2⟩ := had j hj
  have e' : (ad i).1 = (ad j).1 := e
  rw [f1] at g1
  cases g1
  rw [← e', f3] at g3
  cases g3
  rw [f5] at g5
  have ev : (ad i).2 = (ad j).2 := Value.ref.inj (Option.some.inj g5)
  rw [← ev] at t2
  obtain ⟨x, x1, x2, x3, x4, x5, x6, x7⟩ := t1
  obtain ⟨y, y1, y2, y3, y4, y5, y6, y7⟩ := t2
  rw [x1] at y1
  cases y1
  have el : slen.getD i 0 = slen.getD j 0 := by
    have h := x5.symm.trans y5
    exact (nI_eq (slen_lt i) (slen_lt j)).mp h
  refine sp_nj i hi j hj el (fun q hq => ?_)
  have h1 := x6 q hq
  have h2 := y6 q (by omega)
  rw [h1] at h2
  exact Value.int.inj (Option.some.inj h2)
def adF (f g : Nat → Nat) : Nat → Nat := fun k => if k < 62 then f k else g (k - 62)
def sig0 : St := (fun a b => if a = 0 then (if b = 7 then 1 else 0) else if a = 1 then (if b = 3 then -1 else 0) else if a = 62 then (if b = 13 then -1 else 0) else if a = 78 then mny0 b else 0, fun _ _ => 0)
theorem img_fn (f g : Nat → Nat) (h0 : f 19 = g 19) (h1 : f 26 = g 26) (h2 : f 33 = g 33) : va_up (va_up (va_up (fun _ => none) 0 (some (f 19))) 1 (some (f 26))) 2 (some (f 33)) = fun i => ([19, 26, 33][i]?).map g := by
  funext i
  match i with
  | 0 => simp [va_up, h0]
  | 1 => simp [va_up, h1]
  | 2 => simp [va_up, h2]
  | n + 3 => simp [va_up]
theorem row_fn (f g : Nat → Nat) (h0 : f 41 = g 41) (h1 : f 43 = g 43) (h2 : f 45 = g 45) (h3 : f 47 = g 47) : va_up (va_up (va_up (va_up (fun _ => none) 0 (some (f 41))) 1 (some (f 43))) 2 (some (f 45))) 3 (some (f 47)) = fun i => ([41, 43, 45, 47][i]?).map g := by
  funext i
  match i with
  | 0 => simp [va_up, h0]
  | 1 => simp [va_up, h1]
  | 2 => simp [va_up, h2]
  | 3 => simp [va_up, h3]
  | n + 4 => simp [va_up]

