theorem tw_int : Cond.arrayClass .int ∈ TBL := tm 272 (by decide +kernel) (by decide +kernel)
theorem tw_boolean : Cond.arrayClass .boolean ∈ TBL := tm 302 (by decide +kernel) (by decide +kernel)
theorem tw_byte : Cond.arrayClass .byte ∈ TBL := tm 180 (by decide +kernel) (by decide +kernel)
theorem tw_long : Cond.arrayClass .long ∈ TBL := tm 303 (by decide +kernel) (by decide +kernel)
theorem tw_oi : Cond.instanceMethod objectInit ∈ TBL := tm 144 (by decide +kernel) (by decide +kernel)
theorem tw_oc : Cond.code objectInit ⟨#[0xb1]⟩ 1 none ∈ TBL := tm 145 (by decide +kernel) (by decide +kernel)
abbrev va_E_obj (ci : Nat) (fs : List Value) : va_E := .inr (ci, fs)
theorem nd_of : ∀ l : List Nat, l.Nodup → va_nd l = true
  | [], _ => rfl
  | a :: l, h => by
    have h2 := List.nodup_cons.mp h
    simp [va_nd, h2.1, nd_of l h2.2]
theorem nd_range (n : Nat) : va_nd (List.range n) = true := nd_of _ List.nodup_range
theorem ca_ex {args : Array Value} {s : State} (hts : ∀ w ∈ TBL, w.before args s = true) (h6 : (Cond.arrayOver (.object RX6)).before args s = true) (h4 : (Cond.arrayOver (.object RX4)).before args s = true) : ∃ ca : Nat → ClassId, ∀ (k : Nat) (q : ClassId × FieldType), (tyz ca)[k]? = some q → ArrOfT s q.1 q.2 ∧ va_RA s q.1 q.2 := by
  obtain ⟨c0, k0, p0, a0, b0, e0⟩ := Cond.arrayClass_spec (hts (.arrayClass .int) tw_int)
  obtain ⟨c1, k1, p1, a1, b1, e1⟩ := Cond.arrayClass_spec (hts (.arrayClass .boolean) tw_boolean)
  obtain ⟨c2, k2, p2, a2, b2, e2⟩ := Cond.arrayClass_spec (hts (.arrayClass .byte) tw_byte)
  obtain ⟨c3, k3, p3, a3, b3, e3⟩ := Cond.arrayClass_spec (hts (.arrayClass .long) tw_long)
  obtain ⟨p4, c4, k4, f4, -, b4, e4, a4⟩ := Cond.arrayOver_spec h6
  obtain ⟨p5, c5, k5, f5, -, b5, e5, a5⟩ := Cond.arrayOver_spec h4
  refine ⟨fun k => [c0, c1, c2, c3, c4, c5].getD k 0, fun k q hq => ?_⟩
  have hk : k = 0 ∨ k = 1 ∨ k = 2 ∨ k = 3 ∨ k = 4 ∨ k = 5 := by
    have h := (List.getElem?_eq_some_iff.mp hq).1
    simp [tyz] at h
    omega
  rcases hk with rfl | rfl | rfl | rfl | rfl | rfl <;> cases hq
  · exact ⟨fun n z => ⟨fun k h => (by cases h), k0, b0, p0, e0⟩, a0⟩
  · exact ⟨fun n z => ⟨fun k h => (by cases h), k1, b1, p1, e1⟩, a1⟩
  · exact ⟨fun n z => ⟨fun k h => (by cases h), k2, b2, p2, e2⟩, a2⟩
  · exact ⟨fun n z => ⟨fun k h => (by cases h), k3, b3, p3, e3⟩, a3⟩
  · exact ⟨fun n z => ⟨fun k h => (by cases h), k4, b4, p4, e4⟩, k4, p4, b4, e4, f4, a4⟩
  · exact ⟨fun n z => ⟨fun k h => (by cases h), k5, b5, p5, e5⟩, k5, p5, b5, e5, f5, a5⟩
def KA (G : GT) (U : State) : Prop := va_K G.2.1 clz (tyz (gca G)) U ∧ va_AO RX6 U ∧ va_AO RX4 U
theorem KA.moved {G : GT} {u U : State} (hvm : u.vm.Alike U.vm) (h : KA G u) : KA G U := ⟨va_K.moved hvm h.1, h.2.1.moved hvm, h.2.2.moved hvm⟩
def WC (G : GT) (X : CT) (nL : Nat) (ws : va_W) (k n : Nat) (lv : List (Nat × Value)) (pc : Nat) (st : List Value) : Prop := match X with
  | (p, e, R, s, m, args, below, meth, c, Q, A, _, _) => ∀ (H : Heap) (locs : List Loc) (ls : Array Slot), lv_has ls nL lv → va_P G.2.1 clz ws H → va_D A ws → va_S A s.heap H locs → W p G.1 e R s m args below meth c H locs k n Q (F0 m pc ls st)
def CC (G : GT) (X : CT) (own : String) (cc : ByteArray) (nL lvl mc ms : Nat) : Prop := match X with
  | (p, _, R, s, m, args, _, meth, c, _, A, _, _) => p.tables.exec = Jvm.exec ∧ c.code = cc ∧ c.maxLocals = nL ∧ s.vm.findClass own = some m.cls ∧ (∀ w ∈ TBL, w.before args s = true) ∧ KA G s ∧ (∀ q, s.heap.size ≤ q → A q) ∧ (mc ≤ R.cells ∧ ms ≤ R.slots) ∧ (lvl ≤ R.frames ∧ 64 * lvl ≤ R.locals)

theorem wc_iconst {G : GT} {X : CT} {own : String} {cc : ByteArray} {nL lvl mc ms k n : Nat} {ws : va_W} {lv : List (Nat × Value)} {pc : Nat} {st : List Value} {z : Int} {v : Int32} (cx : CC G X own cc nL lvl mc ms) (hdg : decode cc pc = .ok (.iconst z, 1)) (hv : Int32.ofInt z = v) (kk : WC G X nL ws k n lv (pc + 1) (.int v :: st)) : WC G X nL ws k n lv pc (st) := by
  obtain ⟨p, e, R, s, m, args, below, meth, c, Q, A, ck, sk⟩ := X
  obtain ⟨hx, hb, hml, hown, hts, ⟨hK, hO6, hO4⟩, hA, hck, hlm⟩ := cx
  intro H locs ls hl hP hD hS
  exact lv_iconst hx hb hdg hv (kk H locs ls hl hP hD hS)

theorem wc_bipush {G : GT} {X : CT} {own : String} {cc : ByteArray} {nL lvl mc ms k n : Nat} {ws : va_W} {lv : List (Nat × Value)} {pc : Nat} {st : List Value} {z : Int} {v : Int32} (cx : CC G X own cc nL lvl mc ms) (hdg : decode cc pc = .ok (.bipush z, 2)) (hv : (Int8.ofInt z).toInt32 = v) (kk : WC G X nL ws k n lv (pc + 2) (.int v :: st)) : WC G X nL ws k n lv pc (st) := by
  obtain ⟨p, e, R, s, m, args, below, meth, c, Q, A, ck, sk⟩ := X
  obtain ⟨hx, hb, hml, hown, hts, ⟨hK, hO6, hO4⟩, hA, hck, hlm⟩ := cx
  intro H locs ls hl hP hD hS
  exact lv_bipush hx hb hdg hv (kk H locs ls hl hP hD hS)

theorem wc_sipush {G : GT} {X : CT} {own : String} {cc : ByteArray} {nL lvl mc ms k n : Nat} {ws : va_W} {lv : List (Nat × Value)} {pc : Nat} {st : List Value} {z : Int} {v : Int32} (cx : CC G X own cc nL lvl mc ms) (hdg : decode cc pc = .ok (.sipush z, 3)) (hv : (Int16.ofInt z).toInt32 = v) (kk : WC G X nL ws k n lv (pc + 3) (.int v :: st)) : WC G X nL ws k n lv pc (st) := by
  obtain ⟨p, e, R, s, m, args, below, meth, c, Q, A, ck, sk⟩ := X
  obtain ⟨hx, hb, hml, hown, hts, ⟨hK, hO6, hO4⟩, hA, hck, hlm⟩ := cx
  intro H locs ls hl hP hD hS
  exact lv_sipush hx hb hdg hv (kk H locs ls hl hP hD hS)

theorem wc_dup {G : GT} {X : CT} {own : String} {cc : ByteArray} {nL lvl mc ms k n : Nat} {ws : va_W} {lv : List (Nat × Value)} {pc : Nat} {st : List Value} {va : Value} (cx : CC G X own cc nL lvl mc ms) (hdg : decode cc pc = .ok (.dup, 1)) (h1 : va.category = 1) (kk : WC G X nL ws k n lv (pc + 1) (va :: va :: st)) : WC G X nL ws k n lv pc (va :: st) := by
  obtain ⟨p, e, R, s, m, args, below, meth, c, Q, A, ck, sk⟩ := X
  obtain ⟨hx, hb, hml, hown, hts, ⟨hK, hO6, hO4⟩, hA, hck, hlm⟩ := cx
  intro H locs ls hl hP hD hS
  exact lv_dup hx hb hdg h1 (kk H locs ls hl hP hD hS)

theorem wc_iload_n {G : GT} {X : CT} {own : String} {cc : ByteArray} {nL lvl mc ms k n : Nat} {ws : va_W} {lv : List (Nat × Value)} {pc : Nat} {st : List Value} {z : Fin 4} {i : Nat} {x : Int32} (cx : CC G X own cc nL lvl mc ms) (hdg : decode cc pc = .ok (.iload_n z, 1)) (hi : (z : Nat) = i) (j : Nat) (hj : lv[j]? = some (i, .int x)) (kk : WC G X nL ws k n lv (pc + 1) (.int x :: st)) : WC G X nL ws k n lv pc st := by
  obtain ⟨p, e, R, s, m, args, below, meth, c, Q, A, ck, sk⟩ := X
  obtain ⟨hx, hb, hml, hown, hts, ⟨hK, hO6, hO4⟩, hA, hck, hlm⟩ := cx
  intro H locs ls hl hP hD hS
  exact lv_iload_n hx hb hdg hi (lv_at hl j hj) (kk H locs ls hl hP hD hS)

theorem wc_aload_n {G : GT} {X : CT} {own : String} {cc : ByteArray} {nL lvl mc ms k n : Nat} {ws : va_W} {lv : List (Nat × Value)} {pc : Nat} {st : List Value} {z : Fin 4} {i : Nat} {x : Nat} (cx : CC G X own cc nL lvl mc ms) (hdg : decode cc pc = .ok (.aload_n z, 1)) (hi : (z : Nat) = i) (j : Nat) (hj : lv[j]? = some (i, .ref x)) (kk : WC G X nL ws k n lv (pc + 1) (.ref x :: st)) : WC G X nL ws k n lv pc st := by
  obtain ⟨p, e, R, s, m, args, below, meth, c, Q, A, ck, sk⟩ := X
  obtain ⟨hx, hb, hml, hown, hts, ⟨hK, hO6, hO4⟩, hA, hck, hlm⟩ := cx
  intro H locs ls hl hP hD hS
  exact lv_aload_n hx hb hdg hi (lv_at hl j hj) (kk H locs ls hl hP hD hS)

theorem wc_istore_n {G : GT} {X : CT} {own : String} {cc : ByteArray} {nL lvl mc ms k n : Nat} {ws : va_W} {lv : List (Nat × Value)} {pc : Nat} {st : List Value} {z : Fin 4} {i : Nat} {x : Int32} {lv' : List (Nat × Value)} (cx : CC G X own cc nL lvl mc ms) (hdg : decode cc pc = .ok (.istore_n z, 1)) (hi : (z : Nat) = i) (hn : i < nL) (hlv : (i, .int x) :: lv.filter (fun q => !(q.1 == i) && !(q.1 + 1 == i && q.2.category == 2)) = lv') (kk : WC G X nL ws k n lv' (pc + 1) st) : WC G X nL ws k n lv pc (.int x :: st) := by
  obtain ⟨p, e, R, s, m, args, below, meth, c, Q, A, ck, sk⟩ := X
  obtain ⟨hx, hb, hml, hown, hts, ⟨hK, hO6, hO4⟩, hA, hck, hlm⟩ := cx
  intro H locs ls hl hP hD hS
  exact lv_istore_n hx hb hdg hi hl hn rfl (fun ls2 hl2 => kk H locs ls2 (by rw [← hlv]; exact hl2) hP hD hS)

theorem wc_astore_n {G : GT} {X : CT} {own : String} {cc : ByteArray} {nL lvl mc ms k n : Nat} {ws : va_W} {lv : List (Nat × Value)} {pc : Nat} {st : List Value} {z : Fin 4} {i : Nat} {x : Nat} {lv' : List (Nat × Value)} (cx : CC G X own cc nL lvl mc ms) (hdg : decode cc pc = .ok (.astore_n z, 1)) (hi : (z : Nat) = i) (hn : i < nL) (hlv : (i, .ref x) :: lv.filter (fun q => !(q.1 == i) && !(q.1 + 1 == i && q.2.category == 2)) = lv') (kk : WC G X nL ws k n lv' (pc + 1) st) : WC G X nL ws k n lv pc (.ref x :: st) := by
  obtain ⟨p, e, R, s, m, args, below, meth, c, Q, A, ck, sk⟩ := X
  obtain ⟨hx, hb, hml, hown, hts, ⟨hK, hO6, hO4⟩, hA, hck, hlm⟩ := cx
  intro H locs ls hl hP hD hS
  exact lv_astore_n hx hb hdg hi hl hn rfl (fun ls2 hl2 => kk H locs ls2 (by rw [← hlv]; exact hl2) hP hD hS)

theorem wc_iinc {G : GT} {X : CT} {own : String} {cc : ByteArray} {nL lvl mc ms k n : Nat} {ws : va_W} {lv : List (Nat × Value)} {pc : Nat} {st : List Value} {i j : Nat} {z : Int} {x v : Int32} {lv' : List (Nat × Value)} (cx : CC G X own cc nL lvl mc ms) (hdg : decode cc pc = .ok (.iinc i z, 3)) (hn : i < nL) (hj : lv[j]? = some (i, .int x)) (hw : x + Int32.ofInt z = v) (hlv : (i, .int v) :: lv.filter (fun q => !(q.1 == i) && !(q.1 + 1 == i && q.2.category == 2)) = lv') (kk : WC G X nL ws k n lv' (pc + 3) st) : WC G X nL ws k n lv pc st := by
  obtain ⟨p, e, R, s, m, args, below, meth, c, Q, A, ck, sk⟩ := X
  obtain ⟨hx, hb, hml, hown, hts, ⟨hK, hO6, hO4⟩, hA, hck, hlm⟩ := cx
  intro H locs ls hl hP hD hS
  exact lv_iinc (v := v) hx hb hdg hl hj hw hn rfl (fun ls2 hl2 => kk H locs ls2 (by rw [← hlv]; exact hl2) hP hD hS)

theorem wc_goto {G : GT} {X : CT} {own : String} {cc : ByteArray} {nL lvl mc ms k n : Nat} {ws : va_W} {lv : List (Nat × Value)} {pc : Nat} {st : List Value} {off : Int} {tgt : Nat} (cx : CC G X own cc nL lvl mc ms) (hdg : decode cc pc = .ok (.goto off, 3)) (ht : (pc : Int) + off = (tgt : Int)) (kk : WC G X nL ws k n lv tgt st) : WC G X nL ws k n lv pc st := by
  obtain ⟨p, e, R, s, m, args, below, meth, c, Q, A, ck, sk⟩ := X
  obtain ⟨hx, hb, hml, hown, hts, ⟨hK, hO6, hO4⟩, hA, hck, hlm⟩ := cx
  intro H locs ls hl hP hD hS
  exact lv_goto hx hb hdg ht (kk H locs ls hl hP hD hS)

theorem wc_geT {G : GT} {X : CT} {own : String} {cc : ByteArray} {nL lvl mc ms k n : Nat} {ws : va_W} {lv : List (Nat × Value)} {pc : Nat} {st : List Value} {x y : Int32} {off : Int} {tgt : Nat} (cx : CC G X own cc nL lvl mc ms) (hdg : decode cc pc = .ok (.if_icmp .ge off, 3)) (ht : (pc : Int) + off = (tgt : Int)) (h : y ≤ x) (kk : WC G X nL ws k n lv tgt st) : WC G X nL ws k n lv pc (.int y :: .int x :: st) := by
  obtain ⟨p, e, R, s, m, args, below, meth, c, Q, A, ck, sk⟩ := X
  obtain ⟨hx, hb, hml, hown, hts, ⟨hK, hO6, hO4⟩, hA, hck, hlm⟩ := cx
  intro H locs ls hl hP hD hS
  exact lv_icmp_ge hx hb hdg ht (fun _ => kk H locs ls hl hP hD hS) (fun q => absurd h q)

theorem wc_geF {G : GT} {X : CT} {own : String} {cc : ByteArray} {nL lvl mc ms k n : Nat} {ws : va_W} {lv : List (Nat × Value)} {pc : Nat} {st : List Value} {x y : Int32} {off : Int} (tgt : Nat) (cx : CC G X own cc nL lvl mc ms) (hdg : decode cc pc = .ok (.if_icmp .ge off, 3)) (ht : (pc : Int) + off = (tgt : Int)) (h : ¬ y ≤ x) (kk : WC G X nL ws k n lv (pc + 3) st) : WC G X nL ws k n lv pc (.int y :: .int x :: st) := by
  obtain ⟨p, e, R, s, m, args, below, meth, c, Q, A, ck, sk⟩ := X
  obtain ⟨hx, hb, hml, hown, hts, ⟨hK, hO6, hO4⟩, hA, hck, hlm⟩ := cx
  intro H locs ls hl hP hD hS
  exact lv_icmp_ge hx hb hdg ht (fun q => absurd q h) (fun _ => kk H locs ls hl hP hD hS)

theorem wc_eq {G : GT} {X : CT} {nL k n : Nat} {ws ws' : va_W} {lv : List (Nat × Value)} {pc : Nat} {st : List Value} (h : ws = ws') (kk : WC G X nL ws' k n lv pc st) : WC G X nL ws k n lv pc st := h ▸ kk
theorem wc_objInit {G : GT} {X : CT} {own : String} {cc : ByteArray} {nL lvl mc ms k n : Nat} {ws : va_W} {lv : List (Nat × Value)} {pc : Nat} {st : List Value} {ix b : Nat} (hl1 : Cond.methodLink own ix objectInit ∈ TBL) (cx : CC G X own cc nL lvl mc ms) (hlv : 1 ≤ lvl) (hst : (st.map fun v => v.category).sum ≤ 8) (hdg : decode cc pc = .ok (.invokespecial ix, 3)) (kk : WC G X nL ws k n lv (pc + 3) st) : WC G X nL ws k n lv pc (.ref b :: st) := by
  obtain ⟨p, e, R, s, m, args, below, meth, c, Q, A, ck, sk⟩ := X
  obtain ⟨hx, hb, hml, hown, hts, ⟨hK, hO6, hO4⟩, hA, hck, hlm⟩ := cx
  intro H locs ls hl hP hD hS
  exact W.objInit hx hb hown (hts _ hl1) (hts _ tw_oi) (hts _ tw_oc) rfl (by rw [hml]; exact hl.1) rfl hdg (by omega) (by have := lv_room8 (m := m) (pc := pc) (ls := ls) (st0 := .ref b :: st) hst; omega) (kk H locs ls hl hP hD hS)

theorem wc_new {G : GT} {X : CT} {own : String} {cc : ByteArray} {nL lvl mc ms k n : Nat} {ws : va_W} {lv : List (Nat × Value)} {pc : Nat} {st : List Value} {ix ci : Nat} {C : String} {T : u_T} {N : Nat} {fs : List Value} (hc : clz[ci]? = some (C, T, N)) (hin : ∀ w ∈ u_ws C T N, w ∈ TBL) (ty : Nat → FieldType) (hty : ∀ k, k < N → parseFieldDescriptor (T k).2.2.1 = some (ty k)) (hcl : Cond.classLink own ix C ∈ TBL) (hinst : Cond.instantiable C N ∈ TBL) (hini : Cond.initialized C ∈ TBL) (hfs : ∀ j, j < N → defaultValue (ty j) = vp_V fs j) (cx : CC G X own cc nL lvl mc ms) (h1 : k + 1 ≤ mc) (h2 : n + N ≤ ms) (hdg : decode cc pc = .ok (.new ix, 3)) (kk : ∀ q : Nat, WC G X nL (ws ++ [(q, .inr (ci, fs))]) (k + 1) (n + N) lv (pc + 3) (.ref q :: st)) : WC G X nL ws k n lv pc st := by
  obtain ⟨p, e, R, s, m, args, below, meth, c, Q, A, ck, sk⟩ := X
  obtain ⟨hx, hb, hml, hown, hts, ⟨hK, hO6, hO4⟩, hA, hck, hlm⟩ := cx
  intro H locs ls hl hP hD hS
  exact va_new hx hb hts hin ty hty hown (hts _ hcl) (hts _ hinst) (hts _ hini) hK hP hD hS hA hc hfs (Nat.le_trans h1 hck.1) (Nat.le_trans h2 hck.2) hdg (fun q H1 hP1 hD1 hS1 => kk q H1 locs ls hl hP1 hD1 hS1)

theorem wc_newa0 {G : GT} {X : CT} {own : String} {cc : ByteArray} {nL lvl mc ms k n : Nat} {ws : va_W} {lv : List (Nat × Value)} {pc : Nat} {st : List Value} {z : Int32} {N : Nat} (cx : CC G X own cc nL lvl mc ms) (hN : z.toInt = (N : Int)) (hby : N ≤ 60000) (h1 : k + 1 ≤ mc) (h2 : n + N ≤ ms) (hdg : decode cc pc = .ok (.newarray .int, 2)) (kk : ∀ q : Nat, WC G X nL (ws ++ [(q, .inl (gca G 0, N, .inl (fun _ => 0)))]) (k + 1) (n + N) lv (pc + 2) (.ref q :: st)) : WC G X nL ws k n lv pc (.int z :: st) := by
  obtain ⟨p, e, R, s, m, args, below, meth, c, Q, A, ck, sk⟩ := X
  obtain ⟨hx, hb, hml, hown, hts, ⟨hK, hO6, hO4⟩, hA, hck, hlm⟩ := cx
  intro H locs ls hl hP hD hS
  have hz : z.toNatClampNeg = N := by have := clamp_toInt (x := z) (by omega); omega
  refine va_newa (atype := .int) (ty := .int) (a0 := (N, .inl (fun _ => 0))) hx hb (hts _ tw_int) rfl hK hP hD hS hA (fun _ => rfl) (nlt0 (by omega)) hz (by show N * _ ≤ _; simp only [componentBytes]; omega) (Nat.le_trans h1 hck.1) (Nat.le_trans h2 hck.2) hdg (fun q cA H1 hK1 hP1 hD1 hS1 => ?_)
  have hcA : cA = gca G 0 := by
    have e1 : s.vm.findClass ("[" ++ (FieldType.int).toString) = some cA := (hK1.2 6 (cA, .int) rfl).2
    have e2 : s.vm.findClass ("[" ++ (FieldType.int).toString) = some (gca G 0) := (hK.2 0 _ rfl).2
    exact Option.some.inj (e1.symm.trans e2)
  subst hcA
  exact kk q H1 locs ls hl hP1 hD1 hS1

theorem wc_newa1 {G : GT} {X : CT} {own : String} {cc : ByteArray} {nL lvl mc ms k n : Nat} {ws : va_W} {lv : List (Nat × Value)} {pc : Nat} {st : List Value} {z : Int32} {N : Nat} (cx : CC G X own cc nL lvl mc ms) (hN : z.toInt = (N : Int)) (hby : N ≤ 60000) (h1 : k + 1 ≤ mc) (h2 : n + N ≤ ms) (hdg : decode cc pc = .ok (.newarray .boolean, 2)) (kk : ∀ q : Nat, WC G X nL (ws ++ [(q, .inl (gca G 1, N, .inl (fun _ => 0)))]) (k + 1) (n + N) lv (pc + 2) (.ref q :: st)) : WC G X nL ws k n lv pc (.int z :: st) := by
  obtain ⟨p, e, R, s, m, args, below, meth, c, Q, A, ck, sk⟩ := X
  obtain ⟨hx, hb, hml, hown, hts, ⟨hK, hO6, hO4⟩, hA, hck, hlm⟩ := cx
  intro H locs ls hl hP hD hS
  have hz : z.toNatClampNeg = N := by have := clamp_toInt (x := z) (by omega); omega
  refine va_newa (atype := .boolean) (ty := .boolean) (a0 := (N, .inl (fun _ => 0))) hx hb (hts _ tw_boolean) rfl hK hP hD hS hA (fun _ => rfl) (nlt0 (by omega)) hz (by show N * _ ≤ _; simp only [componentBytes]; omega) (Nat.le_trans h1 hck.1) (Nat.le_trans h2 hck.2) hdg (fun q cA H1 hK1 hP1 hD1 hS1 => ?_)
  have hcA : cA = gca G 1 := by
    have e1 : s.vm.findClass ("[" ++ (FieldType.boolean).toString) = some cA := (hK1.2 6 (cA, .boolean) rfl).2
    have e2 : s.vm.findClass ("[" ++ (FieldType.boolean).toString) = some (gca G 1) := (hK.2 1 _ rfl).2
    exact Option.some.inj (e1.symm.trans e2)
  subst hcA
  exact kk q H1 locs ls hl hP1 hD1 hS1

theorem wc_newa2 {G : GT} {X : CT} {own : String} {cc : ByteArray} {nL lvl mc ms k n : Nat} {ws : va_W} {lv : List (Nat × Value)} {pc : Nat} {st : List Value} {z : Int32} {N : Nat} (cx : CC G X own cc nL lvl mc ms) (hN : z.toInt = (N : Int)) (hby : N ≤ 60000) (h1 : k + 1 ≤ mc) (h2 : n + N ≤ ms) (hdg : decode cc pc = .ok (.newarray .byte, 2)) (kk : ∀ q : Nat, WC G X nL (ws ++ [(q, .inl (gca G 2, N, .inl (fun _ => 0)))]) (k + 1) (n + N) lv (pc + 2) (.ref q :: st)) : WC G X nL ws k n lv pc (.int z :: st) := by
  obtain ⟨p, e, R, s, m, args, below, meth, c, Q, A, ck, sk⟩ := X
  obtain ⟨hx, hb, hml, hown, hts, ⟨hK, hO6, hO4⟩, hA, hck, hlm⟩ := cx
  intro H locs ls hl hP hD hS
  have hz : z.toNatClampNeg = N := by have := clamp_toInt (x := z) (by omega); omega
  refine va_newa (atype := .byte) (ty := .byte) (a0 := (N, .inl (fun _ => 0))) hx hb (hts _ tw_byte) rfl hK hP hD hS hA (fun _ => rfl) (nlt0 (by omega)) hz (by show N * _ ≤ _; simp only [componentBytes]; omega) (Nat.le_trans h1 hck.1) (Nat.le_trans h2 hck.2) hdg (fun q cA H1 hK1 hP1 hD1 hS1 => ?_)
  have hcA : cA = gca G 2 := by
    have e1 : s.vm.findClass ("[" ++ (FieldType.byte).toString) = some cA := (hK1.2 6 (cA, .byte) rfl).2
    have e2 : s.vm.findClass ("[" ++ (FieldType.byte).toString) = some (gca G 2) := (hK.2 2 _ rfl).2
    exact Option.some.inj (e1.symm.trans e2)
  subst hcA
  exact kk q H1 locs ls hl hP1 hD1 hS1

theorem wc_newa3 {G : GT} {X : CT} {own : String} {cc : ByteArray} {nL lvl mc ms k n : Nat} {ws : va_W} {lv : List (Nat × Value)} {pc : Nat} {st : List Value} {z : Int32} {N : Nat} (cx : CC G X own cc nL lvl mc ms) (hN : z.toInt = (N : Int)) (hby : N ≤ 60000) (h1 : k + 1 ≤ mc) (h2 : n + N ≤ ms) (hdg : decode cc pc = .ok (.newarray .long, 2)) (kk : ∀ q : Nat, WC G X nL (ws ++ [(q, .inl (gca G 3, N, .inr (.inl (fun _ => 0))))]) (k + 1) (n + N) lv (pc + 2) (.ref q :: st)) : WC G X nL ws k n lv pc (.int z :: st) := by
  obtain ⟨p, e, R, s, m, args, below, meth, c, Q, A, ck, sk⟩ := X
  obtain ⟨hx, hb, hml, hown, hts, ⟨hK, hO6, hO4⟩, hA, hck, hlm⟩ := cx
  intro H locs ls hl hP hD hS
  have hz : z.toNatClampNeg = N := by have := clamp_toInt (x := z) (by omega); omega
  refine va_newa (atype := .long) (ty := .long) (a0 := (N, .inr (.inl (fun _ => 0)))) hx hb (hts _ tw_long) rfl hK hP hD hS hA (fun _ => rfl) (nlt0 (by omega)) hz (by show N * _ ≤ _; simp only [componentBytes]; omega) (Nat.le_trans h1 hck.1) (Nat.le_trans h2 hck.2) hdg (fun q cA H1 hK1 hP1 hD1 hS1 => ?_)
  have hcA : cA = gca G 3 := by
    have e1 : s.vm.findClass ("[" ++ (FieldType.long).toString) = some cA := (hK1.2 6 (cA, .long) rfl).2
    have e2 : s.vm.findClass ("[" ++ (FieldType.long).toString) = some (gca G 3) := (hK.2 3 _ rfl).2
    exact Option.some.inj (e1.symm.trans e2)
  subst hcA
  exact kk q H1 locs ls hl hP1 hD1 hS1

theorem wc_newq {G : GT} {X : CT} {own : String} {cc : ByteArray} {nL lvl mc ms k n : Nat} {ws : va_W} {lv : List (Nat × Value)} {pc : Nat} {st : List Value} {z : Int32} {N ix kd : Nat} {C : String} (hkd : ∀ ca : Nat → ClassId, (tyz ca)[kd]? = some (ca kd, .object C)) (hov : ∀ U, KA G U → va_AO C U) (hcl : Cond.classLink own ix C ∈ TBL) (cx : CC G X own cc nL lvl mc ms) (hN : z.toInt = (N : Int)) (hby : N ≤ 60000) (h1 : k + 1 ≤ mc) (h2 : n + N ≤ ms) (hdg : decode cc pc = .ok (.anewarray ix, 3)) (kk : ∀ q : Nat, WC G X nL (ws ++ [(q, .inl (gca G kd, N, .inr (.inr (.inr (.inr (fun _ => none))))))]) (k + 1) (n + N) lv (pc + 3) (.ref q :: st)) : WC G X nL ws k n lv pc (.int z :: st) := by
  obtain ⟨p, e, R, s, m, args, below, meth, c, Q, A, ck, sk⟩ := X
  obtain ⟨hx, hb, hml, hown, hts, ⟨hK, hO6, hO4⟩, hA, hck, hlm⟩ := cx
  intro H locs ls hl hP hD hS
  have hz : z.toNatClampNeg = N := by have := clamp_toInt (x := z) (by omega); omega
  refine va_newq hx hb hown (hts _ hcl) (hov s ⟨hK, hO6, hO4⟩) hK hP hD hS hA (nlt0 (by omega)) hz (by omega) (Nat.le_trans h1 hck.1) (Nat.le_trans h2 hck.2) hdg (fun q cA H1 hK1 hP1 hD1 hS1 => ?_)
  have hcA : cA = gca G kd := by
    obtain ⟨_, _, _, _, _, e1⟩ := (hK1.2 6 (cA, .object C) rfl).2
    obtain ⟨_, _, _, _, _, e2⟩ := (hK.2 kd _ (hkd _)).2
    exact Option.some.inj (e1.symm.trans e2)
  subst hcA
  exact kk q H1 locs ls hl hP1 hD1 hS1

theorem wc_putF {G : GT} {X : CT} {own : String} {cc : ByteArray} {nL lvl mc ms k n : Nat} {ws : va_W} {lv : List (Nat × Value)} {pc : Nat} {st : List Value} {b j ci ix q0 : Nat} {fs : List Value} {C : String} {T : u_T} {N : Nat} {ty : FieldType} {v : Value} (hc : clz[ci]? = some (C, T, N)) (hin : ∀ w ∈ u_ws C T N, w ∈ TBL) (ty0 : Nat → FieldType) (hty : ∀ k, k < N → parseFieldDescriptor (T k).2.2.1 = some (ty0 k)) (hnm : ∀ a, a < N → ∀ b, b < N → a ≠ b → (T a).2.1 ≠ (T b).2.1) (hj : j < N) (hlink : Cond.fieldLink own ix (T j).1 (T j).2.1 (T j).2.2.1 ∈ TBL) (hfin : (T j).2.2.2 = true) (hdecl : (T j).1 = own) (hd : parseFieldDescriptor (T j).2.2.1 = some ty) (cx : CC G X own cc nL lvl mc ms) (hin2 : X.2.2.2.2.2.2.2.1.name = "<init>") (hn : narrow ty v = v) (hfit : fits ty v = true) (he : ws[q0]? = some (b, .inr (ci, fs))) (hlen : j < fs.length) (hdg : decode cc pc = .ok (.putfield ix, 3)) (kk : WC G X nL (ws.set q0 (b, .inr (ci, fs.set j v))) k n lv (pc + 3) st) : WC G X nL ws k n lv pc (v :: .ref b :: st) := by
  obtain ⟨p, e, R, s, m, args, below, meth, c, Q, A, ck, sk⟩ := X
  obtain ⟨hx, hb, hml, hown, hts, ⟨hK, hO6, hO4⟩, hA, hck, hlm⟩ := cx
  intro H locs ls hl hP hD hS
  exact va_putF (C := C) (T := T) (N := N) (ref := (T j).1) (ty := ty) hx hb hts hin ty0 hty hnm hown hK hP hD hS q0 he hc j hj (hts _ hlink) (fun _ h => h) hfin hin2 hdecl hd hn hfit hlen hdg (fun H1 locs1 hP1 hD1 hS1 => kk H1 locs1 ls hl hP1 hD1 hS1)

theorem wc_put {G : GT} {X : CT} {own : String} {cc : ByteArray} {nL lvl mc ms k n : Nat} {ws : va_W} {lv : List (Nat × Value)} {pc : Nat} {st : List Value} {b j ci ix q0 : Nat} {fs : List Value} {C : String} {T : u_T} {N : Nat} {ty : FieldType} {v : Value} (hc : clz[ci]? = some (C, T, N)) (hin : ∀ w ∈ u_ws C T N, w ∈ TBL) (ty0 : Nat → FieldType) (hty : ∀ k, k < N → parseFieldDescriptor (T k).2.2.1 = some (ty0 k)) (hnm : ∀ a, a < N → ∀ b, b < N → a ≠ b → (T a).2.1 ≠ (T b).2.1) (hj : j < N) (hlink : Cond.fieldLink own ix (T j).1 (T j).2.1 (T j).2.2.1 ∈ TBL) (hfin : (T j).2.2.2 = false) (hd : parseFieldDescriptor (T j).2.2.1 = some ty) (cx : CC G X own cc nL lvl mc ms) (hn : narrow ty v = v) (hfit : fits ty v = true) (he : ws[q0]? = some (b, .inr (ci, fs))) (hlen : j < fs.length) (hdg : decode cc pc = .ok (.putfield ix, 3)) (kk : WC G X nL (ws.set q0 (b, .inr (ci, fs.set j v))) k n lv (pc + 3) st) : WC G X nL ws k n lv pc (v :: .ref b :: st) := by
  obtain ⟨p, e, R, s, m, args, below, meth, c, Q, A, ck, sk⟩ := X
  obtain ⟨hx, hb, hml, hown, hts, ⟨hK, hO6, hO4⟩, hA, hck, hlm⟩ := cx
  intro H locs ls hl hP hD hS
  exact va_put (C := C) (T := T) (N := N) (ref := (T j).1) (ty := ty) hx hb hts hin ty0 hty hnm hown hK hP hD hS q0 he hc j hj (hts _ hlink) (fun _ h => h) hfin hd hn hfit hlen hdg (fun H1 locs1 hP1 hD1 hS1 => kk H1 locs1 ls hl hP1 hD1 hS1)

theorem wc_get {G : GT} {X : CT} {own : String} {cc : ByteArray} {nL lvl mc ms k n : Nat} {ws : va_W} {lv : List (Nat × Value)} {pc : Nat} {st : List Value} {b j ci ix q0 : Nat} {fs : List Value} {C : String} {T : u_T} {N : Nat} {v : Value} (hc : clz[ci]? = some (C, T, N)) (hin : ∀ w ∈ u_ws C T N, w ∈ TBL) (hj : j < N) (hlink : Cond.fieldLink own ix (T j).1 (T j).2.1 (T j).2.2.1 ∈ TBL) (cx : CC G X own cc nL lvl mc ms) (he : ws[q0]? = some (b, .inr (ci, fs))) (hv : fs[j]? = some v) (hdg : decode cc pc = .ok (.getfield ix, 3)) (kk : WC G X nL ws k n lv (pc + 3) (v :: st)) : WC G X nL ws k n lv pc (.ref b :: st) := by
  obtain ⟨p, e, R, s, m, args, below, meth, c, Q, A, ck, sk⟩ := X
  obtain ⟨hx, hb, hml, hown, hts, ⟨hK, hO6, hO4⟩, hA, hck, hlm⟩ := cx
  intro H locs ls hl hP hD hS
  exact va_get (C := C) (T := T) (N := N) (ref := (T j).1) hx hb hts hin hown hK hP q0 he hc j hj (hts _ hlink) (fun _ h => h) hv hdg (kk H locs ls hl hP hD hS)
theorem wc_iast {G : GT} {X : CT} {own : String} {cc : ByteArray} {nL lvl mc ms k n : Nat} {ws : va_W} {lv : List (Nat × Value)} {pc : Nat} {st : List Value} {q0 b N : Nat} {f : Nat → Int32} {i x : Int32} (cx : CC G X own cc nL lvl mc ms) (he : ws[q0]? = some (b, .inl (gca G 0, N, .inl f))) (hi : ir i N) (hdg : decode cc pc = .ok (.iastore, 1)) (kk : WC G X nL (ws.set q0 (b, .inl (gca G 0, N, .inl (upd f i.toNatClampNeg x)))) k n lv (pc + 1) st) : WC G X nL ws k n lv pc (.int x :: .int i :: .ref b :: st) := by
  obtain ⟨p, e, R, s, m, args, below, meth, c, Q, A, ck, sk⟩ := X
  obtain ⟨hx, hb, hml, hown, hts, ⟨hK, hO6, hO4⟩, hA, hck, hlm⟩ := cx
  intro H locs ls hl hP hD hS
  exact va_iast hx hb hK hP hD hS q0 0 he rfl (vp_in_iff.mpr hi) hdg (fun H1 locs1 hP1 hD1 hS1 => kk H1 locs1 ls hl hP1 hD1 hS1)
theorem wc_aast {G : GT} {X : CT} {own : String} {cc : ByteArray} {nL lvl mc ms k n : Nat} {ws : va_W} {lv : List (Nat × Value)} {pc : Nat} {st : List Value} {q0 qk b N ci kd v : Nat} {r : vw_C} {vs : List Value} {f : Nat → Option Nat} {i : Int32} (hkd : ∀ ca : Nat → ClassId, (tyz ca)[kd]? = some (ca kd, .object r.1)) (hc : clz[ci]? = some r) (cx : CC G X own cc nL lvl mc ms) (he : ws[q0]? = some (b, .inl (gca G kd, N, .inr (.inr (.inr (.inr f)))))) (hv : ws[qk]? = some (v, .inr (ci, vs))) (hi : ir i N) (hdg : decode cc pc = .ok (.aastore, 1)) (kk : WC G X nL (ws.set q0 (b, .inl (gca G kd, N, .inr (.inr (.inr (.inr (va_up f i.toNatClampNeg (some v)))))))) k n lv (pc + 1) st) : WC G X nL ws k n lv pc (.ref v :: .int i :: .ref b :: st) := by
  obtain ⟨p, e, R, s, m, args, below, meth, c, Q, A, ck, sk⟩ := X
  obtain ⟨hx, hb, hml, hown, hts, ⟨hK, hO6, hO4⟩, hA, hck, hlm⟩ := cx
  intro H locs ls hl hP hD hS
  exact va_astq hx hb hK hP hD hS q0 kd qk ci he (hkd _) hv hc (vp_in_iff.mpr hi) hdg (fun H1 locs1 hP1 hD1 hS1 => kk H1 locs1 ls hl hP1 hD1 hS1)
theorem tw_X6 {G : GT} (U : State) (h : KA G U) : va_AO RX6 U := h.2.1
theorem tw_X4 {G : GT} (U : State) (h : KA G U) : va_AO RX4 U := h.2.2
def rmC (k mc ms : Nat) : Room := { frames := k, cells := mc, slots := ms, locals := 64 * k }
/-- a constructor's contract: the object alone at first; then it and what it made -/
def KC (G : GT) (k : Nat) (y : MethodName) (b : ByteArray) (nL ci : Nat) (fs : List Value) (mc ms : Nat) (W1 : (Nat → Nat) → va_W) : Prop :=
  ∀ a sz : Nat, Met G.1 y (.code y b nL none :: TBL) (rmC k mc ms) (va_Pc [.ref a] (fun U => U.heap.size = sz ∧ va_P G.2.1 clz [(a, .inr (ci, fs))] U.heap ∧ KA G U ∧ va_D (va_A [(a, .inr (ci, fs))] sz) [(a, .inr (ci, fs))])) (fun _ st oc t => oc = .returned none ∧ (∃ ad : Nat → Nat, ad 0 = a ∧ va_P G.2.1 clz (W1 ad) t.heap ∧ va_D (va_A [(a, .inr (ci, fs))] sz) (W1 ad)) ∧ va_F (va_A [(a, .inr (ci, fs))] sz) st t) mc ms (va_A [(a, .inr (ci, fs))] sz)
def CallI (own : String) (ix : Nat) (y : MethodName) (b : ByteArray) (nL : Nat) : Prop :=
  Cond.methodLink own ix y ∈ TBL ∧ Cond.instanceMethod y ∈ TBL ∧ Cond.initialized y.cls ∈ TBL ∧ Cond.code y b nL none ∈ TBL ∧ y.name = "<init>" ∧ (y.cls ≠ "java/lang/invoke/MethodHandle" ∧ y.cls ≠ "java/lang/invoke/VarHandle" ∧ (parseMethodDescriptor y.desc).map (fun d => d.parameters.length) = some 0)
theorem met_C {G : GT} {k : Nat} {y : MethodName} {b : ByteArray} {nL ci : Nat} {fs : List Value} {mc ms : Nat} {W1 : (Nat → Nat) → va_W} (hy : plainName y.cls = true) (hin : y.name = "<init>") (hsl : 1 ≤ nL) (body : ∀ (X : CT) (a : Nat), CC G X y.cls b nL k mc ms → X.2.2.2.2.2.2.2.1.name = "<init>" → (∀ (lv : List (Nat × Value)) (pc : Nat) (ad : Nat → Nat), ad 0 = a → decode b pc = .ok (.return_, 1) → WC G X nL (W1 ad) mc ms lv pc []) → WC G X nL [(a, .inr (ci, fs))] 0 0 [(0, .ref a)] 0 []) : KC G k y b nL ci fs mc ms W1 := by
  intro a sz
  refine Met.ofW (cc := b) (maxL := nL) (ret := none) hy rfl ?_
  intro p e s m args below meth c s₁ B hml hv
  obtain ⟨rfl, hsz, hP, hK, hD⟩ := hv
  have hts := atoms_spec (ws := .code y b nL none :: TBL) B.pre
  subst hsz
  have hlocks := B.notSynchronized
  have hnm : meth.name = "<init>" := (name_of_methodNamed B.named B.method).1.trans hin
  generalize hAe : va_A [(a, .inr (ci, fs))] s.heap.size = A at hD ⊢
  have hA : ∀ q : Nat, s.heap.size ≤ q → A q := fun q h => by rw [← hAe]; exact Or.inr h
  have hl := lv_entry [.ref a] (n := nL) hsl
  rw [lg_entry_eq]
  exact body (p, e, rmC k mc ms, s, m, [Value.ref a].toArray, below, meth, c, MQ below (fun _ st oc t => oc = .returned none ∧ (∃ ad : Nat → Nat, ad 0 = a ∧ va_P G.2.1 clz (W1 ad) t.heap ∧ va_D A (W1 ad)) ∧ va_F A st t) [Value.ref a].toArray s mc ms A, A, 0, 0) a ⟨B.exec, B.bytes, hml, findClass_of_methodNamed B.named, fun w hw => hts w (List.mem_cons_of_mem _ hw), hK, hA, ⟨Nat.le_refl _, Nat.le_refl _⟩, ⟨Nat.le_refl _, Nat.le_refl _⟩⟩ hnm
    (fun lv pc ad h0 hdg H locs ls hl hP hD hS => W.vret B.exec B.bytes B.returns (fun t ht hW => ⟨rfl, ⟨ad, h0, by rw [ht]; exact hP, hD⟩, hS.F ht⟩) hS.2.2 hdg) s.heap [] _ hl hP hD va_S.rf
theorem wc_call {G : GT} {X : CT} {own : String} {cc : ByteArray} {nL lvl mc ms k n : Nat} {ws : va_W} {lv : List (Nat × Value)} {pc : Nat} {st : List Value} {k2 ix nL' ci mc' ms' b : Nat} {y : MethodName} {bb : ByteArray} {fs : List Value} {W1 : (Nat → Nat) → va_W} (hC : CallI own ix y bb nL') (cx : CC G X own cc nL lvl mc ms) (hk : k2 + 1 ≤ lvl ∧ nL' ≤ 45) (hst : (st.map fun v => v.category).sum ≤ 8) (hdg : decode cc pc = .ok (.invokespecial ix, 3)) (h1 : k + mc' ≤ mc) (h2 : n + ms' ≤ ms) (hM : KC G k2 y bb nL' ci fs mc' ms' W1) (kk : ∀ ad : Nat → Nat, ad 0 = b → WC G X nL (ws ++ W1 ad) (k + mc') (n + ms') lv (pc + 3) st) : WC G X nL (ws ++ [(b, .inr (ci, fs))]) k n lv pc (.ref b :: st) := by
  obtain ⟨p, e, R, s, m, args, below, meth, c, Q, A, ck, sk⟩ := X
  obtain ⟨hx, hb, hml, hown, hts, ⟨hK, hO6, hO4⟩, hA, hck, hlm⟩ := cx
  intro H locs ls hl hP hD hS
  obtain ⟨c1, c2, c3, c4, c5, c6⟩ := hC
  have hlast : (ws ++ [(b, va_E_obj ci fs)])[ws.length]? = some (b, va_E_obj ci fs) := by simp
  have hPc : va_P G.2.1 clz [(b, .inr (ci, fs))] H := hP.sub [ws.length] (by simp)
  have hDb : va_D A [(b, .inr (ci, fs))] := hD.sub [ws.length] rfl (by simp)
  have hF : ∀ q, va_A [(b, .inr (ci, fs))] H.size q → A q := fun q h => by
    rcases h with ⟨j, e, h⟩ | h
    · exact hDb.2 j _ h
    · exact hA q (Nat.le_trans hS.1 h)
  have hr := va_runI (As := []) (rest := st) (R := R) ⟨hx, hb, hml, hown, hts⟩ (hM b H.size) ⟨callB_of 0 hts (fun w hw => (List.mem_cons.mp hw).elim (fun h => by rw [h]; exact tg c4) (fun h => tg h)) rfl rfl rfl (hts _ c3) (hts _ c1) c6 ⟨by simp only [rmC]; omega, by simp only [rmC]; omega⟩, c5, hts _ c2⟩ ⟨fun a U g mk q => by
      obtain ⟨q0, q1, qP, qK, qD⟩ := q
      exact ⟨q0, q1, qP, KA.moved (u := U) (U := U.calling g mk a) (Vm.Alike.refl U.vm) qK, qD⟩, fun U hU hW => ⟨rfl, by rw [hU], by rw [hU]; exact hPc, KA.moved hW.alike ⟨hK, hO6, hO4⟩, hDb.self⟩⟩ (g := F0 m pc ls (.ref b :: st)) (H := H) (locs := locs) (cells := k) (slots := n) (e := e) (below := below) (meth := meth) rfl rfl hl.1 rfl (lv_room8 hst) hdg ⟨Nat.le_trans h1 hck.1, Nat.le_trans h2 hck.2⟩
  intro T hT XS
  obtain ⟨v, st₀, t, T', L, h0, X', hL, e1, e2, ⟨hv, ⟨ad, ha, hp, hd⟩, hz, hkp⟩, stp⟩ := hr T hT XS
  cases hv
  rw [h0] at hz hkp
  have hjn := va_join (wr := ws) (w1 := W1 ad) (ws := ws ++ [(b, .inr (ci, fs))]) (wc := [(b, .inr (ci, fs))]) hP hD [ws.length] (List.range ws.length) (by simp) (by
      apply List.ext_getElem?
      intro i
      by_cases hi : i < ws.length
      · simp [List.getElem?_range hi, List.getElem?_append_left hi, hi]
      · simp [hi]) (nd_range _) (fun i hi hj => by
      have h1 := List.mem_range.mp hi
      simp at hj
      omega) (H1 := T'.heap) (fun q h1 h2 => by rw [e1]; exact hkp q h1 h2) hF (by rw [e1]; exact hp) hd
  obtain ⟨t2, a1, b1⟩ := kk ad ha T'.heap (locs ++ L) ls hl hjn.1 hjn.2
    ⟨Nat.le_trans hS.1 (by rw [e1]; exact hz), fun q h1 h2 => by rw [e1, hkp q (Nat.lt_of_lt_of_le h1 hS.1) (fun z => h2 (hF q z))]; exact hS.2.1 q h1 h2, fun q hq => by
      rcases List.mem_append.mp hq with h | h
      · exact hS.2.2 q h
      · exact hF _ (hL q h)⟩ T' rfl X'
  exact ⟨t2, stp t2 a1, b1⟩

