abbrev St : Type := (Nat → Nat → Int32) × (Nat → Nat → Int64)
def setI (σ : St) (k j : Nat) (v : Int32) : St := (fun a b => if a = k ∧ b = j then v else σ.1 a b, σ.2)
def setL (σ : St) (k j : Nat) (v : Int64) : St := (σ.1, fun a b => if a = k ∧ b = j then v else σ.2 a b)
/-- a place's shape: a row of numbers (kind, length), an object (class, fields), a row of objects (kind, places) -/
abbrev Sh : Type := (Nat × Nat) ⊕ ((Nat × List (Option Nat)) ⊕ (Nat × List Nat))
def clz : List vw_C := [(RX0, TX0, 1), (RX1, TX1, 7), (RX2, TX2, 8), (RX3, TX3, 4), (RX4, TX4, 4), (RX5, TX5, 1), (RX6, TX6, 14), (RX7, TX7, 12), (RX8, TX8, 34)]
def tyz (ca : Nat → ClassId) : List (ClassId × FieldType) := [(ca 0, .int), (ca 1, .boolean), (ca 2, .byte), (ca 3, .long), (ca 4, .object RX6), (ca 5, .object RX4)]
def shp : List Sh := [.inr (.inl (7, [some 1, some 3, some 10, some 17, some 18, some 40, some 49, none, some 51, some 53, some 55, some 60])), .inr (.inl (2, [some 2, none, none, none, none, none, none, none])), .inl (2, 1600), .inr (.inl (6, [none, none, none, none, none, none, none, none, some 4, some 5, some 6, some 7, some 8, some 9])), .inl (0, 12), .inl (0, 12), .inl (0, 12), .inl (0, 12), .inl (0, 5), .inl (0, 5), .inr (.inl (6, [none, none, none, none, none, none, none, none, some 11, some 12, some 13, some 14, some 15, some 16])), .inl (0, 12), .inl (0, 12), .inl (0, 12), .inl (0, 12), .inl (0, 5), .inl (0, 5), .inr (.inr (4, [19, 26, 33])), .inl (1, 3), .inr (.inl (6, [none, none, none, none, none, none, none, none, some 20, some 21, some 22, some 23, some 24, some 25])), .inl (0, 12), .inl (0, 12), .inl (0, 12), .inl (0, 12), .inl (0, 5), .inl (0, 5), .inr (.inl (6, [none, none, none, none, none, none, none, none, some 27, some 28, some 29, some 30, some 31, some 32])), .inl (0, 12), .inl (0, 12), .inl (0, 12), .inl (0, 12), .inl (0, 5), .inl (0, 5), .inr (.inl (6, [none, none, none, none, none, none, none, none, some 34, some 35, some 36, some 37, some 38, some 39])), .inl (0, 12), .inl (0, 12), .inl (0, 12), .inl (0, 12), .inl (0, 5), .inl (0, 5), .inr (.inr (5, [41, 43, 45, 47])), .inr (.inl (4, [none, none, none, some 42])), .inl (3, 60), .inr (.inl (4, [none, none, none, some 44])), .inl (3, 60), .inr (.inl (4, [none, none, none, some 46])), .inl (3, 60), .inr (.inl (4, [none, none, none, some 48])), .inl (3, 60), .inr (.inl (5, [some 50])), .inl (0, 4096), .inr (.inl (5, [some 52])), .inl (0, 4096), .inr (.inl (3, [none, none, none, some 54])), .inl (0, 12), .inr (.inl (1, [none, none, none, some 56, some 57, some 58, some 59])), .inl (0, 12), .inl (0, 12), .inl (0, 5), .inl (0, 5), .inr (.inl (0, [some 61])), .inl (0, 16), .inr (.inl (8, [none, some 63, some 64, some 65, some 66, none, some 67, none, none, none, none, none, none, none, some 68, some 69, some 70, some 71, none, none, none, none, some 72, some 73, some 74, some 75, some 76, none, none, some 77, some 78, some 79, some 80, some 81])), .inl (0, 77), .inl (0, 231), .inl (1, 3), .inl (2, 1600), .inl (0, 5), .inl (0, 77), .inl (0, 8), .inl (1, 8), .inl (0, 8), .inl (1, 32), .inl (0, 12), .inl (0, 12), .inl (0, 5), .inl (0, 5), .inl (0, 4096), .inl (0, 4), .inl (0, 4), .inl (3, 240), .inl (3, 60)]
def slen : List Nat := [5, 5, 5, 5, 5, 5, 3, 2, 3, 2, 2, 3, 4, 4, 4, 5, 5, 5]
def sbyt : List (List Int32) := [[116, 97, 98, 108, 101], [97, 116, 111, 109, 115], [104, 111, 117, 114, 115], [104, 111, 108, 101, 115], [99, 108, 97, 105, 109], [119, 111, 114, 116, 104], [121, 101, 115], [110, 111], [97, 110, 100], [111, 114], [105, 102], [110, 111, 116], [115, 97, 108, 116], [115, 116, 101, 112], [102, 114, 111, 109], [103, 117, 101, 115, 116], [115, 112, 101, 101, 100], [107, 110, 111, 119, 115]]
def sldc : List (String × Nat × String × Nat) := [("ProvedTable$Reader", 81, "table", 0), ("ProvedTable$Reader", 86, "atoms", 1), ("ProvedTable$Reader", 94, "hours", 2), ("ProvedTable$Reader", 98, "holes", 3), ("ProvedTable$Reader", 53, "claim", 4), ("ProvedTable$Reader", 105, "worth", 5), ("ProvedTable$Reader", 173, "yes", 6), ("ProvedTable$Reader", 175, "no", 7), ("ProvedTable$Reader", 183, "and", 8), ("ProvedTable$Reader", 185, "or", 9), ("ProvedTable$Reader", 187, "if", 10), ("ProvedTable$Reader", 189, "not", 11), ("ProvedTable$Reader", 62, "salt", 12), ("ProvedTable$Reader", 67, "step", 13), ("ProvedTable$Reader", 132, "from", 14), ("ProvedTable$Reader", 72, "guest", 15), ("ProvedTable$Reader", 144, "speed", 16), ("ProvedTable$Reader", 146, "knows", 17), ("ProvedTableModel", 240, "table", 0), ("ProvedTableModel", 242, "atoms", 1), ("ProvedTableModel", 244, "hours", 2), ("ProvedTableModel", 246, "holes", 3), ("ProvedTableModel", 220, "claim", 4), ("ProvedTableModel", 222, "salt", 12), ("ProvedTableModel", 224, "step", 13), ("ProvedTableModel", 226, "guest", 15), ("ProvedTableModel", 199, "worth", 5), ("ProvedTableModel", 171, "and", 8), ("ProvedTableModel", 173, "or", 9), ("ProvedTableModel", 175, "if", 10), ("ProvedTableModel", 177, "not", 11), ("ProvedTableModel", 179, "yes", 6), ("ProvedTableModel", 184, "no", 7), ("ProvedTableModel", 215, "from", 14), ("ProvedTableModel", 216, "speed", 16), ("ProvedTableModel", 218, "knows", 17)]
abbrev GT : Type := Launch × va_G × (Nat → Nat) × (Nat → ClassId) × (Nat → Nat) × (Nat → Nat)
def gad (G : GT) : Nat → Nat := G.2.2.1
def gca (G : GT) : Nat → ClassId := G.2.2.2.1
def gsk (G : GT) : Nat → Nat := G.2.2.2.2.1
def gsv (G : GT) : Nat → Nat := G.2.2.2.2.2
def fld (G : GT) (σ : St) (k : Nat) (j : Nat) (f : Option Nat) : Value := match f with
  | none => .int (σ.1 k j)
  | some q => .ref (gad G q)
def cel (G : GT) (σ : St) (k : Nat) (h : Sh) : va_E := match h with
  | .inl (kd, n) => .inl (gca G kd, n, if kd = 3 then .inr (.inl (σ.2 k)) else .inl (σ.1 k))
  | .inr (.inl (ci, fs)) => .inr (ci, fs.mapIdx (fld G σ k))
  | .inr (.inr (kd, rs)) => .inl (gca G kd, rs.length, .inr (.inr (.inr (.inr (fun i => (rs[i]?).map (gad G))))))
def wld (G : GT) (σ : St) : va_W := shp.mapIdx (fun k h => (gad G k, cel G σ k h))
theorem wld_at {G : GT} {σ : St} {k : Nat} {h : Sh} (hs : shp[k]? = some h) : (wld G σ)[k]? = some (gad G k, cel G σ k h) := by
  simp [wld, List.getElem?_mapIdx, hs]
theorem wld_ad {G : GT} {σ : St} {k : Nat} {q : Nat × va_E} (h : (wld G σ)[k]? = some q) : ∃ s, shp[k]? = some s ∧ q = (gad G k, cel G σ k s) := by
  simp only [wld, List.getElem?_mapIdx] at h
  cases hs : shp[k]? with
  | none => rw [hs] at h; cases h
  | some s => rw [hs] at h; exact ⟨s, rfl, (Option.some.inj h).symm⟩
theorem wld_D {G : GT} {σ σ' : St} {A : Nat → Prop} (h : va_D A (wld G σ)) : va_D A (wld G σ') := by
  have key : ∀ (k : Nat) (q : Nat × va_E), (wld G σ')[k]? = some q → ∃ q' : Nat × va_E, (wld G σ)[k]? = some q' ∧ q'.1 = q.1 := fun k q hq => by
    obtain ⟨s, hs, rfl⟩ := wld_ad hq
    exact ⟨_, wld_at hs, rfl⟩
  refine ⟨fun i j p q hi hj e => ?_, fun k q hq => ?_⟩
  · obtain ⟨p', hp', ep⟩ := key i p hi
    obtain ⟨q', hq', eq⟩ := key j q hj
    exact h.1 i j p' q' hp' hq' (by rw [ep, eq, e])
  · obtain ⟨q', hq', eq⟩ := key k q hq
    rw [← eq]
    exact h.2 k q' hq'
theorem cel_congr {G : GT} {σ σ' : St} {k : Nat} (h : Sh) (h1 : σ'.1 k = σ.1 k) (h2 : σ'.2 k = σ.2 k) : cel G σ' k h = cel G σ k h := by
  have hf : fld G σ' k = fld G σ k := by
    funext j f
    cases f with
    | none => simp [fld, h1]
    | some q => rfl
  rcases h with ⟨kd, n⟩ | ⟨ci, fs⟩ | ⟨kd, rs⟩
  · simp only [cel, h1, h2]
  · simp only [cel, hf]
  · rfl
theorem wld_set {G : GT} {σ σ' : St} {k : Nat} {h : Sh} {e : va_E} (hs : shp[k]? = some h) (he : cel G σ' k h = e) (ho : ∀ q, q ≠ k → σ'.1 q = σ.1 q ∧ σ'.2 q = σ.2 q) : (wld G σ).set k (gad G k, e) = wld G σ' := by
  apply List.ext_getElem?
  intro i
  rw [List.getElem?_set]
  by_cases hi : k = i
  · subst hi
    have lt : k < (wld G σ).length := (List.getElem?_eq_some_iff.mp (wld_at (G := G) (σ := σ) hs)).1
    simp [lt, wld_at hs, he]
  · rw [if_neg hi]
    simp only [wld, List.getElem?_mapIdx]
    cases shp[i]? with
    | none => rfl
    | some s => simp only [Option.map_some, cel_congr s (ho i (fun h => hi h.symm)).1 (ho i (fun h => hi h.symm)).2]
theorem setI_ne {σ : St} {k j : Nat} {v : Int32} {q : Nat} (h : q ≠ k) : (setI σ k j v).1 q = σ.1 q ∧ (setI σ k j v).2 q = σ.2 q := by
  refine ⟨?_, rfl⟩
  funext b
  exact if_neg (fun z => h z.1)
theorem setL_ne {σ : St} {k j : Nat} {v : Int64} {q : Nat} (h : q ≠ k) : (setL σ k j v).1 q = σ.1 q ∧ (setL σ k j v).2 q = σ.2 q := by
  refine ⟨rfl, ?_⟩
  funext b
  exact if_neg (fun z => h z.1)
theorem setI_row {σ : St} {k j : Nat} {v : Int32} : (setI σ k j v).1 k = upd (σ.1 k) j v := by
  funext b
  simp [setI, upd]
theorem setL_row {σ : St} {k j : Nat} {v : Int64} : (setL σ k j v).2 k = vp_updL (σ.2 k) j v := by
  funext b
  simp [setL, vp_updL]
theorem wld_setF {G : GT} {σ : St} {k j ci : Nat} {fs : List (Option Nat)} {v : Int32} (hs : shp[k]? = some (.inr (.inl (ci, fs)))) (hf : fs[j]? = some none) : (wld G σ).set k (gad G k, .inr (ci, (fs.mapIdx (fld G σ k)).set j (.int v))) = wld G (setI σ k j v) := by
  refine wld_set hs ?_ (fun q h => setI_ne h)
  simp only [cel]
  congr 2
  apply List.ext_getElem?
  intro i
  rw [List.getElem?_set, List.getElem?_mapIdx, List.getElem?_mapIdx]
  by_cases hi : j = i
  · subst hi
    obtain ⟨lt, hfj⟩ := List.getElem?_eq_some_iff.mp hf
    simp [hf, lt, fld, setI, hfj]
  · rw [if_neg hi]
    cases fs[i]? with
    | none => rfl
    | some f =>
      cases f with
      | none => simp [fld, setI]; intro h; exact absurd h.symm hi
      | some q => rfl
theorem wld_setA {G : GT} {σ : St} {k j kd n : Nat} {v : Int32} (hs : shp[k]? = some (.inl (kd, n))) (hk : kd ≠ 3) : (wld G σ).set k (gad G k, .inl (gca G kd, n, .inl (upd (σ.1 k) j v))) = wld G (setI σ k j v) := by
  refine wld_set hs ?_ (fun q h => setI_ne h)
  simp only [cel, if_neg hk, setI_row]
theorem wld_setJ {G : GT} {σ : St} {k j n : Nat} {v : Int64} (hs : shp[k]? = some (.inl (3, n))) : (wld G σ).set k (gad G k, .inl (gca G 3, n, .inr (.inl (vp_updL (σ.2 k) j v)))) = wld G (setL σ k j v) := by
  refine wld_set hs ?_ (fun q h => setL_ne h)
  simp only [cel, setL_row, if_true]
/-- what holds of a state beside the world: the classes, the world's addresses, the literals -/
def STR (G : GT) (A : Nat → Prop) (U : State) (H : Heap) : Prop := va_Nw (Cond.methodLinkNest RX5 31 yX7_lowestBit "ProvedTable") U ∧ vk_S 18 slen sbyt (gsk G) (gsv G) A U H ∧ (∀ q ∈ sldc, vk_R q.1 q.2.1 q.2.2.1 (gsk G q.2.2.2) U) ∧ va_Z "java/lang/String" "COMPACT_STRINGS" "Z" (.int 1) A U H ∧ va_Zq "jdk/internal/util/Preconditions" "SIOOBE_FORMATTER" "Ljava/util/function/BiFunction;" A U H
def GOOD (G : GT) (A : Nat → Prop) (U : State) (H : Heap) : Prop := va_K G.2.1 clz (tyz (gca G)) U ∧ (∀ σ, va_D A (wld G σ)) ∧ STR G A U H
theorem STR.warm {G : GT} {A : Nat → Prop} {u U : State} {H : Heap} (hW : u.WarmedH U.vm) (h : STR G A u H) : STR G A U H :=
  ⟨va_Nw.warmM hW h.1, h.2.1.moved hW.alike, fun q hq => (h.2.2.1 q hq).warm hW, h.2.2.2.1.moved hW.alike, h.2.2.2.2.moved hW.alike⟩
theorem STR.kept {G : GT} {A : Nat → Prop} {U : State} {H H1 : Heap} (h : STR G A U H) (hq : ∀ a : Nat, a < H.size → ¬ A a → H1[a]? = H[a]?) : STR G A U H1 :=
  ⟨h.1, h.2.1.kept hq, h.2.2.1, h.2.2.2.1.kept hq, h.2.2.2.2.kept hq⟩
theorem STR.narrow {G : GT} {A B : Nat → Prop} {U : State} {H : Heap} (h : STR G A U H) (hAB : ∀ q, B q → A q) : STR G B U H :=
  ⟨h.1, h.2.1.narrow hAB, h.2.2.1, h.2.2.2.1.narrow hAB, h.2.2.2.2.narrow hAB⟩
theorem STR.calling {G : GT} {A : Nat → Prop} {U : State} {H : Heap} (g : JFrame) (mk : MethodId) (a : Array Value) (h : STR G A U H) : STR G A (U.calling g mk a) H :=
  ⟨va_Nw.same (u := U) rfl rfl h.1, h.2.1.moved (Vm.Alike.refl U.vm), fun q hq => (h.2.2.1 q hq).same (u := U) rfl, h.2.2.2.1.moved (u := U) (Vm.Alike.refl U.vm), h.2.2.2.2.moved (u := U) (Vm.Alike.refl U.vm)⟩
def rmL (k : Nat) : Room := { frames := k, cells := 0, slots := 0, locals := 64 * k }
/-- a method's contract: from the world σ it ends with rv, in the world σ' -/
def MCt (G : GT) (k : Nat) (y : MethodName) (b : ByteArray) (nL : Nat) (rt : Option FieldType) (as : List Value) (σ : St) (rv : Option Value) (σ' : St) : Prop :=
  ∀ sz : Nat, Met G.1 y (.code y b nL rt :: TBL) (rmL k) (va_Pc as (fun U => U.heap.size = sz ∧ va_P G.2.1 clz (wld G σ) U.heap ∧ GOOD G (va_A (wld G σ) sz) U U.heap)) (fun _ st oc t => oc = .returned rv ∧ va_P G.2.1 clz (wld G σ') t.heap ∧ va_F (va_A (wld G σ) sz) st t) 0 0 (va_A (wld G σ) sz)
abbrev ir (i : Int32) (n : Nat) : Prop := 0 ≤ i.toInt ∧ i.toInt < (n : Int)
abbrev CT : Type := Program × Env × Room × State × MethodId × Array Value × List Frame × Method × Code × (State → Prop) × (Nat → Prop) × Nat × Nat
def WW (G : GT) (X : CT) (nL : Nat) (σ : St) (lv : List (Nat × Value)) (pc : Nat) (st : List Value) : Prop := match X with
  | (p, e, R, s, m, args, below, meth, c, Q, A, ck, sk) => ∀ (H : Heap) (locs : List Loc) (ls : Array Slot), lv_has ls nL lv → va_P G.2.1 clz (wld G σ) H → va_S A s.heap H locs → W p G.1 e R s m args below meth c H locs ck sk Q (F0 m pc ls st)
def Cx (G : GT) (X : CT) (own : String) (cc : ByteArray) (nL n : Nat) : Prop := match X with
  | (p, _, R, s, m, args, _, _, c, _, A, ck, sk) => p.tables.exec = Jvm.exec ∧ c.code = cc ∧ c.maxLocals = nL ∧ s.vm.findClass own = some m.cls ∧ (∀ w ∈ TBL, w.before args s = true) ∧ GOOD G A s s.heap ∧ (∀ q, s.heap.size ≤ q → A q) ∧ (ck ≤ R.cells ∧ sk ≤ R.slots) ∧ (n ≤ R.frames ∧ 64 * n ≤ R.locals)
def lt {α β : Type} (a : α) (k : α → β) : β := k a
def gd {β : Type} (c : Prop) [Decidable c] (x : Option β) : Option β := if c then x else none
def bp {α β : Type} (x : Option α) (k : α → Option β) : Option β := match x with
  | some a => k a
  | none => none
def bs {α β : Type} (x : Option (α × St)) (k : α → St → Option β) : Option β := match x with
  | some (a, s) => k a s
  | none => none
theorem gd_some {β : Type} {c : Prop} [Decidable c] {x : Option β} {o : β} (h : gd c x = some o) : c ∧ x = some o := by
  unfold gd at h
  by_cases hc : c
  · rw [if_pos hc] at h; exact ⟨hc, h⟩
  · rw [if_neg hc] at h; cases h
theorem bp_some {α β : Type} {x : Option α} {k : α → Option β} {o : β} (h : bp x k = some o) : ∃ a, x = some a ∧ k a = some o := by
  cases x with
  | none => cases h
  | some a => exact ⟨a, rfl, h⟩
theorem bs_some {α β : Type} {x : Option (α × St)} {k : α → St → Option β} {o : β} (h : bs x k = some o) : ∃ a s, x = some (a, s) ∧ k a s = some o := by
  cases x with
  | none => cases h
  | some a => exact ⟨a.1, a.2, rfl, h⟩
theorem it_t {β : Type} {c : Prop} {d : Decidable c} {a b : Option β} {o : β} (h : c) (hF : @ite _ c d a b = some o) : a = some o := by rwa [if_pos h] at hF
theorem it_f {β : Type} {c : Prop} {d : Decidable c} {a b : Option β} {o : β} (h : ¬ c) (hF : @ite _ c d a b = some o) : b = some o := by rwa [if_neg h] at hF

theorem ww_iconst {G : GT} {X : CT} {own : String} {cc : ByteArray} {nL n : Nat} {σ : St} {lv : List (Nat × Value)} {pc : Nat} {st : List Value} {z : Int} {v : Int32} (cx : Cx G X own cc nL n) (hdg : decode cc pc = .ok (.iconst z, 1)) (hv : Int32.ofInt z = v) (k : WW G X nL σ lv (pc + 1) (.int v :: st)) : WW G X nL σ lv pc (st) := by
  obtain ⟨p, e, R, s, m, args, below, meth, c, Q, A, ck, sk⟩ := X
  obtain ⟨hx, hb, hml, hown, hts, hG, hA, hck, hlv⟩ := cx
  intro H locs ls hl hP hS
  exact lv_iconst hx hb hdg hv (k H locs ls hl hP hS)

theorem ww_bipush {G : GT} {X : CT} {own : String} {cc : ByteArray} {nL n : Nat} {σ : St} {lv : List (Nat × Value)} {pc : Nat} {st : List Value} {z : Int} {v : Int32} (cx : Cx G X own cc nL n) (hdg : decode cc pc = .ok (.bipush z, 2)) (hv : (Int8.ofInt z).toInt32 = v) (k : WW G X nL σ lv (pc + 2) (.int v :: st)) : WW G X nL σ lv pc (st) := by
  obtain ⟨p, e, R, s, m, args, below, meth, c, Q, A, ck, sk⟩ := X
  obtain ⟨hx, hb, hml, hown, hts, hG, hA, hck, hlv⟩ := cx
  intro H locs ls hl hP hS
  exact lv_bipush hx hb hdg hv (k H locs ls hl hP hS)

theorem ww_sipush {G : GT} {X : CT} {own : String} {cc : ByteArray} {nL n : Nat} {σ : St} {lv : List (Nat × Value)} {pc : Nat} {st : List Value} {z : Int} {v : Int32} (cx : Cx G X own cc nL n) (hdg : decode cc pc = .ok (.sipush z, 3)) (hv : (Int16.ofInt z).toInt32 = v) (k : WW G X nL σ lv (pc + 3) (.int v :: st)) : WW G X nL σ lv pc (st) := by
  obtain ⟨p, e, R, s, m, args, below, meth, c, Q, A, ck, sk⟩ := X
  obtain ⟨hx, hb, hml, hown, hts, hG, hA, hck, hlv⟩ := cx
  intro H locs ls hl hP hS
  exact lv_sipush hx hb hdg hv (k H locs ls hl hP hS)

theorem ww_lconst {G : GT} {X : CT} {own : String} {cc : ByteArray} {nL n : Nat} {σ : St} {lv : List (Nat × Value)} {pc : Nat} {st : List Value} {z : Fin 2} {v : Int64} (cx : Cx G X own cc nL n) (hdg : decode cc pc = .ok (.lconst z, 1)) (hv : Int64.ofNat (z : Nat) = v) (k : WW G X nL σ lv (pc + 1) (.long v :: st)) : WW G X nL σ lv pc (st) := by
  obtain ⟨p, e, R, s, m, args, below, meth, c, Q, A, ck, sk⟩ := X
  obtain ⟨hx, hb, hml, hown, hts, hG, hA, hck, hlv⟩ := cx
  intro H locs ls hl hP hS
  exact lv_lconst hx hb hdg hv (k H locs ls hl hP hS)

theorem ww_ldc {G : GT} {X : CT} {own : String} {cc : ByteArray} {nL n : Nat} {σ : St} {lv : List (Nat × Value)} {pc : Nat} {st : List Value} {ix : Nat} {v : Int32} (cx : Cx G X own cc nL n) (hdg : decode cc pc = .ok (.ldc ix, 2)) (hw : Cond.constant own ix v ∈ TBL) (k : WW G X nL σ lv (pc + 2) (.int v :: st)) : WW G X nL σ lv pc (st) := by
  obtain ⟨p, e, R, s, m, args, below, meth, c, Q, A, ck, sk⟩ := X
  obtain ⟨hx, hb, hml, hown, hts, hG, hA, hck, hlv⟩ := cx
  intro H locs ls hl hP hS
  exact lv_ldc hx hb hown (hts _ hw) hdg (k H locs ls hl hP hS)

theorem ww_ldc2 {G : GT} {X : CT} {own : String} {cc : ByteArray} {nL n : Nat} {σ : St} {lv : List (Nat × Value)} {pc : Nat} {st : List Value} {ix : Nat} {v : Int64} (cx : Cx G X own cc nL n) (hdg : decode cc pc = .ok (.ldc2_w ix, 3)) (hw : Cond.constantLong own ix v ∈ TBL) (k : WW G X nL σ lv (pc + 3) (.long v :: st)) : WW G X nL σ lv pc (st) := by
  obtain ⟨p, e, R, s, m, args, below, meth, c, Q, A, ck, sk⟩ := X
  obtain ⟨hx, hb, hml, hown, hts, hG, hA, hck, hlv⟩ := cx
  intro H locs ls hl hP hS
  exact lv_ldc2 hx hb hown (hts _ hw) hdg (k H locs ls hl hP hS)

theorem ww_iadd {G : GT} {X : CT} {own : String} {cc : ByteArray} {nL n : Nat} {σ : St} {lv : List (Nat × Value)} {pc : Nat} {st : List Value} {x y : Int32} (cx : Cx G X own cc nL n) (hdg : decode cc pc = .ok (.iadd, 1)) (k : WW G X nL σ lv (pc + 1) (.int (x + y) :: st)) : WW G X nL σ lv pc (.int y :: .int x :: st) := by
  obtain ⟨p, e, R, s, m, args, below, meth, c, Q, A, ck, sk⟩ := X
  obtain ⟨hx, hb, hml, hown, hts, hG, hA, hck, hlv⟩ := cx
  intro H locs ls hl hP hS
  exact lv_iadd hx hb hdg (k H locs ls hl hP hS)

theorem ww_isub {G : GT} {X : CT} {own : String} {cc : ByteArray} {nL n : Nat} {σ : St} {lv : List (Nat × Value)} {pc : Nat} {st : List Value} {x y : Int32} (cx : Cx G X own cc nL n) (hdg : decode cc pc = .ok (.isub, 1)) (k : WW G X nL σ lv (pc + 1) (.int (x - y) :: st)) : WW G X nL σ lv pc (.int y :: .int x :: st) := by
  obtain ⟨p, e, R, s, m, args, below, meth, c, Q, A, ck, sk⟩ := X
  obtain ⟨hx, hb, hml, hown, hts, hG, hA, hck, hlv⟩ := cx
  intro H locs ls hl hP hS
  exact lv_isub hx hb hdg (k H locs ls hl hP hS)

theorem ww_imul {G : GT} {X : CT} {own : String} {cc : ByteArray} {nL n : Nat} {σ : St} {lv : List (Nat × Value)} {pc : Nat} {st : List Value} {x y : Int32} (cx : Cx G X own cc nL n) (hdg : decode cc pc = .ok (.imul, 1)) (k : WW G X nL σ lv (pc + 1) (.int (x * y) :: st)) : WW G X nL σ lv pc (.int y :: .int x :: st) := by
  obtain ⟨p, e, R, s, m, args, below, meth, c, Q, A, ck, sk⟩ := X
  obtain ⟨hx, hb, hml, hown, hts, hG, hA, hck, hlv⟩ := cx
  intro H locs ls hl hP hS
  exact lv_imul hx hb hdg (k H locs ls hl hP hS)

theorem ww_iand {G : GT} {X : CT} {own : String} {cc : ByteArray} {nL n : Nat} {σ : St} {lv : List (Nat × Value)} {pc : Nat} {st : List Value} {x y : Int32} (cx : Cx G X own cc nL n) (hdg : decode cc pc = .ok (.iand, 1)) (k : WW G X nL σ lv (pc + 1) (.int (x &&& y) :: st)) : WW G X nL σ lv pc (.int y :: .int x :: st) := by
  obtain ⟨p, e, R, s, m, args, below, meth, c, Q, A, ck, sk⟩ := X
  obtain ⟨hx, hb, hml, hown, hts, hG, hA, hck, hlv⟩ := cx
  intro H locs ls hl hP hS
  exact lv_iand hx hb hdg (k H locs ls hl hP hS)

theorem ww_ior {G : GT} {X : CT} {own : String} {cc : ByteArray} {nL n : Nat} {σ : St} {lv : List (Nat × Value)} {pc : Nat} {st : List Value} {x y : Int32} (cx : Cx G X own cc nL n) (hdg : decode cc pc = .ok (.ior, 1)) (k : WW G X nL σ lv (pc + 1) (.int (x ||| y) :: st)) : WW G X nL σ lv pc (.int y :: .int x :: st) := by
  obtain ⟨p, e, R, s, m, args, below, meth, c, Q, A, ck, sk⟩ := X
  obtain ⟨hx, hb, hml, hown, hts, hG, hA, hck, hlv⟩ := cx
  intro H locs ls hl hP hS
  exact lv_ior hx hb hdg (k H locs ls hl hP hS)

theorem ww_ixor {G : GT} {X : CT} {own : String} {cc : ByteArray} {nL n : Nat} {σ : St} {lv : List (Nat × Value)} {pc : Nat} {st : List Value} {x y : Int32} (cx : Cx G X own cc nL n) (hdg : decode cc pc = .ok (.ixor, 1)) (k : WW G X nL σ lv (pc + 1) (.int (x ^^^ y) :: st)) : WW G X nL σ lv pc (.int y :: .int x :: st) := by
  obtain ⟨p, e, R, s, m, args, below, meth, c, Q, A, ck, sk⟩ := X
  obtain ⟨hx, hb, hml, hown, hts, hG, hA, hck, hlv⟩ := cx
  intro H locs ls hl hP hS
  exact lv_ixor hx hb hdg (k H locs ls hl hP hS)

theorem ww_ishl {G : GT} {X : CT} {own : String} {cc : ByteArray} {nL n : Nat} {σ : St} {lv : List (Nat × Value)} {pc : Nat} {st : List Value} {x y : Int32} (cx : Cx G X own cc nL n) (hdg : decode cc pc = .ok (.ishl, 1)) (k : WW G X nL σ lv (pc + 1) (.int (x <<< (y &&& 31)) :: st)) : WW G X nL σ lv pc (.int y :: .int x :: st) := by
  obtain ⟨p, e, R, s, m, args, below, meth, c, Q, A, ck, sk⟩ := X
  obtain ⟨hx, hb, hml, hown, hts, hG, hA, hck, hlv⟩ := cx
  intro H locs ls hl hP hS
  exact lv_ishl hx hb hdg (k H locs ls hl hP hS)

theorem ww_ishr {G : GT} {X : CT} {own : String} {cc : ByteArray} {nL n : Nat} {σ : St} {lv : List (Nat × Value)} {pc : Nat} {st : List Value} {x y : Int32} (cx : Cx G X own cc nL n) (hdg : decode cc pc = .ok (.ishr, 1)) (k : WW G X nL σ lv (pc + 1) (.int (x >>> (y &&& 31)) :: st)) : WW G X nL σ lv pc (.int y :: .int x :: st) := by
  obtain ⟨p, e, R, s, m, args, below, meth, c, Q, A, ck, sk⟩ := X
  obtain ⟨hx, hb, hml, hown, hts, hG, hA, hck, hlv⟩ := cx
  intro H locs ls hl hP hS
  exact lv_ishr hx hb hdg (k H locs ls hl hP hS)

theorem ww_iushr {G : GT} {X : CT} {own : String} {cc : ByteArray} {nL n : Nat} {σ : St} {lv : List (Nat × Value)} {pc : Nat} {st : List Value} {x y : Int32} (cx : Cx G X own cc nL n) (hdg : decode cc pc = .ok (.iushr, 1)) (k : WW G X nL σ lv (pc + 1) (.int ((x.toUInt32 >>> (y.toUInt32 &&& Int32.toUInt32 31)).toInt32) :: st)) : WW G X nL σ lv pc (.int y :: .int x :: st) := by
  obtain ⟨p, e, R, s, m, args, below, meth, c, Q, A, ck, sk⟩ := X
  obtain ⟨hx, hb, hml, hown, hts, hG, hA, hck, hlv⟩ := cx
  intro H locs ls hl hP hS
  exact lv_iushr hx hb hdg rfl (k H locs ls hl hP hS)

theorem ww_ineg {G : GT} {X : CT} {own : String} {cc : ByteArray} {nL n : Nat} {σ : St} {lv : List (Nat × Value)} {pc : Nat} {st : List Value} {x : Int32} (cx : Cx G X own cc nL n) (hdg : decode cc pc = .ok (.ineg, 1)) (k : WW G X nL σ lv (pc + 1) (.int (-x) :: st)) : WW G X nL σ lv pc (.int x :: st) := by
  obtain ⟨p, e, R, s, m, args, below, meth, c, Q, A, ck, sk⟩ := X
  obtain ⟨hx, hb, hml, hown, hts, hG, hA, hck, hlv⟩ := cx
  intro H locs ls hl hP hS
  exact lv_ineg hx hb hdg (k H locs ls hl hP hS)

theorem ww_ladd {G : GT} {X : CT} {own : String} {cc : ByteArray} {nL n : Nat} {σ : St} {lv : List (Nat × Value)} {pc : Nat} {st : List Value} {x y : Int64} (cx : Cx G X own cc nL n) (hdg : decode cc pc = .ok (.ladd, 1)) (k : WW G X nL σ lv (pc + 1) (.long (x + y) :: st)) : WW G X nL σ lv pc (.long y :: .long x :: st) := by
  obtain ⟨p, e, R, s, m, args, below, meth, c, Q, A, ck, sk⟩ := X
  obtain ⟨hx, hb, hml, hown, hts, hG, hA, hck, hlv⟩ := cx
  intro H locs ls hl hP hS
  exact lv_ladd hx hb hdg (k H locs ls hl hP hS)

theorem ww_lsub {G : GT} {X : CT} {own : String} {cc : ByteArray} {nL n : Nat} {σ : St} {lv : List (Nat × Value)} {pc : Nat} {st : List Value} {x y : Int64} (cx : Cx G X own cc nL n) (hdg : decode cc pc = .ok (.lsub, 1)) (k : WW G X nL σ lv (pc + 1) (.long (x - y) :: st)) : WW G X nL σ lv pc (.long y :: .long x :: st) := by
  obtain ⟨p, e, R, s, m, args, below, meth, c, Q, A, ck, sk⟩ := X
  obtain ⟨hx, hb, hml, hown, hts, hG, hA, hck, hlv⟩ := cx
  intro H locs ls hl hP hS
  exact lv_lsub hx hb hdg (k H locs ls hl hP hS)

theorem ww_lmul {G : GT} {X : CT} {own : String} {cc : ByteArray} {nL n : Nat} {σ : St} {lv : List (Nat × Value)} {pc : Nat} {st : List Value} {x y : Int64} (cx : Cx G X own cc nL n) (hdg : decode cc pc = .ok (.lmul, 1)) (k : WW G X nL σ lv (pc + 1) (.long (x * y) :: st)) : WW G X nL σ lv pc (.long y :: .long x :: st) := by
  obtain ⟨p, e, R, s, m, args, below, meth, c, Q, A, ck, sk⟩ := X
  obtain ⟨hx, hb, hml, hown, hts, hG, hA, hck, hlv⟩ := cx
  intro H locs ls hl hP hS
  exact lv_lmul hx hb hdg (k H locs ls hl hP hS)

theorem ww_land {G : GT} {X : CT} {own : String} {cc : ByteArray} {nL n : Nat} {σ : St} {lv : List (Nat × Value)} {pc : Nat} {st : List Value} {x y : Int64} (cx : Cx G X own cc nL n) (hdg : decode cc pc = .ok (.land, 1)) (k : WW G X nL σ lv (pc + 1) (.long (x &&& y) :: st)) : WW G X nL σ lv pc (.long y :: .long x :: st) := by
  obtain ⟨p, e, R, s, m, args, below, meth, c, Q, A, ck, sk⟩ := X
  obtain ⟨hx, hb, hml, hown, hts, hG, hA, hck, hlv⟩ := cx
  intro H locs ls hl hP hS
  exact lv_land hx hb hdg (k H locs ls hl hP hS)

theorem ww_lor {G : GT} {X : CT} {own : String} {cc : ByteArray} {nL n : Nat} {σ : St} {lv : List (Nat × Value)} {pc : Nat} {st : List Value} {x y : Int64} (cx : Cx G X own cc nL n) (hdg : decode cc pc = .ok (.lor, 1)) (k : WW G X nL σ lv (pc + 1) (.long (x ||| y) :: st)) : WW G X nL σ lv pc (.long y :: .long x :: st) := by
  obtain ⟨p, e, R, s, m, args, below, meth, c, Q, A, ck, sk⟩ := X
  obtain ⟨hx, hb, hml, hown, hts, hG, hA, hck, hlv⟩ := cx
  intro H locs ls hl hP hS
  exact lv_lor hx hb hdg (k H locs ls hl hP hS)

theorem ww_lshl {G : GT} {X : CT} {own : String} {cc : ByteArray} {nL n : Nat} {σ : St} {lv : List (Nat × Value)} {pc : Nat} {st : List Value} {x : Int64} {y : Int32} (cx : Cx G X own cc nL n) (hdg : decode cc pc = .ok (.lshl, 1)) (k : WW G X nL σ lv (pc + 1) (.long (x <<< (y.toInt64 &&& 63)) :: st)) : WW G X nL σ lv pc (.int y :: .long x :: st) := by
  obtain ⟨p, e, R, s, m, args, below, meth, c, Q, A, ck, sk⟩ := X
  obtain ⟨hx, hb, hml, hown, hts, hG, hA, hck, hlv⟩ := cx
  intro H locs ls hl hP hS
  exact lv_lshl hx hb hdg rfl (k H locs ls hl hP hS)

theorem ww_lshr {G : GT} {X : CT} {own : String} {cc : ByteArray} {nL n : Nat} {σ : St} {lv : List (Nat × Value)} {pc : Nat} {st : List Value} {x : Int64} {y : Int32} (cx : Cx G X own cc nL n) (hdg : decode cc pc = .ok (.lshr, 1)) (k : WW G X nL σ lv (pc + 1) (.long (x >>> (y.toInt64 &&& 63)) :: st)) : WW G X nL σ lv pc (.int y :: .long x :: st) := by
  obtain ⟨p, e, R, s, m, args, below, meth, c, Q, A, ck, sk⟩ := X
  obtain ⟨hx, hb, hml, hown, hts, hG, hA, hck, hlv⟩ := cx
  intro H locs ls hl hP hS
  exact lv_lshr hx hb hdg rfl (k H locs ls hl hP hS)

theorem ww_i2l {G : GT} {X : CT} {own : String} {cc : ByteArray} {nL n : Nat} {σ : St} {lv : List (Nat × Value)} {pc : Nat} {st : List Value} {x : Int32} (cx : Cx G X own cc nL n) (hdg : decode cc pc = .ok (.i2l, 1)) (k : WW G X nL σ lv (pc + 1) (.long (x.toInt64) :: st)) : WW G X nL σ lv pc (.int x :: st) := by
  obtain ⟨p, e, R, s, m, args, below, meth, c, Q, A, ck, sk⟩ := X
  obtain ⟨hx, hb, hml, hown, hts, hG, hA, hck, hlv⟩ := cx
  intro H locs ls hl hP hS
  exact lv_i2l hx hb hdg rfl (k H locs ls hl hP hS)

theorem ww_l2i {G : GT} {X : CT} {own : String} {cc : ByteArray} {nL n : Nat} {σ : St} {lv : List (Nat × Value)} {pc : Nat} {st : List Value} {x : Int64} (cx : Cx G X own cc nL n) (hdg : decode cc pc = .ok (.l2i, 1)) (k : WW G X nL σ lv (pc + 1) (.int (x.toInt32) :: st)) : WW G X nL σ lv pc (.long x :: st) := by
  obtain ⟨p, e, R, s, m, args, below, meth, c, Q, A, ck, sk⟩ := X
  obtain ⟨hx, hb, hml, hown, hts, hG, hA, hck, hlv⟩ := cx
  intro H locs ls hl hP hS
  exact lv_l2i hx hb hdg rfl (k H locs ls hl hP hS)

theorem ww_i2b {G : GT} {X : CT} {own : String} {cc : ByteArray} {nL n : Nat} {σ : St} {lv : List (Nat × Value)} {pc : Nat} {st : List Value} {x : Int32} (cx : Cx G X own cc nL n) (hdg : decode cc pc = .ok (.i2b, 1)) (k : WW G X nL σ lv (pc + 1) (.int (x.toInt8.toInt32) :: st)) : WW G X nL σ lv pc (.int x :: st) := by
  obtain ⟨p, e, R, s, m, args, below, meth, c, Q, A, ck, sk⟩ := X
  obtain ⟨hx, hb, hml, hown, hts, hG, hA, hck, hlv⟩ := cx
  intro H locs ls hl hP hS
  exact lv_i2b hx hb hdg rfl (k H locs ls hl hP hS)

theorem ww_i2s {G : GT} {X : CT} {own : String} {cc : ByteArray} {nL n : Nat} {σ : St} {lv : List (Nat × Value)} {pc : Nat} {st : List Value} {x : Int32} (cx : Cx G X own cc nL n) (hdg : decode cc pc = .ok (.i2s, 1)) (k : WW G X nL σ lv (pc + 1) (.int (x.toInt16.toInt32) :: st)) : WW G X nL σ lv pc (.int x :: st) := by
  obtain ⟨p, e, R, s, m, args, below, meth, c, Q, A, ck, sk⟩ := X
  obtain ⟨hx, hb, hml, hown, hts, hG, hA, hck, hlv⟩ := cx
  intro H locs ls hl hP hS
  exact lv_i2s hx hb hdg rfl (k H locs ls hl hP hS)

theorem ww_i2c {G : GT} {X : CT} {own : String} {cc : ByteArray} {nL n : Nat} {σ : St} {lv : List (Nat × Value)} {pc : Nat} {st : List Value} {x : Int32} (cx : Cx G X own cc nL n) (hdg : decode cc pc = .ok (.i2c, 1)) (k : WW G X nL σ lv (pc + 1) (.int ((x.toUInt32 % 65536).toInt32) :: st)) : WW G X nL σ lv pc (.int x :: st) := by
  obtain ⟨p, e, R, s, m, args, below, meth, c, Q, A, ck, sk⟩ := X
  obtain ⟨hx, hb, hml, hown, hts, hG, hA, hck, hlv⟩ := cx
  intro H locs ls hl hP hS
  exact lv_i2c hx hb hdg rfl (k H locs ls hl hP hS)

theorem ww_idiv {G : GT} {X : CT} {own : String} {cc : ByteArray} {nL n : Nat} {σ : St} {lv : List (Nat × Value)} {pc : Nat} {st : List Value} {x y : Int32} {β : Type} {F : Option β} {o : β} (cx : Cx G X own cc nL n) (hdg : decode cc pc = .ok (.idiv, 1)) (hF : gd (¬ y = 0) F = some o) (k : F = some o → WW G X nL σ lv (pc + 1) (.int (x / y) :: st)) : WW G X nL σ lv pc (.int y :: .int x :: st) := by
  obtain ⟨p, e, R, s, m, args, below, meth, c, Q, A, ck, sk⟩ := X
  obtain ⟨hx, hb, hml, hown, hts, hG, hA, hck, hlv⟩ := cx
  intro H locs ls hl hP hS
  exact lv_idiv hx hb hdg (gd_some hF).1 (k (gd_some hF).2 H locs ls hl hP hS)

theorem ww_irem {G : GT} {X : CT} {own : String} {cc : ByteArray} {nL n : Nat} {σ : St} {lv : List (Nat × Value)} {pc : Nat} {st : List Value} {x y : Int32} {β : Type} {F : Option β} {o : β} (cx : Cx G X own cc nL n) (hdg : decode cc pc = .ok (.irem, 1)) (hF : gd (¬ y = 0) F = some o) (k : F = some o → WW G X nL σ lv (pc + 1) (.int (x - x / y * y) :: st)) : WW G X nL σ lv pc (.int y :: .int x :: st) := by
  obtain ⟨p, e, R, s, m, args, below, meth, c, Q, A, ck, sk⟩ := X
  obtain ⟨hx, hb, hml, hown, hts, hG, hA, hck, hlv⟩ := cx
  intro H locs ls hl hP hS
  exact lv_irem hx hb hdg (gd_some hF).1 (k (gd_some hF).2 H locs ls hl hP hS)

theorem ww_ldiv {G : GT} {X : CT} {own : String} {cc : ByteArray} {nL n : Nat} {σ : St} {lv : List (Nat × Value)} {pc : Nat} {st : List Value} {x y : Int64} {β : Type} {F : Option β} {o : β} (cx : Cx G X own cc nL n) (hdg : decode cc pc = .ok (.ldiv, 1)) (hF : gd (¬ y = 0) F = some o) (k : F = some o → WW G X nL σ lv (pc + 1) (.long (x / y) :: st)) : WW G X nL σ lv pc (.long y :: .long x :: st) := by
  obtain ⟨p, e, R, s, m, args, below, meth, c, Q, A, ck, sk⟩ := X
  obtain ⟨hx, hb, hml, hown, hts, hG, hA, hck, hlv⟩ := cx
  intro H locs ls hl hP hS
  exact lv_ldiv hx hb hdg (gd_some hF).1 (k (gd_some hF).2 H locs ls hl hP hS)

theorem ww_lrem {G : GT} {X : CT} {own : String} {cc : ByteArray} {nL n : Nat} {σ : St} {lv : List (Nat × Value)} {pc : Nat} {st : List Value} {x y : Int64} {β : Type} {F : Option β} {o : β} (cx : Cx G X own cc nL n) (hdg : decode cc pc = .ok (.lrem, 1)) (hF : gd (¬ y = 0) F = some o) (k : F = some o → WW G X nL σ lv (pc + 1) (.long (x - x / y * y) :: st)) : WW G X nL σ lv pc (.long y :: .long x :: st) := by
  obtain ⟨p, e, R, s, m, args, below, meth, c, Q, A, ck, sk⟩ := X
  obtain ⟨hx, hb, hml, hown, hts, hG, hA, hck, hlv⟩ := cx
  intro H locs ls hl hP hS
  exact lv_lrem hx hb hdg (gd_some hF).1 (k (gd_some hF).2 H locs ls hl hP hS)

theorem ww_dup {G : GT} {X : CT} {own : String} {cc : ByteArray} {nL n : Nat} {σ : St} {lv : List (Nat × Value)} {pc : Nat} {st : List Value} {va : Value} (cx : Cx G X own cc nL n) (hdg : decode cc pc = .ok (.dup, 1)) (h1 : va.category = 1) (k : WW G X nL σ lv (pc + 1) (va :: va :: st)) : WW G X nL σ lv pc (va :: st) := by
  obtain ⟨p, e, R, s, m, args, below, meth, c, Q, A, ck, sk⟩ := X
  obtain ⟨hx, hb, hml, hown, hts, hG, hA, hck, hlv⟩ := cx
  intro H locs ls hl hP hS
  exact lv_dup hx hb hdg h1 (k H locs ls hl hP hS)

theorem ww_pop {G : GT} {X : CT} {own : String} {cc : ByteArray} {nL n : Nat} {σ : St} {lv : List (Nat × Value)} {pc : Nat} {st : List Value} {va : Value} (cx : Cx G X own cc nL n) (hdg : decode cc pc = .ok (.pop, 1)) (h1 : va.category = 1) (k : WW G X nL σ lv (pc + 1) (st)) : WW G X nL σ lv pc (va :: st) := by
  obtain ⟨p, e, R, s, m, args, below, meth, c, Q, A, ck, sk⟩ := X
  obtain ⟨hx, hb, hml, hown, hts, hG, hA, hck, hlv⟩ := cx
  intro H locs ls hl hP hS
  exact lv_pop hx hb hdg h1 (k H locs ls hl hP hS)

theorem ww_dup_x1 {G : GT} {X : CT} {own : String} {cc : ByteArray} {nL n : Nat} {σ : St} {lv : List (Nat × Value)} {pc : Nat} {st : List Value} {va vb : Value} (cx : Cx G X own cc nL n) (hdg : decode cc pc = .ok (.dup_x1, 1)) (h1 : va.category = 1) (h2 : vb.category = 1) (k : WW G X nL σ lv (pc + 1) (va :: vb :: va :: st)) : WW G X nL σ lv pc (va :: vb :: st) := by
  obtain ⟨p, e, R, s, m, args, below, meth, c, Q, A, ck, sk⟩ := X
  obtain ⟨hx, hb, hml, hown, hts, hG, hA, hck, hlv⟩ := cx
  intro H locs ls hl hP hS
  exact lv_dup_x1 hx hb hdg h1 h2 (k H locs ls hl hP hS)

theorem ww_dup_x2 {G : GT} {X : CT} {own : String} {cc : ByteArray} {nL n : Nat} {σ : St} {lv : List (Nat × Value)} {pc : Nat} {st : List Value} {va vb vd : Value} (cx : Cx G X own cc nL n) (hdg : decode cc pc = .ok (.dup_x2, 1)) (h1 : va.category = 1) (h2 : vb.category = 1) (h3 : vd.category = 1) (k : WW G X nL σ lv (pc + 1) (va :: vb :: vd :: va :: st)) : WW G X nL σ lv pc (va :: vb :: vd :: st) := by
  obtain ⟨p, e, R, s, m, args, below, meth, c, Q, A, ck, sk⟩ := X
  obtain ⟨hx, hb, hml, hown, hts, hG, hA, hck, hlv⟩ := cx
  intro H locs ls hl hP hS
  exact lv_dup_x2 hx hb hdg h1 h2 h3 (k H locs ls hl hP hS)

theorem ww_dup2 {G : GT} {X : CT} {own : String} {cc : ByteArray} {nL n : Nat} {σ : St} {lv : List (Nat × Value)} {pc : Nat} {st : List Value} {va vb : Value} (cx : Cx G X own cc nL n) (hdg : decode cc pc = .ok (.dup2, 1)) (h1 : va.category = 1) (h2 : vb.category = 1) (k : WW G X nL σ lv (pc + 1) (va :: vb :: va :: vb :: st)) : WW G X nL σ lv pc (va :: vb :: st) := by
  obtain ⟨p, e, R, s, m, args, below, meth, c, Q, A, ck, sk⟩ := X
  obtain ⟨hx, hb, hml, hown, hts, hG, hA, hck, hlv⟩ := cx
  intro H locs ls hl hP hS
  exact lv_dup2_11 hx hb hdg h1 h2 (k H locs ls hl hP hS)

theorem ww_iload_n {G : GT} {X : CT} {own : String} {cc : ByteArray} {nL n : Nat} {σ : St} {lv : List (Nat × Value)} {pc : Nat} {st : List Value} {z : Fin 4} {i : Nat} {x : Int32} (cx : Cx G X own cc nL n) (hdg : decode cc pc = .ok (.iload_n z, 1)) (hi : (z : Nat) = i) (j : Nat) (hj : lv[j]? = some (i, .int x)) (k : WW G X nL σ lv (pc + 1) (.int x :: st)) : WW G X nL σ lv pc st := by
  obtain ⟨p, e, R, s, m, args, below, meth, c, Q, A, ck, sk⟩ := X
  obtain ⟨hx, hb, hml, hown, hts, hG, hA, hck, hlv⟩ := cx
  intro H locs ls hl hP hS
  exact lv_iload_n hx hb hdg hi (lv_at hl j hj) (k H locs ls hl hP hS)

theorem ww_iload {G : GT} {X : CT} {own : String} {cc : ByteArray} {nL n : Nat} {σ : St} {lv : List (Nat × Value)} {pc : Nat} {st : List Value} {i : Nat} {x : Int32} (cx : Cx G X own cc nL n) (hdg : decode cc pc = .ok (.iload i, 2)) (j : Nat) (hj : lv[j]? = some (i, .int x)) (k : WW G X nL σ lv (pc + 2) (.int x :: st)) : WW G X nL σ lv pc st := by
  obtain ⟨p, e, R, s, m, args, below, meth, c, Q, A, ck, sk⟩ := X
  obtain ⟨hx, hb, hml, hown, hts, hG, hA, hck, hlv⟩ := cx
  intro H locs ls hl hP hS
  exact lv_iload hx hb hdg (lv_at hl j hj) (k H locs ls hl hP hS)

theorem ww_lload_n {G : GT} {X : CT} {own : String} {cc : ByteArray} {nL n : Nat} {σ : St} {lv : List (Nat × Value)} {pc : Nat} {st : List Value} {z : Fin 4} {i : Nat} {x : Int64} (cx : Cx G X own cc nL n) (hdg : decode cc pc = .ok (.lload_n z, 1)) (hi : (z : Nat) = i) (j : Nat) (hj : lv[j]? = some (i, .long x)) (k : WW G X nL σ lv (pc + 1) (.long x :: st)) : WW G X nL σ lv pc st := by
  obtain ⟨p, e, R, s, m, args, below, meth, c, Q, A, ck, sk⟩ := X
  obtain ⟨hx, hb, hml, hown, hts, hG, hA, hck, hlv⟩ := cx
  intro H locs ls hl hP hS
  exact lv_lload_n hx hb hdg hi (lv_at hl j hj) (k H locs ls hl hP hS)

theorem ww_lload {G : GT} {X : CT} {own : String} {cc : ByteArray} {nL n : Nat} {σ : St} {lv : List (Nat × Value)} {pc : Nat} {st : List Value} {i : Nat} {x : Int64} (cx : Cx G X own cc nL n) (hdg : decode cc pc = .ok (.lload i, 2)) (j : Nat) (hj : lv[j]? = some (i, .long x)) (k : WW G X nL σ lv (pc + 2) (.long x :: st)) : WW G X nL σ lv pc st := by
  obtain ⟨p, e, R, s, m, args, below, meth, c, Q, A, ck, sk⟩ := X
  obtain ⟨hx, hb, hml, hown, hts, hG, hA, hck, hlv⟩ := cx
  intro H locs ls hl hP hS
  exact lv_lload hx hb hdg (lv_at hl j hj) (k H locs ls hl hP hS)

theorem ww_aload_n {G : GT} {X : CT} {own : String} {cc : ByteArray} {nL n : Nat} {σ : St} {lv : List (Nat × Value)} {pc : Nat} {st : List Value} {z : Fin 4} {i : Nat} {x : Nat} (cx : Cx G X own cc nL n) (hdg : decode cc pc = .ok (.aload_n z, 1)) (hi : (z : Nat) = i) (j : Nat) (hj : lv[j]? = some (i, .ref x)) (k : WW G X nL σ lv (pc + 1) (.ref x :: st)) : WW G X nL σ lv pc st := by
  obtain ⟨p, e, R, s, m, args, below, meth, c, Q, A, ck, sk⟩ := X
  obtain ⟨hx, hb, hml, hown, hts, hG, hA, hck, hlv⟩ := cx
  intro H locs ls hl hP hS
  exact lv_aload_n hx hb hdg hi (lv_at hl j hj) (k H locs ls hl hP hS)

theorem ww_aload {G : GT} {X : CT} {own : String} {cc : ByteArray} {nL n : Nat} {σ : St} {lv : List (Nat × Value)} {pc : Nat} {st : List Value} {i : Nat} {x : Nat} (cx : Cx G X own cc nL n) (hdg : decode cc pc = .ok (.aload i, 2)) (j : Nat) (hj : lv[j]? = some (i, .ref x)) (k : WW G X nL σ lv (pc + 2) (.ref x :: st)) : WW G X nL σ lv pc st := by
  obtain ⟨p, e, R, s, m, args, below, meth, c, Q, A, ck, sk⟩ := X
  obtain ⟨hx, hb, hml, hown, hts, hG, hA, hck, hlv⟩ := cx
  intro H locs ls hl hP hS
  exact lv_aload hx hb hdg (lv_at hl j hj) (k H locs ls hl hP hS)

theorem ww_istore_n {G : GT} {X : CT} {own : String} {cc : ByteArray} {nL n : Nat} {σ : St} {lv : List (Nat × Value)} {pc : Nat} {st : List Value} {z : Fin 4} {i : Nat} {x : Int32} {ks : List Nat} {lv' : Int32 → List (Nat × Value)} {β : Type} {F : Int32 → Option β} {o : β} (cx : Cx G X own cc nL n) (hdg : decode cc pc = .ok (.istore_n z, 1)) (hi : (z : Nat) = i) (hn : i < nL) (hF : lt x F = some o) (hlv : ∀ v : Int32, lv_pick ((i, .int v) :: lv.filter (fun q => !(q.1 == i) && !(q.1 + 1 == i && q.2.category == 2))) ks = lv' v) (k : ∀ v : Int32, F v = some o → WW G X nL σ (lv' v) (pc + 1) st) : WW G X nL σ lv pc (.int x :: st) := by
  obtain ⟨p, e, R, s, m, args, below, meth, c, Q, A, ck, sk⟩ := X
  obtain ⟨hx, hb, hml, hown, hts, hG, hA, hck, hlm⟩ := cx
  intro H locs ls hl hP hS
  exact lv_istore_n hx hb hdg hi hl hn rfl (fun ls2 hl2 => k x hF H locs ls2 (lv_sub hl2 ks (hlv x)) hP hS)

theorem ww_istore {G : GT} {X : CT} {own : String} {cc : ByteArray} {nL n : Nat} {σ : St} {lv : List (Nat × Value)} {pc : Nat} {st : List Value} {i : Nat} {x : Int32} {ks : List Nat} {lv' : Int32 → List (Nat × Value)} {β : Type} {F : Int32 → Option β} {o : β} (cx : Cx G X own cc nL n) (hdg : decode cc pc = .ok (.istore i, 2)) (hn : i < nL) (hF : lt x F = some o) (hlv : ∀ v : Int32, lv_pick ((i, .int v) :: lv.filter (fun q => !(q.1 == i) && !(q.1 + 1 == i && q.2.category == 2))) ks = lv' v) (k : ∀ v : Int32, F v = some o → WW G X nL σ (lv' v) (pc + 2) st) : WW G X nL σ lv pc (.int x :: st) := by
  obtain ⟨p, e, R, s, m, args, below, meth, c, Q, A, ck, sk⟩ := X
  obtain ⟨hx, hb, hml, hown, hts, hG, hA, hck, hlm⟩ := cx
  intro H locs ls hl hP hS
  exact lv_istore hx hb hdg hl hn rfl (fun ls2 hl2 => k x hF H locs ls2 (lv_sub hl2 ks (hlv x)) hP hS)

theorem ww_lstore_n {G : GT} {X : CT} {own : String} {cc : ByteArray} {nL n : Nat} {σ : St} {lv : List (Nat × Value)} {pc : Nat} {st : List Value} {z : Fin 4} {i : Nat} {x : Int64} {ks : List Nat} {lv' : Int64 → List (Nat × Value)} {β : Type} {F : Int64 → Option β} {o : β} (cx : Cx G X own cc nL n) (hdg : decode cc pc = .ok (.lstore_n z, 1)) (hi : (z : Nat) = i) (hn : i + 1 < nL) (hF : lt x F = some o) (hlv : ∀ v : Int64, lv_pick ((i, .long v) :: lv.filter (fun q => !(q.1 == i) && (!(q.1 == i + 1) && !(q.1 + 1 == i && q.2.category == 2)))) ks = lv' v) (k : ∀ v : Int64, F v = some o → WW G X nL σ (lv' v) (pc + 1) st) : WW G X nL σ lv pc (.long x :: st) := by
  obtain ⟨p, e, R, s, m, args, below, meth, c, Q, A, ck, sk⟩ := X
  obtain ⟨hx, hb, hml, hown, hts, hG, hA, hck, hlm⟩ := cx
  intro H locs ls hl hP hS
  exact lv_lstore_n hx hb hdg hi hl hn rfl (fun ls2 hl2 => k x hF H locs ls2 (lv_sub hl2 ks (hlv x)) hP hS)

theorem ww_lstore {G : GT} {X : CT} {own : String} {cc : ByteArray} {nL n : Nat} {σ : St} {lv : List (Nat × Value)} {pc : Nat} {st : List Value} {i : Nat} {x : Int64} {ks : List Nat} {lv' : Int64 → List (Nat × Value)} {β : Type} {F : Int64 → Option β} {o : β} (cx : Cx G X own cc nL n) (hdg : decode cc pc = .ok (.lstore i, 2)) (hn : i + 1 < nL) (hF : lt x F = some o) (hlv : ∀ v : Int64, lv_pick ((i, .long v) :: lv.filter (fun q => !(q.1 == i) && (!(q.1 == i + 1) && !(q.1 + 1 == i && q.2.category == 2)))) ks = lv' v) (k : ∀ v : Int64, F v = some o → WW G X nL σ (lv' v) (pc + 2) st) : WW G X nL σ lv pc (.long x :: st) := by
  obtain ⟨p, e, R, s, m, args, below, meth, c, Q, A, ck, sk⟩ := X
  obtain ⟨hx, hb, hml, hown, hts, hG, hA, hck, hlm⟩ := cx
  intro H locs ls hl hP hS
  exact lv_lstore hx hb hdg hl hn rfl (fun ls2 hl2 => k x hF H locs ls2 (lv_sub hl2 ks (hlv x)) hP hS)

theorem ww_astore_n {G : GT} {X : CT} {own : String} {cc : ByteArray} {nL n : Nat} {σ : St} {lv : List (Nat × Value)} {pc : Nat} {st : List Value} {z : Fin 4} {i x : Nat} {ks : List Nat} {lv' : List (Nat × Value)} (cx : Cx G X own cc nL n) (hdg : decode cc pc = .ok (.astore_n z, 1)) (hi : (z : Nat) = i) (hn : i < nL) (hlv : lv_pick ((i, .ref x) :: lv.filter (fun q => !(q.1 == i) && !(q.1 + 1 == i && q.2.category == 2))) ks = lv') (k : WW G X nL σ lv' (pc + 1) st) : WW G X nL σ lv pc (.ref x :: st) := by
  obtain ⟨p, e, R, s, m, args, below, meth, c, Q, A, ck, sk⟩ := X
  obtain ⟨hx, hb, hml, hown, hts, hG, hA, hck, hlm⟩ := cx
  intro H locs ls hl hP hS
  exact lv_astore_n hx hb hdg hi hl hn rfl (fun ls2 hl2 => k H locs ls2 (lv_sub hl2 ks hlv) hP hS)

theorem ww_astore {G : GT} {X : CT} {own : String} {cc : ByteArray} {nL n : Nat} {σ : St} {lv : List (Nat × Value)} {pc : Nat} {st : List Value} {i x : Nat} {ks : List Nat} {lv' : List (Nat × Value)} (cx : Cx G X own cc nL n) (hdg : decode cc pc = .ok (.astore i, 2)) (hn : i < nL) (hlv : lv_pick ((i, .ref x) :: lv.filter (fun q => !(q.1 == i) && !(q.1 + 1 == i && q.2.category == 2))) ks = lv') (k : WW G X nL σ lv' (pc + 2) st) : WW G X nL σ lv pc (.ref x :: st) := by
  obtain ⟨p, e, R, s, m, args, below, meth, c, Q, A, ck, sk⟩ := X
  obtain ⟨hx, hb, hml, hown, hts, hG, hA, hck, hlm⟩ := cx
  intro H locs ls hl hP hS
  exact lv_astore hx hb hdg hl hn rfl (fun ls2 hl2 => k H locs ls2 (lv_sub hl2 ks hlv) hP hS)

theorem ww_iinc {G : GT} {X : CT} {own : String} {cc : ByteArray} {nL n : Nat} {σ : St} {lv : List (Nat × Value)} {pc : Nat} {st : List Value} {i j : Nat} {z : Int} {x w : Int32} {ks : List Nat} {lv' : Int32 → List (Nat × Value)} {β : Type} {F : Int32 → Option β} {o : β} (cx : Cx G X own cc nL n) (hdg : decode cc pc = .ok (.iinc i z, 3)) (hn : i < nL) (hj : lv[j]? = some (i, .int x)) (hw : Int32.ofInt z = w) (hF : lt (x + w) F = some o) (hlv : ∀ v : Int32, lv_pick ((i, .int v) :: lv.filter (fun q => !(q.1 == i) && !(q.1 + 1 == i && q.2.category == 2))) ks = lv' v) (k : ∀ v : Int32, F v = some o → WW G X nL σ (lv' v) (pc + 3) st) : WW G X nL σ lv pc st := by
  obtain ⟨p, e, R, s, m, args, below, meth, c, Q, A, ck, sk⟩ := X
  obtain ⟨hx, hb, hml, hown, hts, hG, hA, hck, hlm⟩ := cx
  intro H locs ls hl hP hS
  exact lv_iinc (v := x + w) hx hb hdg hl hj (by rw [hw]) hn rfl (fun ls2 hl2 => k (x + w) hF H locs ls2 (lv_sub hl2 ks (hlv (x + w))) hP hS)

theorem ww_sub {G : GT} {X : CT} {nL : Nat} {σ : St} {lv : List (Nat × Value)} {pc : Nat} {st : List Value} {lv' : List (Nat × Value)} (ks : List Nat) (hlv : lv_pick lv ks = lv') (k : WW G X nL σ lv' pc st) : WW G X nL σ lv pc st := by
  obtain ⟨p, e, R, s, m, args, below, meth, c, Q, A, ck, sk⟩ := X
  intro H locs ls hl hP hS
  exact k H locs ls (lv_sub hl ks hlv) hP hS

theorem ww_if_eq {G : GT} {X : CT} {own : String} {cc : ByteArray} {nL n : Nat} {σ : St} {lv : List (Nat × Value)} {pc : Nat} {st : List Value} {x : Int32} {off : Int} {tgt : Nat} {β : Type} {dd : Decidable (x = 0)} {a b : Option β} {o : β} (cx : Cx G X own cc nL n) (hdg : decode cc pc = .ok (.ifCond .eq off, 3)) (ht : (pc : Int) + off = (tgt : Int)) (hF : @ite _ (x = 0) dd a b = some o) (kt : a = some o → WW G X nL σ lv tgt st) (kf : b = some o → WW G X nL σ lv (pc + 3) st) : WW G X nL σ lv pc (.int x :: st) := by
  obtain ⟨p, e, R, s, m, args, below, meth, c, Q, A, ck, sk⟩ := X
  obtain ⟨hx, hb, hml, hown, hts, hG, hA, hck, hlv⟩ := cx
  intro H locs ls hl hP hS
  exact lv_if_eq hx hb hdg ht (fun h => kt (it_t h hF) H locs ls hl hP hS) (fun h => kf (it_f h hF) H locs ls hl hP hS)

theorem ww_if_ne {G : GT} {X : CT} {own : String} {cc : ByteArray} {nL n : Nat} {σ : St} {lv : List (Nat × Value)} {pc : Nat} {st : List Value} {x : Int32} {off : Int} {tgt : Nat} {β : Type} {dd : Decidable (x = 0)} {a b : Option β} {o : β} (cx : Cx G X own cc nL n) (hdg : decode cc pc = .ok (.ifCond .ne off, 3)) (ht : (pc : Int) + off = (tgt : Int)) (hF : @ite _ (x = 0) dd a b = some o) (kt : b = some o → WW G X nL σ lv tgt st) (kf : a = some o → WW G X nL σ lv (pc + 3) st) : WW G X nL σ lv pc (.int x :: st) := by
  obtain ⟨p, e, R, s, m, args, below, meth, c, Q, A, ck, sk⟩ := X
  obtain ⟨hx, hb, hml, hown, hts, hG, hA, hck, hlv⟩ := cx
  intro H locs ls hl hP hS
  exact lv_if_ne hx hb hdg ht (fun h => kt (it_f h hF) H locs ls hl hP hS) (fun h => kf (it_t h hF) H locs ls hl hP hS)

theorem ww_if_lt {G : GT} {X : CT} {own : String} {cc : ByteArray} {nL n : Nat} {σ : St} {lv : List (Nat × Value)} {pc : Nat} {st : List Value} {x : Int32} {off : Int} {tgt : Nat} {β : Type} {dd : Decidable (x < 0)} {a b : Option β} {o : β} (cx : Cx G X own cc nL n) (hdg : decode cc pc = .ok (.ifCond .lt off, 3)) (ht : (pc : Int) + off = (tgt : Int)) (hF : @ite _ (x < 0) dd a b = some o) (kt : a = some o → WW G X nL σ lv tgt st) (kf : b = some o → WW G X nL σ lv (pc + 3) st) : WW G X nL σ lv pc (.int x :: st) := by
  obtain ⟨p, e, R, s, m, args, below, meth, c, Q, A, ck, sk⟩ := X
  obtain ⟨hx, hb, hml, hown, hts, hG, hA, hck, hlv⟩ := cx
  intro H locs ls hl hP hS
  exact lv_if_lt hx hb hdg ht (fun h => kt (it_t h hF) H locs ls hl hP hS) (fun h => kf (it_f h hF) H locs ls hl hP hS)

theorem ww_if_ge {G : GT} {X : CT} {own : String} {cc : ByteArray} {nL n : Nat} {σ : St} {lv : List (Nat × Value)} {pc : Nat} {st : List Value} {x : Int32} {off : Int} {tgt : Nat} {β : Type} {dd : Decidable (0 ≤ x)} {a b : Option β} {o : β} (cx : Cx G X own cc nL n) (hdg : decode cc pc = .ok (.ifCond .ge off, 3)) (ht : (pc : Int) + off = (tgt : Int)) (hF : @ite _ (0 ≤ x) dd a b = some o) (kt : a = some o → WW G X nL σ lv tgt st) (kf : b = some o → WW G X nL σ lv (pc + 3) st) : WW G X nL σ lv pc (.int x :: st) := by
  obtain ⟨p, e, R, s, m, args, below, meth, c, Q, A, ck, sk⟩ := X
  obtain ⟨hx, hb, hml, hown, hts, hG, hA, hck, hlv⟩ := cx
  intro H locs ls hl hP hS
  exact lv_if_ge hx hb hdg ht (fun h => kt (it_t h hF) H locs ls hl hP hS) (fun h => kf (it_f h hF) H locs ls hl hP hS)

theorem ww_if_gt {G : GT} {X : CT} {own : String} {cc : ByteArray} {nL n : Nat} {σ : St} {lv : List (Nat × Value)} {pc : Nat} {st : List Value} {x : Int32} {off : Int} {tgt : Nat} {β : Type} {dd : Decidable (0 < x)} {a b : Option β} {o : β} (cx : Cx G X own cc nL n) (hdg : decode cc pc = .ok (.ifCond .gt off, 3)) (ht : (pc : Int) + off = (tgt : Int)) (hF : @ite _ (0 < x) dd a b = some o) (kt : a = some o → WW G X nL σ lv tgt st) (kf : b = some o → WW G X nL σ lv (pc + 3) st) : WW G X nL σ lv pc (.int x :: st) := by
  obtain ⟨p, e, R, s, m, args, below, meth, c, Q, A, ck, sk⟩ := X
  obtain ⟨hx, hb, hml, hown, hts, hG, hA, hck, hlv⟩ := cx
  intro H locs ls hl hP hS
  exact lv_if_gt hx hb hdg ht (fun h => kt (it_t h hF) H locs ls hl hP hS) (fun h => kf (it_f h hF) H locs ls hl hP hS)

theorem ww_if_le {G : GT} {X : CT} {own : String} {cc : ByteArray} {nL n : Nat} {σ : St} {lv : List (Nat × Value)} {pc : Nat} {st : List Value} {x : Int32} {off : Int} {tgt : Nat} {β : Type} {dd : Decidable (x ≤ 0)} {a b : Option β} {o : β} (cx : Cx G X own cc nL n) (hdg : decode cc pc = .ok (.ifCond .le off, 3)) (ht : (pc : Int) + off = (tgt : Int)) (hF : @ite _ (x ≤ 0) dd a b = some o) (kt : a = some o → WW G X nL σ lv tgt st) (kf : b = some o → WW G X nL σ lv (pc + 3) st) : WW G X nL σ lv pc (.int x :: st) := by
  obtain ⟨p, e, R, s, m, args, below, meth, c, Q, A, ck, sk⟩ := X
  obtain ⟨hx, hb, hml, hown, hts, hG, hA, hck, hlv⟩ := cx
  intro H locs ls hl hP hS
  exact lv_if_le hx hb hdg ht (fun h => kt (it_t h hF) H locs ls hl hP hS) (fun h => kf (it_f h hF) H locs ls hl hP hS)

theorem ww_icmp_eq {G : GT} {X : CT} {own : String} {cc : ByteArray} {nL n : Nat} {σ : St} {lv : List (Nat × Value)} {pc : Nat} {st : List Value} {x y : Int32} {off : Int} {tgt : Nat} {β : Type} {dd : Decidable (x = y)} {a b : Option β} {o : β} (cx : Cx G X own cc nL n) (hdg : decode cc pc = .ok (.if_icmp .eq off, 3)) (ht : (pc : Int) + off = (tgt : Int)) (hF : @ite _ (x = y) dd a b = some o) (kt : a = some o → WW G X nL σ lv tgt st) (kf : b = some o → WW G X nL σ lv (pc + 3) st) : WW G X nL σ lv pc (.int y :: .int x :: st) := by
  obtain ⟨p, e, R, s, m, args, below, meth, c, Q, A, ck, sk⟩ := X
  obtain ⟨hx, hb, hml, hown, hts, hG, hA, hck, hlv⟩ := cx
  intro H locs ls hl hP hS
  exact lv_icmp_eq hx hb hdg ht (fun h => kt (it_t h hF) H locs ls hl hP hS) (fun h => kf (it_f h hF) H locs ls hl hP hS)

theorem ww_icmp_ne {G : GT} {X : CT} {own : String} {cc : ByteArray} {nL n : Nat} {σ : St} {lv : List (Nat × Value)} {pc : Nat} {st : List Value} {x y : Int32} {off : Int} {tgt : Nat} {β : Type} {dd : Decidable (x = y)} {a b : Option β} {o : β} (cx : Cx G X own cc nL n) (hdg : decode cc pc = .ok (.if_icmp .ne off, 3)) (ht : (pc : Int) + off = (tgt : Int)) (hF : @ite _ (x = y) dd a b = some o) (kt : b = some o → WW G X nL σ lv tgt st) (kf : a = some o → WW G X nL σ lv (pc + 3) st) : WW G X nL σ lv pc (.int y :: .int x :: st) := by
  obtain ⟨p, e, R, s, m, args, below, meth, c, Q, A, ck, sk⟩ := X
  obtain ⟨hx, hb, hml, hown, hts, hG, hA, hck, hlv⟩ := cx
  intro H locs ls hl hP hS
  exact lv_icmp_ne hx hb hdg ht (fun h => kt (it_f h hF) H locs ls hl hP hS) (fun h => kf (it_t h hF) H locs ls hl hP hS)

theorem ww_icmp_lt {G : GT} {X : CT} {own : String} {cc : ByteArray} {nL n : Nat} {σ : St} {lv : List (Nat × Value)} {pc : Nat} {st : List Value} {x y : Int32} {off : Int} {tgt : Nat} {β : Type} {dd : Decidable (x < y)} {a b : Option β} {o : β} (cx : Cx G X own cc nL n) (hdg : decode cc pc = .ok (.if_icmp .lt off, 3)) (ht : (pc : Int) + off = (tgt : Int)) (hF : @ite _ (x < y) dd a b = some o) (kt : a = some o → WW G X nL σ lv tgt st) (kf : b = some o → WW G X nL σ lv (pc + 3) st) : WW G X nL σ lv pc (.int y :: .int x :: st) := by
  obtain ⟨p, e, R, s, m, args, below, meth, c, Q, A, ck, sk⟩ := X
  obtain ⟨hx, hb, hml, hown, hts, hG, hA, hck, hlv⟩ := cx
  intro H locs ls hl hP hS
  exact lv_icmp_lt hx hb hdg ht (fun h => kt (it_t h hF) H locs ls hl hP hS) (fun h => kf (it_f h hF) H locs ls hl hP hS)

theorem ww_icmp_ge {G : GT} {X : CT} {own : String} {cc : ByteArray} {nL n : Nat} {σ : St} {lv : List (Nat × Value)} {pc : Nat} {st : List Value} {x y : Int32} {off : Int} {tgt : Nat} {β : Type} {dd : Decidable (y ≤ x)} {a b : Option β} {o : β} (cx : Cx G X own cc nL n) (hdg : decode cc pc = .ok (.if_icmp .ge off, 3)) (ht : (pc : Int) + off = (tgt : Int)) (hF : @ite _ (y ≤ x) dd a b = some o) (kt : a = some o → WW G X nL σ lv tgt st) (kf : b = some o → WW G X nL σ lv (pc + 3) st) : WW G X nL σ lv pc (.int y :: .int x :: st) := by
  obtain ⟨p, e, R, s, m, args, below, meth, c, Q, A, ck, sk⟩ := X
  obtain ⟨hx, hb, hml, hown, hts, hG, hA, hck, hlv⟩ := cx
  intro H locs ls hl hP hS
  exact lv_icmp_ge hx hb hdg ht (fun h => kt (it_t h hF) H locs ls hl hP hS) (fun h => kf (it_f h hF) H locs ls hl hP hS)

theorem ww_icmp_gt {G : GT} {X : CT} {own : String} {cc : ByteArray} {nL n : Nat} {σ : St} {lv : List (Nat × Value)} {pc : Nat} {st : List Value} {x y : Int32} {off : Int} {tgt : Nat} {β : Type} {dd : Decidable (y < x)} {a b : Option β} {o : β} (cx : Cx G X own cc nL n) (hdg : decode cc pc = .ok (.if_icmp .gt off, 3)) (ht : (pc : Int) + off = (tgt : Int)) (hF : @ite _ (y < x) dd a b = some o) (kt : a = some o → WW G X nL σ lv tgt st) (kf : b = some o → WW G X nL σ lv (pc + 3) st) : WW G X nL σ lv pc (.int y :: .int x :: st) := by
  obtain ⟨p, e, R, s, m, args, below, meth, c, Q, A, ck, sk⟩ := X
  obtain ⟨hx, hb, hml, hown, hts, hG, hA, hck, hlv⟩ := cx
  intro H locs ls hl hP hS
  exact lv_icmp_gt hx hb hdg ht (fun h => kt (it_t h hF) H locs ls hl hP hS) (fun h => kf (it_f h hF) H locs ls hl hP hS)

theorem ww_icmp_le {G : GT} {X : CT} {own : String} {cc : ByteArray} {nL n : Nat} {σ : St} {lv : List (Nat × Value)} {pc : Nat} {st : List Value} {x y : Int32} {off : Int} {tgt : Nat} {β : Type} {dd : Decidable (x ≤ y)} {a b : Option β} {o : β} (cx : Cx G X own cc nL n) (hdg : decode cc pc = .ok (.if_icmp .le off, 3)) (ht : (pc : Int) + off = (tgt : Int)) (hF : @ite _ (x ≤ y) dd a b = some o) (kt : a = some o → WW G X nL σ lv tgt st) (kf : b = some o → WW G X nL σ lv (pc + 3) st) : WW G X nL σ lv pc (.int y :: .int x :: st) := by
  obtain ⟨p, e, R, s, m, args, below, meth, c, Q, A, ck, sk⟩ := X
  obtain ⟨hx, hb, hml, hown, hts, hG, hA, hck, hlv⟩ := cx
  intro H locs ls hl hP hS
  exact lv_icmp_le hx hb hdg ht (fun h => kt (it_t h hF) H locs ls hl hP hS) (fun h => kf (it_f h hF) H locs ls hl hP hS)

theorem ww_goto {G : GT} {X : CT} {own : String} {cc : ByteArray} {nL n : Nat} {σ : St} {lv : List (Nat × Value)} {pc : Nat} {st : List Value} {off : Int} {tgt : Nat} (cx : Cx G X own cc nL n) (hdg : decode cc pc = .ok (.goto off, 3)) (ht : (pc : Int) + off = (tgt : Int)) (k : WW G X nL σ lv tgt st) : WW G X nL σ lv pc st := by
  obtain ⟨p, e, R, s, m, args, below, meth, c, Q, A, ck, sk⟩ := X
  obtain ⟨hx, hb, hml, hown, hts, hG, hA, hck, hlv⟩ := cx
  intro H locs ls hl hP hS
  exact lv_goto hx hb hdg ht (k H locs ls hl hP hS)

theorem ww_get {G : GT} {X : CT} {own : String} {cc : ByteArray} {nL n : Nat} {σ : St} {lv : List (Nat × Value)} {pc : Nat} {st : List Value} {t j ci index : Nat} {fs : List (Option Nat)} {f : Option Nat} {C : String} {T : u_T} {N : Nat} (hc : clz[ci]? = some (C, T, N)) (hin : ∀ w ∈ u_ws C T N, w ∈ TBL) (hj : j < N) (hlink : Cond.fieldLink own index (T j).1 (T j).2.1 (T j).2.2.1 ∈ TBL) (cx : Cx G X own cc nL n) (hs : shp[t]? = some (.inr (.inl (ci, fs)))) (hf : fs[j]? = some f) (hdg : decode cc pc = .ok (.getfield index, 3)) (k : WW G X nL σ lv (pc + 3) (fld G σ t j f :: st)) : WW G X nL σ lv pc (.ref (gad G t) :: st) := by
  obtain ⟨p, e, R, s, m, args, below, meth, c, Q, A, ck, sk⟩ := X
  obtain ⟨hx, hb, hml, hown, hts, hG, hA, hck, hlv⟩ := cx
  intro H locs ls hl hP hS
  exact va_get (C := C) (T := T) (N := N) (ref := (T j).1) (fs := fs.mapIdx (fld G σ t)) hx hb hts hin hown hG.1 hP t (wld_at hs) hc j hj (hts _ hlink) (fun _ h => h) (by rw [List.getElem?_mapIdx, hf]; rfl) hdg (k H locs ls hl hP hS)

theorem ww_put {G : GT} {X : CT} {own : String} {cc : ByteArray} {nL n : Nat} {σ : St} {lv : List (Nat × Value)} {pc : Nat} {st : List Value} {t j ci index : Nat} {fs : List (Option Nat)} {C : String} {T : u_T} {N : Nat} {x : Int32} {β : Type} {F : St → Option β} {o : β} (hc : clz[ci]? = some (C, T, N)) (hin : ∀ w ∈ u_ws C T N, w ∈ TBL) (ty0 : Nat → FieldType) (hty : ∀ k, k < N → parseFieldDescriptor (T k).2.2.1 = some (ty0 k)) (hnm : ∀ a, a < N → ∀ b, b < N → a ≠ b → (T a).2.1 ≠ (T b).2.1) (hj : j < N) (hlink : Cond.fieldLink own index (T j).1 (T j).2.1 (T j).2.2.1 ∈ TBL) (hfin : (T j).2.2.2 = false) (hd : parseFieldDescriptor (T j).2.2.1 = some .int) (cx : Cx G X own cc nL n) (hs : shp[t]? = some (.inr (.inl (ci, fs)))) (hf : fs[j]? = some none) (hdg : decode cc pc = .ok (.putfield index, 3)) (hF : lt (setI σ t j x) F = some o) (k : ∀ σ1 : St, F σ1 = some o → WW G X nL σ1 lv (pc + 3) st) : WW G X nL σ lv pc (.int x :: .ref (gad G t) :: st) := by
  obtain ⟨p, e, R, s, m, args, below, meth, c, Q, A, ck, sk⟩ := X
  obtain ⟨hx, hb, hml, hown, hts, hG, hA, hck, hlv⟩ := cx
  intro H locs ls hl hP hS
  have lt2 : j < (fs.mapIdx (fld G σ t)).length := by rw [List.length_mapIdx]; exact (List.getElem?_eq_some_iff.mp hf).1
  exact va_put (C := C) (T := T) (N := N) (ref := (T j).1) (fs := fs.mapIdx (fld G σ t)) (ty := .int) hx hb hts hin ty0 hty hnm hown hG.1 hP (hG.2.1 σ) hS t (wld_at hs) hc j hj (hts _ hlink) (fun _ h => h) hfin hd rfl rfl lt2 hdg (fun H1 locs1 hP1 _ hS1 => k _ hF H1 locs1 ls hl (by rw [wld_setF hs hf] at hP1; exact hP1) hS1)
theorem ww_putZ {G : GT} {X : CT} {own : String} {cc : ByteArray} {nL n : Nat} {σ : St} {lv : List (Nat × Value)} {pc : Nat} {st : List Value} {t j ci index : Nat} {fs : List (Option Nat)} {C : String} {T : u_T} {N : Nat} {x : Int32} {β : Type} {F : St → Option β} {o : β} (hc : clz[ci]? = some (C, T, N)) (hin : ∀ w ∈ u_ws C T N, w ∈ TBL) (ty0 : Nat → FieldType) (hty : ∀ k, k < N → parseFieldDescriptor (T k).2.2.1 = some (ty0 k)) (hnm : ∀ a, a < N → ∀ b, b < N → a ≠ b → (T a).2.1 ≠ (T b).2.1) (hj : j < N) (hlink : Cond.fieldLink own index (T j).1 (T j).2.1 (T j).2.2.1 ∈ TBL) (hfin : (T j).2.2.2 = false) (hd : parseFieldDescriptor (T j).2.2.1 = some .boolean) (cx : Cx G X own cc nL n) (hs : shp[t]? = some (.inr (.inl (ci, fs)))) (hf : fs[j]? = some none) (hdg : decode cc pc = .ok (.putfield index, 3)) (hF : gd (x = 0 ∨ x = 1) (lt (setI σ t j x) F) = some o) (k : ∀ σ1 : St, F σ1 = some o → WW G X nL σ1 lv (pc + 3) st) : WW G X nL σ lv pc (.int x :: .ref (gad G t) :: st) := by
  obtain ⟨p, e, R, s, m, args, below, meth, c, Q, A, ck, sk⟩ := X
  obtain ⟨hx, hb, hml, hown, hts, hG, hA, hck, hlv⟩ := cx
  intro H locs ls hl hP hS
  have lt2 : j < (fs.mapIdx (fld G σ t)).length := by rw [List.length_mapIdx]; exact (List.getElem?_eq_some_iff.mp hf).1
  obtain ⟨hz, hF⟩ := gd_some hF
  exact va_put (C := C) (T := T) (N := N) (ref := (T j).1) (fs := fs.mapIdx (fld G σ t)) (ty := .boolean) hx hb hts hin ty0 hty hnm hown hG.1 hP (hG.2.1 σ) hS t (wld_at hs) hc j hj (hts _ hlink) (fun _ h => h) hfin hd (by rcases hz with rfl | rfl <;> rfl) (by rcases hz with rfl | rfl <;> rfl) lt2 hdg (fun H1 locs1 hP1 _ hS1 => k _ hF H1 locs1 ls hl (by rw [wld_setF hs hf] at hP1; exact hP1) hS1)

theorem ww_iald {G : GT} {X : CT} {own : String} {cc : ByteArray} {nL n : Nat} {σ : St} {lv : List (Nat × Value)} {pc : Nat} {st : List Value} {t N : Nat} {i : Int32} {β : Type} {F : Option β} {o : β} (cx : Cx G X own cc nL n) (hs : shp[t]? = some (.inl (0, N))) (hdg : decode cc pc = .ok (.iaload, 1)) (hF : gd (ir i N) F = some o) (k : F = some o → WW G X nL σ lv (pc + 1) (.int (σ.1 t i.toNatClampNeg) :: st)) : WW G X nL σ lv pc (.int i :: .ref (gad G t) :: st) := by
  obtain ⟨p, e, R, s, m, args, below, meth, c, Q, A, ck, sk⟩ := X
  obtain ⟨hx, hb, hml, hown, hts, hG, hA, hck, hlv⟩ := cx
  intro H locs ls hl hP hS
  exact va_iald hx hb hG.1 hP t 0 (cA := gca G 0) (n := N) (f := σ.1 t) (wld_at hs) rfl (vp_in_iff.mpr (gd_some hF).1) hdg (k (gd_some hF).2 H locs ls hl hP hS)

theorem ww_zald {G : GT} {X : CT} {own : String} {cc : ByteArray} {nL n : Nat} {σ : St} {lv : List (Nat × Value)} {pc : Nat} {st : List Value} {t N : Nat} {i : Int32} {β : Type} {F : Option β} {o : β} (cx : Cx G X own cc nL n) (hs : shp[t]? = some (.inl (1, N))) (hdg : decode cc pc = .ok (.baload, 1)) (hF : gd (ir i N) F = some o) (k : F = some o → WW G X nL σ lv (pc + 1) (.int (σ.1 t i.toNatClampNeg) :: st)) : WW G X nL σ lv pc (.int i :: .ref (gad G t) :: st) := by
  obtain ⟨p, e, R, s, m, args, below, meth, c, Q, A, ck, sk⟩ := X
  obtain ⟨hx, hb, hml, hown, hts, hG, hA, hck, hlv⟩ := cx
  intro H locs ls hl hP hS
  exact va_zald hx hb hG.1 hP t 1 (cA := gca G 1) (n := N) (f := σ.1 t) (wld_at hs) rfl (vp_in_iff.mpr (gd_some hF).1) hdg (k (gd_some hF).2 H locs ls hl hP hS)

theorem ww_bald {G : GT} {X : CT} {own : String} {cc : ByteArray} {nL n : Nat} {σ : St} {lv : List (Nat × Value)} {pc : Nat} {st : List Value} {t N : Nat} {i : Int32} {β : Type} {F : Option β} {o : β} (cx : Cx G X own cc nL n) (hs : shp[t]? = some (.inl (2, N))) (hdg : decode cc pc = .ok (.baload, 1)) (hF : gd (ir i N) F = some o) (k : F = some o → WW G X nL σ lv (pc + 1) (.int (σ.1 t i.toNatClampNeg) :: st)) : WW G X nL σ lv pc (.int i :: .ref (gad G t) :: st) := by
  obtain ⟨p, e, R, s, m, args, below, meth, c, Q, A, ck, sk⟩ := X
  obtain ⟨hx, hb, hml, hown, hts, hG, hA, hck, hlv⟩ := cx
  intro H locs ls hl hP hS
  exact va_bald hx hb hG.1 hP t 2 (cA := gca G 2) (n := N) (f := σ.1 t) (wld_at hs) rfl (vp_in_iff.mpr (gd_some hF).1) hdg (k (gd_some hF).2 H locs ls hl hP hS)

theorem ww_lald {G : GT} {X : CT} {own : String} {cc : ByteArray} {nL n : Nat} {σ : St} {lv : List (Nat × Value)} {pc : Nat} {st : List Value} {t N : Nat} {i : Int32} {β : Type} {F : Option β} {o : β} (cx : Cx G X own cc nL n) (hs : shp[t]? = some (.inl (3, N))) (hdg : decode cc pc = .ok (.laload, 1)) (hF : gd (ir i N) F = some o) (k : F = some o → WW G X nL σ lv (pc + 1) (.long (σ.2 t i.toNatClampNeg) :: st)) : WW G X nL σ lv pc (.int i :: .ref (gad G t) :: st) := by
  obtain ⟨p, e, R, s, m, args, below, meth, c, Q, A, ck, sk⟩ := X
  obtain ⟨hx, hb, hml, hown, hts, hG, hA, hck, hlv⟩ := cx
  intro H locs ls hl hP hS
  exact va_lald hx hb hG.1 hP t 3 (cA := gca G 3) (n := N) (f := σ.2 t) (wld_at hs) rfl (vp_in_iff.mpr (gd_some hF).1) hdg (k (gd_some hF).2 H locs ls hl hP hS)
theorem ww_iast {G : GT} {X : CT} {own : String} {cc : ByteArray} {nL n : Nat} {σ : St} {lv : List (Nat × Value)} {pc : Nat} {st : List Value} {t N : Nat} {i x : Int32} {β : Type} {F : St → Option β} {o : β} (cx : Cx G X own cc nL n) (hs : shp[t]? = some (.inl (0, N))) (hdg : decode cc pc = .ok (.iastore, 1)) (hF : gd (ir i N) (lt (setI σ t i.toNatClampNeg x) F) = some o) (k : ∀ σ1 : St, F σ1 = some o → WW G X nL σ1 lv (pc + 1) st) : WW G X nL σ lv pc (.int x :: .int i :: .ref (gad G t) :: st) := by
  obtain ⟨p, e, R, s, m, args, below, meth, c, Q, A, ck, sk⟩ := X
  obtain ⟨hx, hb, hml, hown, hts, hG, hA, hck, hlv⟩ := cx
  intro H locs ls hl hP hS
  exact va_iast hx hb hG.1 hP (hG.2.1 σ) hS t 0 (cA := gca G 0) (n := N) (f := σ.1 t) (wld_at hs) rfl (vp_in_iff.mpr (gd_some hF).1) hdg (fun H1 locs1 hP1 _ hS1 => k _ (gd_some hF).2 H1 locs1 ls hl (by rw [wld_setA hs (by decide)] at hP1; exact hP1) hS1)
theorem ww_bast {G : GT} {X : CT} {own : String} {cc : ByteArray} {nL n : Nat} {σ : St} {lv : List (Nat × Value)} {pc : Nat} {st : List Value} {t N : Nat} {i x : Int32} {β : Type} {F : St → Option β} {o : β} (cx : Cx G X own cc nL n) (hs : shp[t]? = some (.inl (2, N))) (hdg : decode cc pc = .ok (.bastore, 1)) (hF : gd (ir i N) (lt (setI σ t i.toNatClampNeg x.toInt8.toInt32) F) = some o) (k : ∀ σ1 : St, F σ1 = some o → WW G X nL σ1 lv (pc + 1) st) : WW G X nL σ lv pc (.int x :: .int i :: .ref (gad G t) :: st) := by
  obtain ⟨p, e, R, s, m, args, below, meth, c, Q, A, ck, sk⟩ := X
  obtain ⟨hx, hb, hml, hown, hts, hG, hA, hck, hlv⟩ := cx
  intro H locs ls hl hP hS
  exact va_bast hx hb hG.1 hP (hG.2.1 σ) hS t 2 (cA := gca G 2) (n := N) (f := σ.1 t) (wld_at hs) rfl (vp_in_iff.mpr (gd_some hF).1) hdg (fun H1 locs1 hP1 _ hS1 => k _ (gd_some hF).2 H1 locs1 ls hl (by rw [wld_setA hs (by decide)] at hP1; exact hP1) hS1)
theorem ww_zast {G : GT} {X : CT} {own : String} {cc : ByteArray} {nL n : Nat} {σ : St} {lv : List (Nat × Value)} {pc : Nat} {st : List Value} {t N : Nat} {i x : Int32} {β : Type} {F : St → Option β} {o : β} (cx : Cx G X own cc nL n) (hs : shp[t]? = some (.inl (1, N))) (hdg : decode cc pc = .ok (.bastore, 1)) (hF : gd (ir i N) (gd (x = 0 ∨ x = 1) (lt (setI σ t i.toNatClampNeg x) F)) = some o) (k : ∀ σ1 : St, F σ1 = some o → WW G X nL σ1 lv (pc + 1) st) : WW G X nL σ lv pc (.int x :: .int i :: .ref (gad G t) :: st) := by
  obtain ⟨p, e, R, s, m, args, below, meth, c, Q, A, ck, sk⟩ := X
  obtain ⟨hx, hb, hml, hown, hts, hG, hA, hck, hlv⟩ := cx
  intro H locs ls hl hP hS
  obtain ⟨hi, hF⟩ := gd_some hF
  obtain ⟨hz, hF⟩ := gd_some hF
  have hn : vp_nar .boolean x = x := by rcases hz with rfl | rfl <;> rfl
  exact va_zast hx hb hG.1 hP (hG.2.1 σ) hS t 1 (cA := gca G 1) (n := N) (f := σ.1 t) (wld_at hs) rfl (vp_in_iff.mpr hi) hdg (fun H1 locs1 hP1 _ hS1 => k _ hF H1 locs1 ls hl (by rw [hn, wld_setA hs (by decide)] at hP1; exact hP1) hS1)
theorem ww_last {G : GT} {X : CT} {own : String} {cc : ByteArray} {nL n : Nat} {σ : St} {lv : List (Nat × Value)} {pc : Nat} {st : List Value} {t N : Nat} {i : Int32} {x : Int64} {β : Type} {F : St → Option β} {o : β} (cx : Cx G X own cc nL n) (hs : shp[t]? = some (.inl (3, N))) (hdg : decode cc pc = .ok (.lastore, 1)) (hF : gd (ir i N) (lt (setL σ t i.toNatClampNeg x) F) = some o) (k : ∀ σ1 : St, F σ1 = some o → WW G X nL σ1 lv (pc + 1) st) : WW G X nL σ lv pc (.long x :: .int i :: .ref (gad G t) :: st) := by
  obtain ⟨p, e, R, s, m, args, below, meth, c, Q, A, ck, sk⟩ := X
  obtain ⟨hx, hb, hml, hown, hts, hG, hA, hck, hlv⟩ := cx
  intro H locs ls hl hP hS
  exact va_last hx hb hG.1 hP (hG.2.1 σ) hS t 3 (cA := gca G 3) (n := N) (f := σ.2 t) (wld_at hs) rfl (vp_in_iff.mpr (gd_some hF).1) hdg (fun H1 locs1 hP1 _ hS1 => k _ (gd_some hF).2 H1 locs1 ls hl (by rw [wld_setJ hs] at hP1; exact hP1) hS1)
theorem ww_aald {G : GT} {X : CT} {own : String} {cc : ByteArray} {nL n : Nat} {σ : St} {lv : List (Nat × Value)} {pc : Nat} {st : List Value} {t kd : Nat} {rs : List Nat} {C : String} {i : Int32} {f : Nat → Nat} {β : Type} {F : Option β} {o : β} (hty : ∀ ca : Nat → ClassId, (tyz ca)[kd]? = some (ca kd, .object C)) (hr : ∀ j, j < rs.length → rs[j]? = some (f j)) (cx : Cx G X own cc nL n) (hs : shp[t]? = some (.inr (.inr (kd, rs)))) (hdg : decode cc pc = .ok (.aaload, 1)) (hF : gd (ir i rs.length) F = some o) (k : i.toNatClampNeg < rs.length → F = some o → WW G X nL σ lv (pc + 1) (.ref (gad G (f i.toNatClampNeg)) :: st)) : WW G X nL σ lv pc (.int i :: .ref (gad G t) :: st) := by
  obtain ⟨p, e, R, s, m, args, below, meth, c, Q, A, ck, sk⟩ := X
  obtain ⟨hx, hb, hml, hown, hts, hG, hA, hck, hlv⟩ := cx
  intro H locs ls hl hP hS
  have hlt : i.toNatClampNeg < rs.length := by
    have h := vp_in_iff.mpr (gd_some hF).1
    unfold vp_in at h
    omega
  refine va_aldq hx hb hG.1 hP t kd (cA := gca G kd) (n := rs.length) (f := fun i => (rs[i]?).map (gad G)) (wld_at hs) (hty _) (vp_in_iff.mpr (gd_some hF).1) hdg ?_
  rw [hr _ hlt]
  exact k hlt (gd_some hF).2 H locs ls hl hP hS

theorem ww_lcmp {G : GT} {X : CT} {own : String} {cc : ByteArray} {nL n : Nat} {σ : St} {lv : List (Nat × Value)} {pc : Nat} {st : List Value} {x y : Int64} (cx : Cx G X own cc nL n) (hdg : decode cc pc = .ok (.lcmp, 1)) (k : WW G X nL σ lv (pc + 1) (.int (lg_cmp x y) :: st)) : WW G X nL σ lv pc (.long y :: .long x :: st) := by
  obtain ⟨p, e, R, s, m, args, below, meth, c, Q, A, ck, sk⟩ := X
  obtain ⟨hx, hb, hml, hown, hts, hG, hA, hck, hlv⟩ := cx
  intro H locs ls hl hP hS
  exact W.lcmp hx hb hdg (k H locs ls hl hP hS)

/-- what the tables say of a call of y at an entry of own's pool -/
def CallV (own : String) (ix : Nat) (C : String) (y : MethodName) (b : ByteArray) (nL : Nat) (rt : Option FieldType) (na : Nat) : Prop :=
  GoodIn TBL (wsV own ix C y (.code y b nL rt :: TBL)) ∧ (y.cls = C ∧ y.cls ≠ "java/lang/invoke/MethodHandle" ∧ y.cls ≠ "java/lang/invoke/VarHandle" ∧ (parseMethodDescriptor y.desc).map (fun d => d.parameters.length) = some na)
theorem tg {w : Cond} (h : w ∈ TBL) : w ∈ TBL ∧ ((w.onTables && w.keeps) = true ∨ ∃ ty, w = .arrayClass ty) := ⟨h, tbl_good w h⟩
theorem callV_of {own : String} {ix : Nat} {C : String} {y : MethodName} {b : ByteArray} {nL : Nat} {rt : Option FieldType} {na : Nat} (h1 : Cond.methodLink own ix y ∈ TBL) (h2 : Cond.instanceMethod y ∈ TBL) (h3 : Cond.selects C y y ∈ TBL) (h4 : Cond.initialized C ∈ TBL) (h5 : Cond.code y b nL rt ∈ TBL) (hd : y.cls = C ∧ y.cls ≠ "java/lang/invoke/MethodHandle" ∧ y.cls ≠ "java/lang/invoke/VarHandle" ∧ (parseMethodDescriptor y.desc).map (fun d => d.parameters.length) = some na) : CallV own ix C y b nL rt na := by
  refine ⟨fun w hw => ?_, hd⟩
  rcases List.mem_append.mp hw with h | h
  · simp only [List.mem_cons, List.not_mem_nil, or_false] at h
    rcases h with rfl | rfl | rfl | rfl
    · exact tg h1
    · exact tg h2
    · exact tg h3
    · exact tg h4
  · rcases List.mem_cons.mp h with rfl | h
    · exact tg h5
    · exact tg h
def CallS (own : String) (ix : Nat) (y : MethodName) (b : ByteArray) (nL : Nat) (rt : Option FieldType) (na : Nat) : Prop :=
  GoodIn TBL (va_wsS own ix y (.code y b nL rt :: TBL)) ∧ (y.cls ≠ "java/lang/invoke/MethodHandle" ∧ y.cls ≠ "java/lang/invoke/VarHandle" ∧ (parseMethodDescriptor y.desc).map (fun d => d.parameters.length) = some na)
theorem callS_of {own : String} {ix : Nat} {y : MethodName} {b : ByteArray} {nL : Nat} {rt : Option FieldType} {na : Nat} (h1 : Cond.methodLink own ix y ∈ TBL) (h2 : Cond.static y ∈ TBL) (h4 : Cond.initialized y.cls ∈ TBL) (h5 : Cond.code y b nL rt ∈ TBL) (hd : y.cls ≠ "java/lang/invoke/MethodHandle" ∧ y.cls ≠ "java/lang/invoke/VarHandle" ∧ (parseMethodDescriptor y.desc).map (fun d => d.parameters.length) = some na) : CallS own ix y b nL rt na := by
  refine ⟨fun w hw => ?_, hd⟩
  rcases List.mem_append.mp hw with h | h
  · simp only [List.mem_cons, List.not_mem_nil, or_false] at h
    rcases h with rfl | rfl | rfl
    · exact tg h1
    · exact tg h2
    · exact tg h4
  · rcases List.mem_cons.mp h with rfl | h
    · exact tg h5
    · exact tg h
theorem pc_blind {G : GT} {σ : St} {sz : Nat} {A : Nat → Prop} {as : List Value} : FrameBlind (va_Pc as (fun U => U.heap.size = sz ∧ va_P G.2.1 clz (wld G σ) U.heap ∧ GOOD G A U U.heap)) :=
  fun a U g mk q => by
    obtain ⟨q0, q1, qP, qK, qD, qS⟩ := q
    exact ⟨q0, q1, qP, va_K.moved (u := U) (U := U.calling g mk a) (Vm.Alike.refl U.vm) qK, qD, qS.calling g mk a⟩
/-- what a callee finds -/
theorem pc_at {G : GT} {A : Nat → Prop} {s : State} {H : Heap} {locs : List Loc} {σ : St} {as : List Value} (hG : GOOD G A s s.heap) (hA : ∀ q, s.heap.size ≤ q → A q) (hP : va_P G.2.1 clz (wld G σ) H) (hS : va_S A s.heap H locs) (U : State) (hU : U.heap = H) (hW : s.WarmedH U.vm) : va_Pc as (fun U => U.heap.size = H.size ∧ va_P G.2.1 clz (wld G σ) U.heap ∧ GOOD G (va_A (wld G σ) H.size) U U.heap) as.toArray U := by
  have hD : ∀ σ', va_D (va_A (wld G σ) H.size) (wld G σ') := fun σ' => wld_D (σ := σ) (hG.2.1 σ).self
  refine ⟨rfl, by rw [hU], by rw [hU]; exact hP, va_K.moved hW.alike hG.1, hD, ?_⟩
  rw [hU]
  refine ((hG.2.2.kept hS.2.1).warm hW).narrow (fun q h => ?_)
  rcases h with ⟨k, e, h⟩ | h
  · exact (hG.2.1 σ).2 k _ h
  · exact hA q (Nat.le_trans hS.1 h)
theorem va_A_sub {G : GT} {A : Nat → Prop} {s : State} {H : Heap} {locs : List Loc} {σ : St} (hG : GOOD G A s s.heap) (hA : ∀ q, s.heap.size ≤ q → A q) (hS : va_S A s.heap H locs) : ∀ q, va_A (wld G σ) H.size q → A q := fun q h => by
  rcases h with ⟨k, e, h⟩ | h
  · exact (hG.2.1 σ).2 k _ h
  · exact hA q (Nat.le_trans hS.1 h)
theorem ww_back {p : Program} {l : Launch} {e : Env} {R : Room} {s : State} {m : MethodId} {args : Array Value} {below : List Frame} {meth : Method} {c : Code} {Q : State → Prop} {A A1 : Nat → Prop} {ck sk pc : Nat} {H : Heap} {locs : List Loc} {ls : Array Slot} {st0 st : List Value} {rv : Option Value} {G : GT} {σ1 : St} (hr : va_Run p l e R s m args below meth c H locs ck sk 0 0 (F0 m pc ls st0) st (fun st oc t => oc = .returned rv ∧ va_P G.2.1 clz (wld G σ1) t.heap ∧ va_F A1 st t) A1) (hS : va_S A s.heap H locs) (hA1 : ∀ q, A1 q → A q) (kk : ∀ (H1 : Heap) (locs1 : List Loc), va_P G.2.1 clz (wld G σ1) H1 → va_S A s.heap H1 locs1 → W p l e R s m args below meth c H1 locs1 ck sk Q (F0 m (pc + 3) ls (rv.toList ++ st))) : W p l e R s m args below meth c H locs ck sk Q (F0 m pc ls st0) := by
  intro T hT X
  obtain ⟨v, st₀, t, T', L, h0, X', hL, e1, e2, ⟨hv, hp, hz, hk⟩, st⟩ := hr T hT X
  cases hv
  rw [h0] at hz hk
  obtain ⟨t2, a1, b1⟩ := kk T'.heap (locs ++ L) (by rw [e1]; exact hp)
    ⟨Nat.le_trans hS.1 (by rw [e1]; exact hz), fun q h1 h2 => by rw [e1, hk q (Nat.lt_of_lt_of_le h1 hS.1) (fun z => h2 (hA1 q z))]; exact hS.2.1 q h1 h2, fun q hq => by
      rcases List.mem_append.mp hq with h | h
      · exact hS.2.2 q h
      · exact hA1 _ (hL q h)⟩ T' rfl X'
  exact ⟨t2, st t2 a1, b1⟩
theorem lv_room8 {m : MethodId} {pc : Nat} {ls : Array Slot} {st0 st : List Value} (h : (st.map fun v => v.category).sum ≤ 8) : 2 * (F0 m pc ls st0).monitorRoom + (st.map fun v => v.category).sum ≤ 8 := lv_room h

theorem ww_callV {G : GT} {X : CT} {own : String} {cc : ByteArray} {nL n : Nat} {σ : St} {lv : List (Nat × Value)} {pc : Nat} {st : List Value} {k ix nL' na t ci : Nat} {C : String} {y : MethodName} {b : ByteArray} {rt : Option FieldType} {As st0 : List Value} {fs : List (Option Nat)} {T : u_T} {N : Nat} {rv : Option Value} {σ1 : St} (hC : CallV own ix C y b nL' rt na) (hc : clz[ci]? = some (C, T, N)) (cx : Cx G X own cc nL n) (hs : shp[t]? = some (.inr (.inl (ci, fs)))) (hk : k + 1 ≤ n ∧ nL' ≤ 45) (hst : (st.map fun v => v.category).sum ≤ 8) (hlen : As.length = na) (hst0 : st0 = As.reverse ++ .ref (gad G t) :: st) (hdg : decode cc pc = .ok (.invokevirtual ix, 3)) (hM : MCt G k y b nL' rt (.ref (gad G t) :: As) σ rv σ1) (kk : WW G X nL σ1 lv (pc + 3) (rv.toList ++ st)) : WW G X nL σ lv pc st0 := by
  obtain ⟨p, e, R, s, m, args, below, meth, c, Q, A, ck, sk⟩ := X
  obtain ⟨hx, hb, hml, hown, hts, hG, hA, hck, hlv⟩ := cx
  intro H locs ls hl hP hS
  exact ww_back (va_runV (As := As) (rest := st) ⟨hx, hb, hml, hown, hts⟩ (hM H.size) (cwV na hts hC.1 rfl rfl rfl hC.2 ⟨by simp only [rmL]; omega, by simp only [rmL]; omega⟩) ⟨pc_blind, va_recv hG.1 hP hc (wld_at hs), pc_at hG hA hP hS⟩ rfl hlen hl.1 hst0 (lv_room8 hst) hdg hck) hS (va_A_sub hG hA hS) (fun H1 locs1 hP1 hS1 => kk H1 locs1 ls hl hP1 hS1)
theorem ww_callS {G : GT} {X : CT} {own : String} {cc : ByteArray} {nL n : Nat} {σ : St} {lv : List (Nat × Value)} {pc : Nat} {st : List Value} {k ix nL' na : Nat} {y : MethodName} {b : ByteArray} {rt : Option FieldType} {As st0 : List Value} {rv : Option Value} {σ1 : St} (hC : CallS own ix y b nL' rt na) (cx : Cx G X own cc nL n) (hk : k + 1 ≤ n ∧ nL' ≤ 45) (hst : (st.map fun v => v.category).sum ≤ 8) (hlen : As.length = na) (hst0 : st0 = As.reverse ++ st) (hdg : decode cc pc = .ok (.invokestatic ix, 3)) (hM : MCt G k y b nL' rt As σ rv σ1) (kk : WW G X nL σ1 lv (pc + 3) (rv.toList ++ st)) : WW G X nL σ lv pc st0 := by
  obtain ⟨p, e, R, s, m, args, below, meth, c, Q, A, ck, sk⟩ := X
  obtain ⟨hx, hb, hml, hown, hts, hG, hA, hck, hlv⟩ := cx
  intro H locs ls hl hP hS
  have ok : ∀ w ∈ va_wsS own ix y (.code y b nL' rt :: TBL), w.before args s = true := fun w h => hts w (hC.1 w h).1
  exact ww_back (va_runS (As := As) (rest := st) ⟨hx, hb, hml, hown, hts⟩ (hM H.size) ⟨callB_of na hts (fun w h => hC.1 w (List.mem_append_right _ h)) rfl rfl rfl (ok _ (by simp [va_wsS])) (ok _ (by simp [va_wsS])) hC.2 ⟨by simp only [rmL]; omega, by simp only [rmL]; omega⟩, ok _ (by simp [va_wsS])⟩ ⟨pc_blind, pc_at hG hA hP hS⟩ rfl hlen hl.1 hst0 (lv_room8 hst) hdg hck) hS (va_A_sub hG hA hS) (fun H1 locs1 hP1 hS1 => kk H1 locs1 ls hl hP1 hS1)

theorem ww_V0_pi {G : GT} {X : CT} {own : String} {cc : ByteArray} {nL n : Nat} {σ : St} {lv : List (Nat × Value)} {pc : Nat} {st : List Value} {k ix nL' t ci : Nat} {C : String} {fs : List (Option Nat)} {T : u_T} {N : Nat} {y : MethodName} {b : ByteArray} {rt : Option FieldType} {β : Type} {F : Option Int32} {K : Int32 → Option β} {o : β} (hC : CallV own ix C y b nL' rt 0) (hc : clz[ci]? = some (C, T, N)) (cx : Cx G X own cc nL n) (hs : shp[t]? = some (.inr (.inl (ci, fs)))) (hk : k + 1 ≤ n ∧ nL' ≤ 45) (hst : (st.map fun v => v.category).sum ≤ 8) (hdg : decode cc pc = .ok (.invokevirtual ix, 3)) (hM : ∀ r : Int32, F = some r → MCt G k y b nL' rt (.ref (gad G t) :: []) σ (some (.int r)) σ) (hF : bp F K = some o) (kk : ∀ r : Int32, K r = some o → WW G X nL σ lv (pc + 3) (.int r :: st)) : WW G X nL σ lv pc (.ref (gad G t) :: st) := by
  obtain ⟨r, h1, h2⟩ := bp_some hF
  exact ww_callV hC hc cx hs hk hst rfl rfl hdg (hM r h1) (kk r h2)

theorem ww_V0_pl {G : GT} {X : CT} {own : String} {cc : ByteArray} {nL n : Nat} {σ : St} {lv : List (Nat × Value)} {pc : Nat} {st : List Value} {k ix nL' t ci : Nat} {C : String} {fs : List (Option Nat)} {T : u_T} {N : Nat} {y : MethodName} {b : ByteArray} {rt : Option FieldType} {β : Type} {F : Option Int64} {K : Int64 → Option β} {o : β} (hC : CallV own ix C y b nL' rt 0) (hc : clz[ci]? = some (C, T, N)) (cx : Cx G X own cc nL n) (hs : shp[t]? = some (.inr (.inl (ci, fs)))) (hk : k + 1 ≤ n ∧ nL' ≤ 45) (hst : (st.map fun v => v.category).sum ≤ 8) (hdg : decode cc pc = .ok (.invokevirtual ix, 3)) (hM : ∀ r : Int64, F = some r → MCt G k y b nL' rt (.ref (gad G t) :: []) σ (some (.long r)) σ) (hF : bp F K = some o) (kk : ∀ r : Int64, K r = some o → WW G X nL σ lv (pc + 3) (.long r :: st)) : WW G X nL σ lv pc (.ref (gad G t) :: st) := by
  obtain ⟨r, h1, h2⟩ := bp_some hF
  exact ww_callV hC hc cx hs hk hst rfl rfl hdg (hM r h1) (kk r h2)

theorem ww_V0_si {G : GT} {X : CT} {own : String} {cc : ByteArray} {nL n : Nat} {σ : St} {lv : List (Nat × Value)} {pc : Nat} {st : List Value} {k ix nL' t ci : Nat} {C : String} {fs : List (Option Nat)} {T : u_T} {N : Nat} {y : MethodName} {b : ByteArray} {rt : Option FieldType} {β : Type} {F : Option (Int32 × St)} {K : Int32 → St → Option β} {o : β} (hC : CallV own ix C y b nL' rt 0) (hc : clz[ci]? = some (C, T, N)) (cx : Cx G X own cc nL n) (hs : shp[t]? = some (.inr (.inl (ci, fs)))) (hk : k + 1 ≤ n ∧ nL' ≤ 45) (hst : (st.map fun v => v.category).sum ≤ 8) (hdg : decode cc pc = .ok (.invokevirtual ix, 3)) (hM : ∀ (r : Int32) (σ1 : St), F = some (r, σ1) → MCt G k y b nL' rt (.ref (gad G t) :: []) σ (some (.int r)) σ1) (hF : bs F K = some o) (kk : ∀ (r : Int32) (σ1 : St), K r σ1 = some o → WW G X nL σ1 lv (pc + 3) (.int r :: st)) : WW G X nL σ lv pc (.ref (gad G t) :: st) := by
  obtain ⟨r, σ1, h1, h2⟩ := bs_some hF
  exact ww_callV hC hc cx hs hk hst rfl rfl hdg (hM r σ1 h1) (kk r σ1 h2)

theorem ww_V0_sv {G : GT} {X : CT} {own : String} {cc : ByteArray} {nL n : Nat} {σ : St} {lv : List (Nat × Value)} {pc : Nat} {st : List Value} {k ix nL' t ci : Nat} {C : String} {fs : List (Option Nat)} {T : u_T} {N : Nat} {y : MethodName} {b : ByteArray} {rt : Option FieldType} {β : Type} {F : Option St} {K : St → Option β} {o : β} (hC : CallV own ix C y b nL' rt 0) (hc : clz[ci]? = some (C, T, N)) (cx : Cx G X own cc nL n) (hs : shp[t]? = some (.inr (.inl (ci, fs)))) (hk : k + 1 ≤ n ∧ nL' ≤ 45) (hst : (st.map fun v => v.category).sum ≤ 8) (hdg : decode cc pc = .ok (.invokevirtual ix, 3)) (hM : ∀ σ1 : St, F = some σ1 → MCt G k y b nL' rt (.ref (gad G t) :: []) σ none σ1) (hF : bp F K = some o) (kk : ∀ σ1 : St, K σ1 = some o → WW G X nL σ1 lv (pc + 3) st) : WW G X nL σ lv pc (.ref (gad G t) :: st) := by
  obtain ⟨σ1, h1, h2⟩ := bp_some hF
  exact ww_callV hC hc cx hs hk hst rfl rfl hdg (hM σ1 h1) (kk σ1 h2)

theorem ww_V0_sr {G : GT} {X : CT} {own : String} {cc : ByteArray} {nL n : Nat} {σ : St} {lv : List (Nat × Value)} {pc : Nat} {st : List Value} {k ix nL' t ci : Nat} {C : String} {fs : List (Option Nat)} {T : u_T} {N : Nat} {y : MethodName} {b : ByteArray} {rt : Option FieldType} {a : Nat} {β : Type} {F : Option St} {K : St → Option β} {o : β} (hC : CallV own ix C y b nL' rt 0) (hc : clz[ci]? = some (C, T, N)) (cx : Cx G X own cc nL n) (hs : shp[t]? = some (.inr (.inl (ci, fs)))) (hk : k + 1 ≤ n ∧ nL' ≤ 45) (hst : (st.map fun v => v.category).sum ≤ 8) (hdg : decode cc pc = .ok (.invokevirtual ix, 3)) (hM : ∀ σ1 : St, F = some σ1 → MCt G k y b nL' rt (.ref (gad G t) :: []) σ (some (.ref a)) σ1) (hF : bp F K = some o) (kk : ∀ σ1 : St, K σ1 = some o → WW G X nL σ1 lv (pc + 3) (.ref a :: st)) : WW G X nL σ lv pc (.ref (gad G t) :: st) := by
  obtain ⟨σ1, h1, h2⟩ := bp_some hF
  exact ww_callV hC hc cx hs hk hst rfl rfl hdg (hM σ1 h1) (kk σ1 h2)

theorem ww_S0_pi {G : GT} {X : CT} {own : String} {cc : ByteArray} {nL n : Nat} {σ : St} {lv : List (Nat × Value)} {pc : Nat} {st : List Value} {k ix nL' : Nat} {y : MethodName} {b : ByteArray} {rt : Option FieldType} {β : Type} {F : Option Int32} {K : Int32 → Option β} {o : β} (hC : CallS own ix y b nL' rt 0) (cx : Cx G X own cc nL n) (hk : k + 1 ≤ n ∧ nL' ≤ 45) (hst : (st.map fun v => v.category).sum ≤ 8) (hdg : decode cc pc = .ok (.invokestatic ix, 3)) (hM : ∀ r : Int32, F = some r → MCt G k y b nL' rt [] σ (some (.int r)) σ) (hF : bp F K = some o) (kk : ∀ r : Int32, K r = some o → WW G X nL σ lv (pc + 3) (.int r :: st)) : WW G X nL σ lv pc (st) := by
  obtain ⟨r, h1, h2⟩ := bp_some hF
  exact ww_callS hC cx hk hst rfl rfl hdg (hM r h1) (kk r h2)

theorem ww_S0_pl {G : GT} {X : CT} {own : String} {cc : ByteArray} {nL n : Nat} {σ : St} {lv : List (Nat × Value)} {pc : Nat} {st : List Value} {k ix nL' : Nat} {y : MethodName} {b : ByteArray} {rt : Option FieldType} {β : Type} {F : Option Int64} {K : Int64 → Option β} {o : β} (hC : CallS own ix y b nL' rt 0) (cx : Cx G X own cc nL n) (hk : k + 1 ≤ n ∧ nL' ≤ 45) (hst : (st.map fun v => v.category).sum ≤ 8) (hdg : decode cc pc = .ok (.invokestatic ix, 3)) (hM : ∀ r : Int64, F = some r → MCt G k y b nL' rt [] σ (some (.long r)) σ) (hF : bp F K = some o) (kk : ∀ r : Int64, K r = some o → WW G X nL σ lv (pc + 3) (.long r :: st)) : WW G X nL σ lv pc (st) := by
  obtain ⟨r, h1, h2⟩ := bp_some hF
  exact ww_callS hC cx hk hst rfl rfl hdg (hM r h1) (kk r h2)

theorem ww_S0_si {G : GT} {X : CT} {own : String} {cc : ByteArray} {nL n : Nat} {σ : St} {lv : List (Nat × Value)} {pc : Nat} {st : List Value} {k ix nL' : Nat} {y : MethodName} {b : ByteArray} {rt : Option FieldType} {β : Type} {F : Option (Int32 × St)} {K : Int32 → St → Option β} {o : β} (hC : CallS own ix y b nL' rt 0) (cx : Cx G X own cc nL n) (hk : k + 1 ≤ n ∧ nL' ≤ 45) (hst : (st.map fun v => v.category).sum ≤ 8) (hdg : decode cc pc = .ok (.invokestatic ix, 3)) (hM : ∀ (r : Int32) (σ1 : St), F = some (r, σ1) → MCt G k y b nL' rt [] σ (some (.int r)) σ1) (hF : bs F K = some o) (kk : ∀ (r : Int32) (σ1 : St), K r σ1 = some o → WW G X nL σ1 lv (pc + 3) (.int r :: st)) : WW G X nL σ lv pc (st) := by
  obtain ⟨r, σ1, h1, h2⟩ := bs_some hF
  exact ww_callS hC cx hk hst rfl rfl hdg (hM r σ1 h1) (kk r σ1 h2)

theorem ww_S0_sv {G : GT} {X : CT} {own : String} {cc : ByteArray} {nL n : Nat} {σ : St} {lv : List (Nat × Value)} {pc : Nat} {st : List Value} {k ix nL' : Nat} {y : MethodName} {b : ByteArray} {rt : Option FieldType} {β : Type} {F : Option St} {K : St → Option β} {o : β} (hC : CallS own ix y b nL' rt 0) (cx : Cx G X own cc nL n) (hk : k + 1 ≤ n ∧ nL' ≤ 45) (hst : (st.map fun v => v.category).sum ≤ 8) (hdg : decode cc pc = .ok (.invokestatic ix, 3)) (hM : ∀ σ1 : St, F = some σ1 → MCt G k y b nL' rt [] σ none σ1) (hF : bp F K = some o) (kk : ∀ σ1 : St, K σ1 = some o → WW G X nL σ1 lv (pc + 3) st) : WW G X nL σ lv pc (st) := by
  obtain ⟨σ1, h1, h2⟩ := bp_some hF
  exact ww_callS hC cx hk hst rfl rfl hdg (hM σ1 h1) (kk σ1 h2)

theorem ww_S0_sr {G : GT} {X : CT} {own : String} {cc : ByteArray} {nL n : Nat} {σ : St} {lv : List (Nat × Value)} {pc : Nat} {st : List Value} {k ix nL' : Nat} {y : MethodName} {b : ByteArray} {rt : Option FieldType} {a : Nat} {β : Type} {F : Option St} {K : St → Option β} {o : β} (hC : CallS own ix y b nL' rt 0) (cx : Cx G X own cc nL n) (hk : k + 1 ≤ n ∧ nL' ≤ 45) (hst : (st.map fun v => v.category).sum ≤ 8) (hdg : decode cc pc = .ok (.invokestatic ix, 3)) (hM : ∀ σ1 : St, F = some σ1 → MCt G k y b nL' rt [] σ (some (.ref a)) σ1) (hF : bp F K = some o) (kk : ∀ σ1 : St, K σ1 = some o → WW G X nL σ1 lv (pc + 3) (.ref a :: st)) : WW G X nL σ lv pc (st) := by
  obtain ⟨σ1, h1, h2⟩ := bp_some hF
  exact ww_callS hC cx hk hst rfl rfl hdg (hM σ1 h1) (kk σ1 h2)

theorem ww_V1_pi {G : GT} {X : CT} {own : String} {cc : ByteArray} {nL n : Nat} {σ : St} {lv : List (Nat × Value)} {pc : Nat} {st : List Value} {k ix nL' t ci : Nat} {C : String} {fs : List (Option Nat)} {T : u_T} {N : Nat} {y : MethodName} {b : ByteArray} {rt : Option FieldType} {v0 : Value} {β : Type} {F : Option Int32} {K : Int32 → Option β} {o : β} (hC : CallV own ix C y b nL' rt 1) (hc : clz[ci]? = some (C, T, N)) (cx : Cx G X own cc nL n) (hs : shp[t]? = some (.inr (.inl (ci, fs)))) (hk : k + 1 ≤ n ∧ nL' ≤ 45) (hst : (st.map fun v => v.category).sum ≤ 8) (hdg : decode cc pc = .ok (.invokevirtual ix, 3)) (hM : ∀ r : Int32, F = some r → MCt G k y b nL' rt (.ref (gad G t) :: [v0]) σ (some (.int r)) σ) (hF : bp F K = some o) (kk : ∀ r : Int32, K r = some o → WW G X nL σ lv (pc + 3) (.int r :: st)) : WW G X nL σ lv pc (v0 :: .ref (gad G t) :: st) := by
  obtain ⟨r, h1, h2⟩ := bp_some hF
  exact ww_callV hC hc cx hs hk hst rfl rfl hdg (hM r h1) (kk r h2)

theorem ww_V1_pl {G : GT} {X : CT} {own : String} {cc : ByteArray} {nL n : Nat} {σ : St} {lv : List (Nat × Value)} {pc : Nat} {st : List Value} {k ix nL' t ci : Nat} {C : String} {fs : List (Option Nat)} {T : u_T} {N : Nat} {y : MethodName} {b : ByteArray} {rt : Option FieldType} {v0 : Value} {β : Type} {F : Option Int64} {K : Int64 → Option β} {o : β} (hC : CallV own ix C y b nL' rt 1) (hc : clz[ci]? = some (C, T, N)) (cx : Cx G X own cc nL n) (hs : shp[t]? = some (.inr (.inl (ci, fs)))) (hk : k + 1 ≤ n ∧ nL' ≤ 45) (hst : (st.map fun v => v.category).sum ≤ 8) (hdg : decode cc pc = .ok (.invokevirtual ix, 3)) (hM : ∀ r : Int64, F = some r → MCt G k y b nL' rt (.ref (gad G t) :: [v0]) σ (some (.long r)) σ) (hF : bp F K = some o) (kk : ∀ r : Int64, K r = some o → WW G X nL σ lv (pc + 3) (.long r :: st)) : WW G X nL σ lv pc (v0 :: .ref (gad G t) :: st) := by
  obtain ⟨r, h1, h2⟩ := bp_some hF
  exact ww_callV hC hc cx hs hk hst rfl rfl hdg (hM r h1) (kk r h2)

theorem ww_V1_si {G : GT} {X : CT} {own : String} {cc : ByteArray} {nL n : Nat} {σ : St} {lv : List (Nat × Value)} {pc : Nat} {st : List Value} {k ix nL' t ci : Nat} {C : String} {fs : List (Option Nat)} {T : u_T} {N : Nat} {y : MethodName} {b : ByteArray} {rt : Option FieldType} {v0 : Value} {β : Type} {F : Option (Int32 × St)} {K : Int32 → St → Option β} {o : β} (hC : CallV own ix C y b nL' rt 1) (hc : clz[ci]? = some (C, T, N)) (cx : Cx G X own cc nL n) (hs : shp[t]? = some (.inr (.inl (ci, fs)))) (hk : k + 1 ≤ n ∧ nL' ≤ 45) (hst : (st.map fun v => v.category).sum ≤ 8) (hdg : decode cc pc = .ok (.invokevirtual ix, 3)) (hM : ∀ (r : Int32) (σ1 : St), F = some (r, σ1) → MCt G k y b nL' rt (.ref (gad G t) :: [v0]) σ (some (.int r)) σ1) (hF : bs F K = some o) (kk : ∀ (r : Int32) (σ1 : St), K r σ1 = some o → WW G X nL σ1 lv (pc + 3) (.int r :: st)) : WW G X nL σ lv pc (v0 :: .ref (gad G t) :: st) := by
  obtain ⟨r, σ1, h1, h2⟩ := bs_some hF
  exact ww_callV hC hc cx hs hk hst rfl rfl hdg (hM r σ1 h1) (kk r σ1 h2)

theorem ww_V1_sv {G : GT} {X : CT} {own : String} {cc : ByteArray} {nL n : Nat} {σ : St} {lv : List (Nat × Value)} {pc : Nat} {st : List Value} {k ix nL' t ci : Nat} {C : String} {fs : List (Option Nat)} {T : u_T} {N : Nat} {y : MethodName} {b : ByteArray} {rt : Option FieldType} {v0 : Value} {β : Type} {F : Option St} {K : St → Option β} {o : β} (hC : CallV own ix C y b nL' rt 1) (hc : clz[ci]? = some (C, T, N)) (cx : Cx G X own cc nL n) (hs : shp[t]? = some (.inr (.inl (ci, fs)))) (hk : k + 1 ≤ n ∧ nL' ≤ 45) (hst : (st.map fun v => v.category).sum ≤ 8) (hdg : decode cc pc = .ok (.invokevirtual ix, 3)) (hM : ∀ σ1 : St, F = some σ1 → MCt G k y b nL' rt (.ref (gad G t) :: [v0]) σ none σ1) (hF : bp F K = some o) (kk : ∀ σ1 : St, K σ1 = some o → WW G X nL σ1 lv (pc + 3) st) : WW G X nL σ lv pc (v0 :: .ref (gad G t) :: st) := by
  obtain ⟨σ1, h1, h2⟩ := bp_some hF
  exact ww_callV hC hc cx hs hk hst rfl rfl hdg (hM σ1 h1) (kk σ1 h2)

theorem ww_V1_sr {G : GT} {X : CT} {own : String} {cc : ByteArray} {nL n : Nat} {σ : St} {lv : List (Nat × Value)} {pc : Nat} {st : List Value} {k ix nL' t ci : Nat} {C : String} {fs : List (Option Nat)} {T : u_T} {N : Nat} {y : MethodName} {b : ByteArray} {rt : Option FieldType} {v0 : Value} {a : Nat} {β : Type} {F : Option St} {K : St → Option β} {o : β} (hC : CallV own ix C y b nL' rt 1) (hc : clz[ci]? = some (C, T, N)) (cx : Cx G X own cc nL n) (hs : shp[t]? = some (.inr (.inl (ci, fs)))) (hk : k + 1 ≤ n ∧ nL' ≤ 45) (hst : (st.map fun v => v.category).sum ≤ 8) (hdg : decode cc pc = .ok (.invokevirtual ix, 3)) (hM : ∀ σ1 : St, F = some σ1 → MCt G k y b nL' rt (.ref (gad G t) :: [v0]) σ (some (.ref a)) σ1) (hF : bp F K = some o) (kk : ∀ σ1 : St, K σ1 = some o → WW G X nL σ1 lv (pc + 3) (.ref a :: st)) : WW G X nL σ lv pc (v0 :: .ref (gad G t) :: st) := by
  obtain ⟨σ1, h1, h2⟩ := bp_some hF
  exact ww_callV hC hc cx hs hk hst rfl rfl hdg (hM σ1 h1) (kk σ1 h2)

theorem ww_S1_pi {G : GT} {X : CT} {own : String} {cc : ByteArray} {nL n : Nat} {σ : St} {lv : List (Nat × Value)} {pc : Nat} {st : List Value} {k ix nL' : Nat} {y : MethodName} {b : ByteArray} {rt : Option FieldType} {v0 : Value} {β : Type} {F : Option Int32} {K : Int32 → Option β} {o : β} (hC : CallS own ix y b nL' rt 1) (cx : Cx G X own cc nL n) (hk : k + 1 ≤ n ∧ nL' ≤ 45) (hst : (st.map fun v => v.category).sum ≤ 8) (hdg : decode cc pc = .ok (.invokestatic ix, 3)) (hM : ∀ r : Int32, F = some r → MCt G k y b nL' rt [v0] σ (some (.int r)) σ) (hF : bp F K = some o) (kk : ∀ r : Int32, K r = some o → WW G X nL σ lv (pc + 3) (.int r :: st)) : WW G X nL σ lv pc (v0 :: st) := by
  obtain ⟨r, h1, h2⟩ := bp_some hF
  exact ww_callS hC cx hk hst rfl rfl hdg (hM r h1) (kk r h2)

theorem ww_S1_pl {G : GT} {X : CT} {own : String} {cc : ByteArray} {nL n : Nat} {σ : St} {lv : List (Nat × Value)} {pc : Nat} {st : List Value} {k ix nL' : Nat} {y : MethodName} {b : ByteArray} {rt : Option FieldType} {v0 : Value} {β : Type} {F : Option Int64} {K : Int64 → Option β} {o : β} (hC : CallS own ix y b nL' rt 1) (cx : Cx G X own cc nL n) (hk : k + 1 ≤ n ∧ nL' ≤ 45) (hst : (st.map fun v => v.category).sum ≤ 8) (hdg : decode cc pc = .ok (.invokestatic ix, 3)) (hM : ∀ r : Int64, F = some r → MCt G k y b nL' rt [v0] σ (some (.long r)) σ) (hF : bp F K = some o) (kk : ∀ r : Int64, K r = some o → WW G X nL σ lv (pc + 3) (.long r :: st)) : WW G X nL σ lv pc (v0 :: st) := by
  obtain ⟨r, h1, h2⟩ := bp_some hF
  exact ww_callS hC cx hk hst rfl rfl hdg (hM r h1) (kk r h2)

theorem ww_S1_si {G : GT} {X : CT} {own : String} {cc : ByteArray} {nL n : Nat} {σ : St} {lv : List (Nat × Value)} {pc : Nat} {st : List Value} {k ix nL' : Nat} {y : MethodName} {b : ByteArray} {rt : Option FieldType} {v0 : Value} {β : Type} {F : Option (Int32 × St)} {K : Int32 → St → Option β} {o : β} (hC : CallS own ix y b nL' rt 1) (cx : Cx G X own cc nL n) (hk : k + 1 ≤ n ∧ nL' ≤ 45) (hst : (st.map fun v => v.category).sum ≤ 8) (hdg : decode cc pc = .ok (.invokestatic ix, 3)) (hM : ∀ (r : Int32) (σ1 : St), F = some (r, σ1) → MCt G k y b nL' rt [v0] σ (some (.int r)) σ1) (hF : bs F K = some o) (kk : ∀ (r : Int32) (σ1 : St), K r σ1 = some o → WW G X nL σ1 lv (pc + 3) (.int r :: st)) : WW G X nL σ lv pc (v0 :: st) := by
  obtain ⟨r, σ1, h1, h2⟩ := bs_some hF
  exact ww_callS hC cx hk hst rfl rfl hdg (hM r σ1 h1) (kk r σ1 h2)

theorem ww_S1_sv {G : GT} {X : CT} {own : String} {cc : ByteArray} {nL n : Nat} {σ : St} {lv : List (Nat × Value)} {pc : Nat} {st : List Value} {k ix nL' : Nat} {y : MethodName} {b : ByteArray} {rt : Option FieldType} {v0 : Value} {β : Type} {F : Option St} {K : St → Option β} {o : β} (hC : CallS own ix y b nL' rt 1) (cx : Cx G X own cc nL n) (hk : k + 1 ≤ n ∧ nL' ≤ 45) (hst : (st.map fun v => v.category).sum ≤ 8) (hdg : decode cc pc = .ok (.invokestatic ix, 3)) (hM : ∀ σ1 : St, F = some σ1 → MCt G k y b nL' rt [v0] σ none σ1) (hF : bp F K = some o) (kk : ∀ σ1 : St, K σ1 = some o → WW G X nL σ1 lv (pc + 3) st) : WW G X nL σ lv pc (v0 :: st) := by
  obtain ⟨σ1, h1, h2⟩ := bp_some hF
  exact ww_callS hC cx hk hst rfl rfl hdg (hM σ1 h1) (kk σ1 h2)

theorem ww_S1_sr {G : GT} {X : CT} {own : String} {cc : ByteArray} {nL n : Nat} {σ : St} {lv : List (Nat × Value)} {pc : Nat} {st : List Value} {k ix nL' : Nat} {y : MethodName} {b : ByteArray} {rt : Option FieldType} {v0 : Value} {a : Nat} {β : Type} {F : Option St} {K : St → Option β} {o : β} (hC : CallS own ix y b nL' rt 1) (cx : Cx G X own cc nL n) (hk : k + 1 ≤ n ∧ nL' ≤ 45) (hst : (st.map fun v => v.category).sum ≤ 8) (hdg : decode cc pc = .ok (.invokestatic ix, 3)) (hM : ∀ σ1 : St, F = some σ1 → MCt G k y b nL' rt [v0] σ (some (.ref a)) σ1) (hF : bp F K = some o) (kk : ∀ σ1 : St, K σ1 = some o → WW G X nL σ1 lv (pc + 3) (.ref a :: st)) : WW G X nL σ lv pc (v0 :: st) := by
  obtain ⟨σ1, h1, h2⟩ := bp_some hF
  exact ww_callS hC cx hk hst rfl rfl hdg (hM σ1 h1) (kk σ1 h2)

theorem ww_V2_pi {G : GT} {X : CT} {own : String} {cc : ByteArray} {nL n : Nat} {σ : St} {lv : List (Nat × Value)} {pc : Nat} {st : List Value} {k ix nL' t ci : Nat} {C : String} {fs : List (Option Nat)} {T : u_T} {N : Nat} {y : MethodName} {b : ByteArray} {rt : Option FieldType} {v0 v1 : Value} {β : Type} {F : Option Int32} {K : Int32 → Option β} {o : β} (hC : CallV own ix C y b nL' rt 2) (hc : clz[ci]? = some (C, T, N)) (cx : Cx G X own cc nL n) (hs : shp[t]? = some (.inr (.inl (ci, fs)))) (hk : k + 1 ≤ n ∧ nL' ≤ 45) (hst : (st.map fun v => v.category).sum ≤ 8) (hdg : decode cc pc = .ok (.invokevirtual ix, 3)) (hM : ∀ r : Int32, F = some r → MCt G k y b nL' rt (.ref (gad G t) :: [v0, v1]) σ (some (.int r)) σ) (hF : bp F K = some o) (kk : ∀ r : Int32, K r = some o → WW G X nL σ lv (pc + 3) (.int r :: st)) : WW G X nL σ lv pc (v1 :: v0 :: .ref (gad G t) :: st) := by
  obtain ⟨r, h1, h2⟩ := bp_some hF
  exact ww_callV hC hc cx hs hk hst rfl rfl hdg (hM r h1) (kk r h2)

theorem ww_V2_pl {G : GT} {X : CT} {own : String} {cc : ByteArray} {nL n : Nat} {σ : St} {lv : List (Nat × Value)} {pc : Nat} {st : List Value} {k ix nL' t ci : Nat} {C : String} {fs : List (Option Nat)} {T : u_T} {N : Nat} {y : MethodName} {b : ByteArray} {rt : Option FieldType} {v0 v1 : Value} {β : Type} {F : Option Int64} {K : Int64 → Option β} {o : β} (hC : CallV own ix C y b nL' rt 2) (hc : clz[ci]? = some (C, T, N)) (cx : Cx G X own cc nL n) (hs : shp[t]? = some (.inr (.inl (ci, fs)))) (hk : k + 1 ≤ n ∧ nL' ≤ 45) (hst : (st.map fun v => v.category).sum ≤ 8) (hdg : decode cc pc = .ok (.invokevirtual ix, 3)) (hM : ∀ r : Int64, F = some r → MCt G k y b nL' rt (.ref (gad G t) :: [v0, v1]) σ (some (.long r)) σ) (hF : bp F K = some o) (kk : ∀ r : Int64, K r = some o → WW G X nL σ lv (pc + 3) (.long r :: st)) : WW G X nL σ lv pc (v1 :: v0 :: .ref (gad G t) :: st) := by
  obtain ⟨r, h1, h2⟩ := bp_some hF
  exact ww_callV hC hc cx hs hk hst rfl rfl hdg (hM r h1) (kk r h2)

theorem ww_V2_si {G : GT} {X : CT} {own : String} {cc : ByteArray} {nL n : Nat} {σ : St} {lv : List (Nat × Value)} {pc : Nat} {st : List Value} {k ix nL' t ci : Nat} {C : String} {fs : List (Option Nat)} {T : u_T} {N : Nat} {y : MethodName} {b : ByteArray} {rt : Option FieldType} {v0 v1 : Value} {β : Type} {F : Option (Int32 × St)} {K : Int32 → St → Option β} {o : β} (hC : CallV own ix C y b nL' rt 2) (hc : clz[ci]? = some (C, T, N)) (cx : Cx G X own cc nL n) (hs : shp[t]? = some (.inr (.inl (ci, fs)))) (hk : k + 1 ≤ n ∧ nL' ≤ 45) (hst : (st.map fun v => v.category).sum ≤ 8) (hdg : decode cc pc = .ok (.invokevirtual ix, 3)) (hM : ∀ (r : Int32) (σ1 : St), F = some (r, σ1) → MCt G k y b nL' rt (.ref (gad G t) :: [v0, v1]) σ (some (.int r)) σ1) (hF : bs F K = some o) (kk : ∀ (r : Int32) (σ1 : St), K r σ1 = some o → WW G X nL σ1 lv (pc + 3) (.int r :: st)) : WW G X nL σ lv pc (v1 :: v0 :: .ref (gad G t) :: st) := by
  obtain ⟨r, σ1, h1, h2⟩ := bs_some hF
  exact ww_callV hC hc cx hs hk hst rfl rfl hdg (hM r σ1 h1) (kk r σ1 h2)

theorem ww_V2_sv {G : GT} {X : CT} {own : String} {cc : ByteArray} {nL n : Nat} {σ : St} {lv : List (Nat × Value)} {pc : Nat} {st : List Value} {k ix nL' t ci : Nat} {C : String} {fs : List (Option Nat)} {T : u_T} {N : Nat} {y : MethodName} {b : ByteArray} {rt : Option FieldType} {v0 v1 : Value} {β : Type} {F : Option St} {K : St → Option β} {o : β} (hC : CallV own ix C y b nL' rt 2) (hc : clz[ci]? = some (C, T, N)) (cx : Cx G X own cc nL n) (hs : shp[t]? = some (.inr (.inl (ci, fs)))) (hk : k + 1 ≤ n ∧ nL' ≤ 45) (hst : (st.map fun v => v.category).sum ≤ 8) (hdg : decode cc pc = .ok (.invokevirtual ix, 3)) (hM : ∀ σ1 : St, F = some σ1 → MCt G k y b nL' rt (.ref (gad G t) :: [v0, v1]) σ none σ1) (hF : bp F K = some o) (kk : ∀ σ1 : St, K σ1 = some o → WW G X nL σ1 lv (pc + 3) st) : WW G X nL σ lv pc (v1 :: v0 :: .ref (gad G t) :: st) := by
  obtain ⟨σ1, h1, h2⟩ := bp_some hF
  exact ww_callV hC hc cx hs hk hst rfl rfl hdg (hM σ1 h1) (kk σ1 h2)

theorem ww_V2_sr {G : GT} {X : CT} {own : String} {cc : ByteArray} {nL n : Nat} {σ : St} {lv : List (Nat × Value)} {pc : Nat} {st : List Value} {k ix nL' t ci : Nat} {C : String} {fs : List (Option Nat)} {T : u_T} {N : Nat} {y : MethodName} {b : ByteArray} {rt : Option FieldType} {v0 v1 : Value} {a : Nat} {β : Type} {F : Option St} {K : St → Option β} {o : β} (hC : CallV own ix C y b nL' rt 2) (hc : clz[ci]? = some (C, T, N)) (cx : Cx G X own cc nL n) (hs : shp[t]? = some (.inr (.inl (ci, fs)))) (hk : k + 1 ≤ n ∧ nL' ≤ 45) (hst : (st.map fun v => v.category).sum ≤ 8) (hdg : decode cc pc = .ok (.invokevirtual ix, 3)) (hM : ∀ σ1 : St, F = some σ1 → MCt G k y b nL' rt (.ref (gad G t) :: [v0, v1]) σ (some (.ref a)) σ1) (hF : bp F K = some o) (kk : ∀ σ1 : St, K σ1 = some o → WW G X nL σ1 lv (pc + 3) (.ref a :: st)) : WW G X nL σ lv pc (v1 :: v0 :: .ref (gad G t) :: st) := by
  obtain ⟨σ1, h1, h2⟩ := bp_some hF
  exact ww_callV hC hc cx hs hk hst rfl rfl hdg (hM σ1 h1) (kk σ1 h2)

theorem ww_S2_pi {G : GT} {X : CT} {own : String} {cc : ByteArray} {nL n : Nat} {σ : St} {lv : List (Nat × Value)} {pc : Nat} {st : List Value} {k ix nL' : Nat} {y : MethodName} {b : ByteArray} {rt : Option FieldType} {v0 v1 : Value} {β : Type} {F : Option Int32} {K : Int32 → Option β} {o : β} (hC : CallS own ix y b nL' rt 2) (cx : Cx G X own cc nL n) (hk : k + 1 ≤ n ∧ nL' ≤ 45) (hst : (st.map fun v => v.category).sum ≤ 8) (hdg : decode cc pc = .ok (.invokestatic ix, 3)) (hM : ∀ r : Int32, F = some r → MCt G k y b nL' rt [v0, v1] σ (some (.int r)) σ) (hF : bp F K = some o) (kk : ∀ r : Int32, K r = some o → WW G X nL σ lv (pc + 3) (.int r :: st)) : WW G X nL σ lv pc (v1 :: v0 :: st) := by
  obtain ⟨r, h1, h2⟩ := bp_some hF
  exact ww_callS hC cx hk hst rfl rfl hdg (hM r h1) (kk r h2)

theorem ww_S2_pl {G : GT} {X : CT} {own : String} {cc : ByteArray} {nL n : Nat} {σ : St} {lv : List (Nat × Value)} {pc : Nat} {st : List Value} {k ix nL' : Nat} {y : MethodName} {b : ByteArray} {rt : Option FieldType} {v0 v1 : Value} {β : Type} {F : Option Int64} {K : Int64 → Option β} {o : β} (hC : CallS own ix y b nL' rt 2) (cx : Cx G X own cc nL n) (hk : k + 1 ≤ n ∧ nL' ≤ 45) (hst : (st.map fun v => v.category).sum ≤ 8) (hdg : decode cc pc = .ok (.invokestatic ix, 3)) (hM : ∀ r : Int64, F = some r → MCt G k y b nL' rt [v0, v1] σ (some (.long r)) σ) (hF : bp F K = some o) (kk : ∀ r : Int64, K r = some o → WW G X nL σ lv (pc + 3) (.long r :: st)) : WW G X nL σ lv pc (v1 :: v0 :: st) := by
  obtain ⟨r, h1, h2⟩ := bp_some hF
  exact ww_callS hC cx hk hst rfl rfl hdg (hM r h1) (kk r h2)

theorem ww_S2_si {G : GT} {X : CT} {own : String} {cc : ByteArray} {nL n : Nat} {σ : St} {lv : List (Nat × Value)} {pc : Nat} {st : List Value} {k ix nL' : Nat} {y : MethodName} {b : ByteArray} {rt : Option FieldType} {v0 v1 : Value} {β : Type} {F : Option (Int32 × St)} {K : Int32 → St → Option β} {o : β} (hC : CallS own ix y b nL' rt 2) (cx : Cx G X own cc nL n) (hk : k + 1 ≤ n ∧ nL' ≤ 45) (hst : (st.map fun v => v.category).sum ≤ 8) (hdg : decode cc pc = .ok (.invokestatic ix, 3)) (hM : ∀ (r : Int32) (σ1 : St), F = some (r, σ1) → MCt G k y b nL' rt [v0, v1] σ (some (.int r)) σ1) (hF : bs F K = some o) (kk : ∀ (r : Int32) (σ1 : St), K r σ1 = some o → WW G X nL σ1 lv (pc + 3) (.int r :: st)) : WW G X nL σ lv pc (v1 :: v0 :: st) := by
  obtain ⟨r, σ1, h1, h2⟩ := bs_some hF
  exact ww_callS hC cx hk hst rfl rfl hdg (hM r σ1 h1) (kk r σ1 h2)

theorem ww_S2_sv {G : GT} {X : CT} {own : String} {cc : ByteArray} {nL n : Nat} {σ : St} {lv : List (Nat × Value)} {pc : Nat} {st : List Value} {k ix nL' : Nat} {y : MethodName} {b : ByteArray} {rt : Option FieldType} {v0 v1 : Value} {β : Type} {F : Option St} {K : St → Option β} {o : β} (hC : CallS own ix y b nL' rt 2) (cx : Cx G X own cc nL n) (hk : k + 1 ≤ n ∧ nL' ≤ 45) (hst : (st.map fun v => v.category).sum ≤ 8) (hdg : decode cc pc = .ok (.invokestatic ix, 3)) (hM : ∀ σ1 : St, F = some σ1 → MCt G k y b nL' rt [v0, v1] σ none σ1) (hF : bp F K = some o) (kk : ∀ σ1 : St, K σ1 = some o → WW G X nL σ1 lv (pc + 3) st) : WW G X nL σ lv pc (v1 :: v0 :: st) := by
  obtain ⟨σ1, h1, h2⟩ := bp_some hF
  exact ww_callS hC cx hk hst rfl rfl hdg (hM σ1 h1) (kk σ1 h2)

theorem ww_S2_sr {G : GT} {X : CT} {own : String} {cc : ByteArray} {nL n : Nat} {σ : St} {lv : List (Nat × Value)} {pc : Nat} {st : List Value} {k ix nL' : Nat} {y : MethodName} {b : ByteArray} {rt : Option FieldType} {v0 v1 : Value} {a : Nat} {β : Type} {F : Option St} {K : St → Option β} {o : β} (hC : CallS own ix y b nL' rt 2) (cx : Cx G X own cc nL n) (hk : k + 1 ≤ n ∧ nL' ≤ 45) (hst : (st.map fun v => v.category).sum ≤ 8) (hdg : decode cc pc = .ok (.invokestatic ix, 3)) (hM : ∀ σ1 : St, F = some σ1 → MCt G k y b nL' rt [v0, v1] σ (some (.ref a)) σ1) (hF : bp F K = some o) (kk : ∀ σ1 : St, K σ1 = some o → WW G X nL σ1 lv (pc + 3) (.ref a :: st)) : WW G X nL σ lv pc (v1 :: v0 :: st) := by
  obtain ⟨σ1, h1, h2⟩ := bp_some hF
  exact ww_callS hC cx hk hst rfl rfl hdg (hM σ1 h1) (kk σ1 h2)

theorem ww_V3_pi {G : GT} {X : CT} {own : String} {cc : ByteArray} {nL n : Nat} {σ : St} {lv : List (Nat × Value)} {pc : Nat} {st : List Value} {k ix nL' t ci : Nat} {C : String} {fs : List (Option Nat)} {T : u_T} {N : Nat} {y : MethodName} {b : ByteArray} {rt : Option FieldType} {v0 v1 v2 : Value} {β : Type} {F : Option Int32} {K : Int32 → Option β} {o : β} (hC : CallV own ix C y b nL' rt 3) (hc : clz[ci]? = some (C, T, N)) (cx : Cx G X own cc nL n) (hs : shp[t]? = some (.inr (.inl (ci, fs)))) (hk : k + 1 ≤ n ∧ nL' ≤ 45) (hst : (st.map fun v => v.category).sum ≤ 8) (hdg : decode cc pc = .ok (.invokevirtual ix, 3)) (hM : ∀ r : Int32, F = some r → MCt G k y b nL' rt (.ref (gad G t) :: [v0, v1, v2]) σ (some (.int r)) σ) (hF : bp F K = some o) (kk : ∀ r : Int32, K r = some o → WW G X nL σ lv (pc + 3) (.int r :: st)) : WW G X nL σ lv pc (v2 :: v1 :: v0 :: .ref (gad G t) :: st) := by
  obtain ⟨r, h1, h2⟩ := bp_some hF
  exact ww_callV hC hc cx hs hk hst rfl rfl hdg (hM r h1) (kk r h2)

theorem ww_V3_si {G : GT} {X : CT} {own : String} {cc : ByteArray} {nL n : Nat} {σ : St} {lv : List (Nat × Value)} {pc : Nat} {st : List Value} {k ix nL' t ci : Nat} {C : String} {fs : List (Option Nat)} {T : u_T} {N : Nat} {y : MethodName} {b : ByteArray} {rt : Option FieldType} {v0 v1 v2 : Value} {β : Type} {F : Option (Int32 × St)} {K : Int32 → St → Option β} {o : β} (hC : CallV own ix C y b nL' rt 3) (hc : clz[ci]? = some (C, T, N)) (cx : Cx G X own cc nL n) (hs : shp[t]? = some (.inr (.inl (ci, fs)))) (hk : k + 1 ≤ n ∧ nL' ≤ 45) (hst : (st.map fun v => v.category).sum ≤ 8) (hdg : decode cc pc = .ok (.invokevirtual ix, 3)) (hM : ∀ (r : Int32) (σ1 : St), F = some (r, σ1) → MCt G k y b nL' rt (.ref (gad G t) :: [v0, v1, v2]) σ (some (.int r)) σ1) (hF : bs F K = some o) (kk : ∀ (r : Int32) (σ1 : St), K r σ1 = some o → WW G X nL σ1 lv (pc + 3) (.int r :: st)) : WW G X nL σ lv pc (v2 :: v1 :: v0 :: .ref (gad G t) :: st) := by
  obtain ⟨r, σ1, h1, h2⟩ := bs_some hF
  exact ww_callV hC hc cx hs hk hst rfl rfl hdg (hM r σ1 h1) (kk r σ1 h2)

theorem ww_V3_sv {G : GT} {X : CT} {own : String} {cc : ByteArray} {nL n : Nat} {σ : St} {lv : List (Nat × Value)} {pc : Nat} {st : List Value} {k ix nL' t ci : Nat} {C : String} {fs : List (Option Nat)} {T : u_T} {N : Nat} {y : MethodName} {b : ByteArray} {rt : Option FieldType} {v0 v1 v2 : Value} {β : Type} {F : Option St} {K : St → Option β} {o : β} (hC : CallV own ix C y b nL' rt 3) (hc : clz[ci]? = some (C, T, N)) (cx : Cx G X own cc nL n) (hs : shp[t]? = some (.inr (.inl (ci, fs)))) (hk : k + 1 ≤ n ∧ nL' ≤ 45) (hst : (st.map fun v => v.category).sum ≤ 8) (hdg : decode cc pc = .ok (.invokevirtual ix, 3)) (hM : ∀ σ1 : St, F = some σ1 → MCt G k y b nL' rt (.ref (gad G t) :: [v0, v1, v2]) σ none σ1) (hF : bp F K = some o) (kk : ∀ σ1 : St, K σ1 = some o → WW G X nL σ1 lv (pc + 3) st) : WW G X nL σ lv pc (v2 :: v1 :: v0 :: .ref (gad G t) :: st) := by
  obtain ⟨σ1, h1, h2⟩ := bp_some hF
  exact ww_callV hC hc cx hs hk hst rfl rfl hdg (hM σ1 h1) (kk σ1 h2)

theorem ww_S3_pi {G : GT} {X : CT} {own : String} {cc : ByteArray} {nL n : Nat} {σ : St} {lv : List (Nat × Value)} {pc : Nat} {st : List Value} {k ix nL' : Nat} {y : MethodName} {b : ByteArray} {rt : Option FieldType} {v0 v1 v2 : Value} {β : Type} {F : Option Int32} {K : Int32 → Option β} {o : β} (hC : CallS own ix y b nL' rt 3) (cx : Cx G X own cc nL n) (hk : k + 1 ≤ n ∧ nL' ≤ 45) (hst : (st.map fun v => v.category).sum ≤ 8) (hdg : decode cc pc = .ok (.invokestatic ix, 3)) (hM : ∀ r : Int32, F = some r → MCt G k y b nL' rt [v0, v1, v2] σ (some (.int r)) σ) (hF : bp F K = some o) (kk : ∀ r : Int32, K r = some o → WW G X nL σ lv (pc + 3) (.int r :: st)) : WW G X nL σ lv pc (v2 :: v1 :: v0 :: st) := by
  obtain ⟨r, h1, h2⟩ := bp_some hF
  exact ww_callS hC cx hk hst rfl rfl hdg (hM r h1) (kk r h2)

theorem ww_S3_si {G : GT} {X : CT} {own : String} {cc : ByteArray} {nL n : Nat} {σ : St} {lv : List (Nat × Value)} {pc : Nat} {st : List Value} {k ix nL' : Nat} {y : MethodName} {b : ByteArray} {rt : Option FieldType} {v0 v1 v2 : Value} {β : Type} {F : Option (Int32 × St)} {K : Int32 → St → Option β} {o : β} (hC : CallS own ix y b nL' rt 3) (cx : Cx G X own cc nL n) (hk : k + 1 ≤ n ∧ nL' ≤ 45) (hst : (st.map fun v => v.category).sum ≤ 8) (hdg : decode cc pc = .ok (.invokestatic ix, 3)) (hM : ∀ (r : Int32) (σ1 : St), F = some (r, σ1) → MCt G k y b nL' rt [v0, v1, v2] σ (some (.int r)) σ1) (hF : bs F K = some o) (kk : ∀ (r : Int32) (σ1 : St), K r σ1 = some o → WW G X nL σ1 lv (pc + 3) (.int r :: st)) : WW G X nL σ lv pc (v2 :: v1 :: v0 :: st) := by
  obtain ⟨r, σ1, h1, h2⟩ := bs_some hF
  exact ww_callS hC cx hk hst rfl rfl hdg (hM r σ1 h1) (kk r σ1 h2)

theorem ww_S3_sv {G : GT} {X : CT} {own : String} {cc : ByteArray} {nL n : Nat} {σ : St} {lv : List (Nat × Value)} {pc : Nat} {st : List Value} {k ix nL' : Nat} {y : MethodName} {b : ByteArray} {rt : Option FieldType} {v0 v1 v2 : Value} {β : Type} {F : Option St} {K : St → Option β} {o : β} (hC : CallS own ix y b nL' rt 3) (cx : Cx G X own cc nL n) (hk : k + 1 ≤ n ∧ nL' ≤ 45) (hst : (st.map fun v => v.category).sum ≤ 8) (hdg : decode cc pc = .ok (.invokestatic ix, 3)) (hM : ∀ σ1 : St, F = some σ1 → MCt G k y b nL' rt [v0, v1, v2] σ none σ1) (hF : bp F K = some o) (kk : ∀ σ1 : St, K σ1 = some o → WW G X nL σ1 lv (pc + 3) st) : WW G X nL σ lv pc (v2 :: v1 :: v0 :: st) := by
  obtain ⟨σ1, h1, h2⟩ := bp_some hF
  exact ww_callS hC cx hk hst rfl rfl hdg (hM σ1 h1) (kk σ1 h2)

theorem ww_V4_pi {G : GT} {X : CT} {own : String} {cc : ByteArray} {nL n : Nat} {σ : St} {lv : List (Nat × Value)} {pc : Nat} {st : List Value} {k ix nL' t ci : Nat} {C : String} {fs : List (Option Nat)} {T : u_T} {N : Nat} {y : MethodName} {b : ByteArray} {rt : Option FieldType} {v0 v1 v2 v3 : Value} {β : Type} {F : Option Int32} {K : Int32 → Option β} {o : β} (hC : CallV own ix C y b nL' rt 4) (hc : clz[ci]? = some (C, T, N)) (cx : Cx G X own cc nL n) (hs : shp[t]? = some (.inr (.inl (ci, fs)))) (hk : k + 1 ≤ n ∧ nL' ≤ 45) (hst : (st.map fun v => v.category).sum ≤ 8) (hdg : decode cc pc = .ok (.invokevirtual ix, 3)) (hM : ∀ r : Int32, F = some r → MCt G k y b nL' rt (.ref (gad G t) :: [v0, v1, v2, v3]) σ (some (.int r)) σ) (hF : bp F K = some o) (kk : ∀ r : Int32, K r = some o → WW G X nL σ lv (pc + 3) (.int r :: st)) : WW G X nL σ lv pc (v3 :: v2 :: v1 :: v0 :: .ref (gad G t) :: st) := by
  obtain ⟨r, h1, h2⟩ := bp_some hF
  exact ww_callV hC hc cx hs hk hst rfl rfl hdg (hM r h1) (kk r h2)

theorem ww_V4_si {G : GT} {X : CT} {own : String} {cc : ByteArray} {nL n : Nat} {σ : St} {lv : List (Nat × Value)} {pc : Nat} {st : List Value} {k ix nL' t ci : Nat} {C : String} {fs : List (Option Nat)} {T : u_T} {N : Nat} {y : MethodName} {b : ByteArray} {rt : Option FieldType} {v0 v1 v2 v3 : Value} {β : Type} {F : Option (Int32 × St)} {K : Int32 → St → Option β} {o : β} (hC : CallV own ix C y b nL' rt 4) (hc : clz[ci]? = some (C, T, N)) (cx : Cx G X own cc nL n) (hs : shp[t]? = some (.inr (.inl (ci, fs)))) (hk : k + 1 ≤ n ∧ nL' ≤ 45) (hst : (st.map fun v => v.category).sum ≤ 8) (hdg : decode cc pc = .ok (.invokevirtual ix, 3)) (hM : ∀ (r : Int32) (σ1 : St), F = some (r, σ1) → MCt G k y b nL' rt (.ref (gad G t) :: [v0, v1, v2, v3]) σ (some (.int r)) σ1) (hF : bs F K = some o) (kk : ∀ (r : Int32) (σ1 : St), K r σ1 = some o → WW G X nL σ1 lv (pc + 3) (.int r :: st)) : WW G X nL σ lv pc (v3 :: v2 :: v1 :: v0 :: .ref (gad G t) :: st) := by
  obtain ⟨r, σ1, h1, h2⟩ := bs_some hF
  exact ww_callV hC hc cx hs hk hst rfl rfl hdg (hM r σ1 h1) (kk r σ1 h2)

theorem ww_V4_sv {G : GT} {X : CT} {own : String} {cc : ByteArray} {nL n : Nat} {σ : St} {lv : List (Nat × Value)} {pc : Nat} {st : List Value} {k ix nL' t ci : Nat} {C : String} {fs : List (Option Nat)} {T : u_T} {N : Nat} {y : MethodName} {b : ByteArray} {rt : Option FieldType} {v0 v1 v2 v3 : Value} {β : Type} {F : Option St} {K : St → Option β} {o : β} (hC : CallV own ix C y b nL' rt 4) (hc : clz[ci]? = some (C, T, N)) (cx : Cx G X own cc nL n) (hs : shp[t]? = some (.inr (.inl (ci, fs)))) (hk : k + 1 ≤ n ∧ nL' ≤ 45) (hst : (st.map fun v => v.category).sum ≤ 8) (hdg : decode cc pc = .ok (.invokevirtual ix, 3)) (hM : ∀ σ1 : St, F = some σ1 → MCt G k y b nL' rt (.ref (gad G t) :: [v0, v1, v2, v3]) σ none σ1) (hF : bp F K = some o) (kk : ∀ σ1 : St, K σ1 = some o → WW G X nL σ1 lv (pc + 3) st) : WW G X nL σ lv pc (v3 :: v2 :: v1 :: v0 :: .ref (gad G t) :: st) := by
  obtain ⟨σ1, h1, h2⟩ := bp_some hF
  exact ww_callV hC hc cx hs hk hst rfl rfl hdg (hM σ1 h1) (kk σ1 h2)

theorem ww_S4_pi {G : GT} {X : CT} {own : String} {cc : ByteArray} {nL n : Nat} {σ : St} {lv : List (Nat × Value)} {pc : Nat} {st : List Value} {k ix nL' : Nat} {y : MethodName} {b : ByteArray} {rt : Option FieldType} {v0 v1 v2 v3 : Value} {β : Type} {F : Option Int32} {K : Int32 → Option β} {o : β} (hC : CallS own ix y b nL' rt 4) (cx : Cx G X own cc nL n) (hk : k + 1 ≤ n ∧ nL' ≤ 45) (hst : (st.map fun v => v.category).sum ≤ 8) (hdg : decode cc pc = .ok (.invokestatic ix, 3)) (hM : ∀ r : Int32, F = some r → MCt G k y b nL' rt [v0, v1, v2, v3] σ (some (.int r)) σ) (hF : bp F K = some o) (kk : ∀ r : Int32, K r = some o → WW G X nL σ lv (pc + 3) (.int r :: st)) : WW G X nL σ lv pc (v3 :: v2 :: v1 :: v0 :: st) := by
  obtain ⟨r, h1, h2⟩ := bp_some hF
  exact ww_callS hC cx hk hst rfl rfl hdg (hM r h1) (kk r h2)

theorem ww_S4_si {G : GT} {X : CT} {own : String} {cc : ByteArray} {nL n : Nat} {σ : St} {lv : List (Nat × Value)} {pc : Nat} {st : List Value} {k ix nL' : Nat} {y : MethodName} {b : ByteArray} {rt : Option FieldType} {v0 v1 v2 v3 : Value} {β : Type} {F : Option (Int32 × St)} {K : Int32 → St → Option β} {o : β} (hC : CallS own ix y b nL' rt 4) (cx : Cx G X own cc nL n) (hk : k + 1 ≤ n ∧ nL' ≤ 45) (hst : (st.map fun v => v.category).sum ≤ 8) (hdg : decode cc pc = .ok (.invokestatic ix, 3)) (hM : ∀ (r : Int32) (σ1 : St), F = some (r, σ1) → MCt G k y b nL' rt [v0, v1, v2, v3] σ (some (.int r)) σ1) (hF : bs F K = some o) (kk : ∀ (r : Int32) (σ1 : St), K r σ1 = some o → WW G X nL σ1 lv (pc + 3) (.int r :: st)) : WW G X nL σ lv pc (v3 :: v2 :: v1 :: v0 :: st) := by
  obtain ⟨r, σ1, h1, h2⟩ := bs_some hF
  exact ww_callS hC cx hk hst rfl rfl hdg (hM r σ1 h1) (kk r σ1 h2)

theorem ww_S4_sv {G : GT} {X : CT} {own : String} {cc : ByteArray} {nL n : Nat} {σ : St} {lv : List (Nat × Value)} {pc : Nat} {st : List Value} {k ix nL' : Nat} {y : MethodName} {b : ByteArray} {rt : Option FieldType} {v0 v1 v2 v3 : Value} {β : Type} {F : Option St} {K : St → Option β} {o : β} (hC : CallS own ix y b nL' rt 4) (cx : Cx G X own cc nL n) (hk : k + 1 ≤ n ∧ nL' ≤ 45) (hst : (st.map fun v => v.category).sum ≤ 8) (hdg : decode cc pc = .ok (.invokestatic ix, 3)) (hM : ∀ σ1 : St, F = some σ1 → MCt G k y b nL' rt [v0, v1, v2, v3] σ none σ1) (hF : bp F K = some o) (kk : ∀ σ1 : St, K σ1 = some o → WW G X nL σ1 lv (pc + 3) st) : WW G X nL σ lv pc (v3 :: v2 :: v1 :: v0 :: st) := by
  obtain ⟨σ1, h1, h2⟩ := bp_some hF
  exact ww_callS hC cx hk hst rfl rfl hdg (hM σ1 h1) (kk σ1 h2)

theorem ww_V5_pi {G : GT} {X : CT} {own : String} {cc : ByteArray} {nL n : Nat} {σ : St} {lv : List (Nat × Value)} {pc : Nat} {st : List Value} {k ix nL' t ci : Nat} {C : String} {fs : List (Option Nat)} {T : u_T} {N : Nat} {y : MethodName} {b : ByteArray} {rt : Option FieldType} {v0 v1 v2 v3 v4 : Value} {β : Type} {F : Option Int32} {K : Int32 → Option β} {o : β} (hC : CallV own ix C y b nL' rt 5) (hc : clz[ci]? = some (C, T, N)) (cx : Cx G X own cc nL n) (hs : shp[t]? = some (.inr (.inl (ci, fs)))) (hk : k + 1 ≤ n ∧ nL' ≤ 45) (hst : (st.map fun v => v.category).sum ≤ 8) (hdg : decode cc pc = .ok (.invokevirtual ix, 3)) (hM : ∀ r : Int32, F = some r → MCt G k y b nL' rt (.ref (gad G t) :: [v0, v1, v2, v3, v4]) σ (some (.int r)) σ) (hF : bp F K = some o) (kk : ∀ r : Int32, K r = some o → WW G X nL σ lv (pc + 3) (.int r :: st)) : WW G X nL σ lv pc (v4 :: v3 :: v2 :: v1 :: v0 :: .ref (gad G t) :: st) := by
  obtain ⟨r, h1, h2⟩ := bp_some hF
  exact ww_callV hC hc cx hs hk hst rfl rfl hdg (hM r h1) (kk r h2)

theorem ww_V5_si {G : GT} {X : CT} {own : String} {cc : ByteArray} {nL n : Nat} {σ : St} {lv : List (Nat × Value)} {pc : Nat} {st : List Value} {k ix nL' t ci : Nat} {C : String} {fs : List (Option Nat)} {T : u_T} {N : Nat} {y : MethodName} {b : ByteArray} {rt : Option FieldType} {v0 v1 v2 v3 v4 : Value} {β : Type} {F : Option (Int32 × St)} {K : Int32 → St → Option β} {o : β} (hC : CallV own ix C y b nL' rt 5) (hc : clz[ci]? = some (C, T, N)) (cx : Cx G X own cc nL n) (hs : shp[t]? = some (.inr (.inl (ci, fs)))) (hk : k + 1 ≤ n ∧ nL' ≤ 45) (hst : (st.map fun v => v.category).sum ≤ 8) (hdg : decode cc pc = .ok (.invokevirtual ix, 3)) (hM : ∀ (r : Int32) (σ1 : St), F = some (r, σ1) → MCt G k y b nL' rt (.ref (gad G t) :: [v0, v1, v2, v3, v4]) σ (some (.int r)) σ1) (hF : bs F K = some o) (kk : ∀ (r : Int32) (σ1 : St), K r σ1 = some o → WW G X nL σ1 lv (pc + 3) (.int r :: st)) : WW G X nL σ lv pc (v4 :: v3 :: v2 :: v1 :: v0 :: .ref (gad G t) :: st) := by
  obtain ⟨r, σ1, h1, h2⟩ := bs_some hF
  exact ww_callV hC hc cx hs hk hst rfl rfl hdg (hM r σ1 h1) (kk r σ1 h2)

theorem ww_V5_sv {G : GT} {X : CT} {own : String} {cc : ByteArray} {nL n : Nat} {σ : St} {lv : List (Nat × Value)} {pc : Nat} {st : List Value} {k ix nL' t ci : Nat} {C : String} {fs : List (Option Nat)} {T : u_T} {N : Nat} {y : MethodName} {b : ByteArray} {rt : Option FieldType} {v0 v1 v2 v3 v4 : Value} {β : Type} {F : Option St} {K : St → Option β} {o : β} (hC : CallV own ix C y b nL' rt 5) (hc : clz[ci]? = some (C, T, N)) (cx : Cx G X own cc nL n) (hs : shp[t]? = some (.inr (.inl (ci, fs)))) (hk : k + 1 ≤ n ∧ nL' ≤ 45) (hst : (st.map fun v => v.category).sum ≤ 8) (hdg : decode cc pc = .ok (.invokevirtual ix, 3)) (hM : ∀ σ1 : St, F = some σ1 → MCt G k y b nL' rt (.ref (gad G t) :: [v0, v1, v2, v3, v4]) σ none σ1) (hF : bp F K = some o) (kk : ∀ σ1 : St, K σ1 = some o → WW G X nL σ1 lv (pc + 3) st) : WW G X nL σ lv pc (v4 :: v3 :: v2 :: v1 :: v0 :: .ref (gad G t) :: st) := by
  obtain ⟨σ1, h1, h2⟩ := bp_some hF
  exact ww_callV hC hc cx hs hk hst rfl rfl hdg (hM σ1 h1) (kk σ1 h2)

theorem ww_S5_pi {G : GT} {X : CT} {own : String} {cc : ByteArray} {nL n : Nat} {σ : St} {lv : List (Nat × Value)} {pc : Nat} {st : List Value} {k ix nL' : Nat} {y : MethodName} {b : ByteArray} {rt : Option FieldType} {v0 v1 v2 v3 v4 : Value} {β : Type} {F : Option Int32} {K : Int32 → Option β} {o : β} (hC : CallS own ix y b nL' rt 5) (cx : Cx G X own cc nL n) (hk : k + 1 ≤ n ∧ nL' ≤ 45) (hst : (st.map fun v => v.category).sum ≤ 8) (hdg : decode cc pc = .ok (.invokestatic ix, 3)) (hM : ∀ r : Int32, F = some r → MCt G k y b nL' rt [v0, v1, v2, v3, v4] σ (some (.int r)) σ) (hF : bp F K = some o) (kk : ∀ r : Int32, K r = some o → WW G X nL σ lv (pc + 3) (.int r :: st)) : WW G X nL σ lv pc (v4 :: v3 :: v2 :: v1 :: v0 :: st) := by
  obtain ⟨r, h1, h2⟩ := bp_some hF
  exact ww_callS hC cx hk hst rfl rfl hdg (hM r h1) (kk r h2)

theorem ww_S5_si {G : GT} {X : CT} {own : String} {cc : ByteArray} {nL n : Nat} {σ : St} {lv : List (Nat × Value)} {pc : Nat} {st : List Value} {k ix nL' : Nat} {y : MethodName} {b : ByteArray} {rt : Option FieldType} {v0 v1 v2 v3 v4 : Value} {β : Type} {F : Option (Int32 × St)} {K : Int32 → St → Option β} {o : β} (hC : CallS own ix y b nL' rt 5) (cx : Cx G X own cc nL n) (hk : k + 1 ≤ n ∧ nL' ≤ 45) (hst : (st.map fun v => v.category).sum ≤ 8) (hdg : decode cc pc = .ok (.invokestatic ix, 3)) (hM : ∀ (r : Int32) (σ1 : St), F = some (r, σ1) → MCt G k y b nL' rt [v0, v1, v2, v3, v4] σ (some (.int r)) σ1) (hF : bs F K = some o) (kk : ∀ (r : Int32) (σ1 : St), K r σ1 = some o → WW G X nL σ1 lv (pc + 3) (.int r :: st)) : WW G X nL σ lv pc (v4 :: v3 :: v2 :: v1 :: v0 :: st) := by
  obtain ⟨r, σ1, h1, h2⟩ := bs_some hF
  exact ww_callS hC cx hk hst rfl rfl hdg (hM r σ1 h1) (kk r σ1 h2)

theorem ww_S5_sv {G : GT} {X : CT} {own : String} {cc : ByteArray} {nL n : Nat} {σ : St} {lv : List (Nat × Value)} {pc : Nat} {st : List Value} {k ix nL' : Nat} {y : MethodName} {b : ByteArray} {rt : Option FieldType} {v0 v1 v2 v3 v4 : Value} {β : Type} {F : Option St} {K : St → Option β} {o : β} (hC : CallS own ix y b nL' rt 5) (cx : Cx G X own cc nL n) (hk : k + 1 ≤ n ∧ nL' ≤ 45) (hst : (st.map fun v => v.category).sum ≤ 8) (hdg : decode cc pc = .ok (.invokestatic ix, 3)) (hM : ∀ σ1 : St, F = some σ1 → MCt G k y b nL' rt [v0, v1, v2, v3, v4] σ none σ1) (hF : bp F K = some o) (kk : ∀ σ1 : St, K σ1 = some o → WW G X nL σ1 lv (pc + 3) st) : WW G X nL σ lv pc (v4 :: v3 :: v2 :: v1 :: v0 :: st) := by
  obtain ⟨σ1, h1, h2⟩ := bp_some hF
  exact ww_callS hC cx hk hst rfl rfl hdg (hM σ1 h1) (kk σ1 h2)

theorem met_core {G : GT} {k : Nat} {y : MethodName} {b : ByteArray} {nL : Nat} {rt : Option FieldType} {as : List Value} {σ : St} {rv : Option Value} {σ1 : St} {EndP : CT → Prop} (hy : plainName y.cls = true) (hsl : (lg_sl as).length ≤ nL)
    (hEnd : ∀ (p : Program) (e : Env) (R : Room) (s : State) (m : MethodId) (args : Array Value) (below : List Frame) (meth : Method) (c : Code) (A : Nat → Prop), p.tables.exec = Jvm.exec → c.code = b → meth.sig.returnType = rt → meth.locks = false → EndP (p, e, R, s, m, args, below, meth, c, MQ below (fun _ st oc t => oc = .returned rv ∧ va_P G.2.1 clz (wld G σ1) t.heap ∧ va_F A st t) args s 0 0 A, A, 0, 0))
    (body : ∀ X : CT, Cx G X y.cls b nL k → EndP X → WW G X nL σ (lv_args 0 as) 0 []) : MCt G k y b nL rt as σ rv σ1 := by
  intro sz
  refine Met.ofW (cc := b) (maxL := nL) (ret := rt) hy rfl ?_
  intro p e s m args below meth c s₁ B hml hv
  obtain ⟨rfl, hsz, hP, hG⟩ := hv
  have hts := atoms_spec (ws := .code y b nL rt :: TBL) B.pre
  subst hsz
  generalize hAe : va_A (wld G σ) s.heap.size = A at hG ⊢
  have hA : ∀ q : Nat, s.heap.size ≤ q → A q := fun q h => by rw [← hAe]; exact Or.inr h
  have hl := lv_entry as hsl
  rw [lg_entry_eq]
  have h0 := body (p, e, rmL k, s, m, as.toArray, below, meth, c, MQ below (fun _ st oc t => oc = .returned rv ∧ va_P G.2.1 clz (wld G σ1) t.heap ∧ va_F A st t) as.toArray s 0 0 A, A, 0, 0) ⟨B.exec, B.bytes, hml, findClass_of_methodNamed B.named, fun w hw => hts w (List.mem_cons_of_mem _ hw), hG, hA, ⟨Nat.le_refl _, Nat.le_refl _⟩, ⟨Nat.le_refl _, Nat.le_refl _⟩⟩ (hEnd _ _ _ _ _ _ _ _ _ _ B.exec B.bytes B.returns B.notSynchronized)
  exact h0 s.heap [] _ hl hP va_S.rf

theorem met_i {G : GT} {k : Nat} {y : MethodName} {b : ByteArray} {nL : Nat} {as : List Value} {σ : St} {r : Int32} {σ1 : St} (hy : plainName y.cls = true) (hsl : (lg_sl as).length ≤ nL) (body : ∀ X : CT, Cx G X y.cls b nL k → (∀ (lv : List (Nat × Value)) (pc : Nat), decode b pc = .ok (.ireturn, 1) → WW G X nL σ1 lv pc [.int r]) → WW G X nL σ (lv_args 0 as) 0 []) : MCt G k y b nL (some .int) as σ (some (.int r)) σ1 :=
  met_core (EndP := fun X => ∀ (lv : List (Nat × Value)) (pc : Nat), decode b pc = .ok (.ireturn, 1) → WW G X nL σ1 lv pc [.int r]) hy hsl (fun p e R s m args below meth c A hx hb hr hlocks lv pc hdg H locs ls hl hP hS => W.iret hx hb hr (fun t ht hW => ⟨rfl, by rw [ht]; exact hP, hS.F ht⟩) hS.2.2 hdg) body

theorem met_z {G : GT} {k : Nat} {y : MethodName} {b : ByteArray} {nL : Nat} {as : List Value} {σ : St} {r : Int32} {σ1 : St} (hy : plainName y.cls = true) (hsl : (lg_sl as).length ≤ nL) (hz : r = 0 ∨ r = 1) (body : ∀ X : CT, Cx G X y.cls b nL k → (∀ (lv : List (Nat × Value)) (pc : Nat), decode b pc = .ok (.ireturn, 1) → WW G X nL σ1 lv pc [.int r]) → WW G X nL σ (lv_args 0 as) 0 []) : MCt G k y b nL (some .boolean) as σ (some (.int r)) σ1 :=
  met_core (EndP := fun X => ∀ (lv : List (Nat × Value)) (pc : Nat), decode b pc = .ok (.ireturn, 1) → WW G X nL σ1 lv pc [.int r]) hy hsl (fun p e R s m args below meth c A hx hb hr hlocks lv pc hdg H locs ls hl hP hS => W.zret hx hb hr (by rcases hz with rfl | rfl <;> rfl) (fun t ht hW => ⟨rfl, by rw [ht]; exact hP, hS.F ht⟩) hS.2.2 hdg) body

theorem met_v {G : GT} {k : Nat} {y : MethodName} {b : ByteArray} {nL : Nat} {as : List Value} {σ : St} {σ1 : St} (hy : plainName y.cls = true) (hsl : (lg_sl as).length ≤ nL) (body : ∀ X : CT, Cx G X y.cls b nL k → (∀ (lv : List (Nat × Value)) (pc : Nat), decode b pc = .ok (.return_, 1) → WW G X nL σ1 lv pc []) → WW G X nL σ (lv_args 0 as) 0 []) : MCt G k y b nL (none) as σ (none) σ1 :=
  met_core (EndP := fun X => ∀ (lv : List (Nat × Value)) (pc : Nat), decode b pc = .ok (.return_, 1) → WW G X nL σ1 lv pc []) hy hsl (fun p e R s m args below meth c A hx hb hr hlocks lv pc hdg H locs ls hl hP hS => W.vret hx hb hr (fun t ht hW => ⟨rfl, by rw [ht]; exact hP, hS.F ht⟩) hS.2.2 hdg) body

theorem met_l {G : GT} {k : Nat} {y : MethodName} {b : ByteArray} {nL : Nat} {as : List Value} {σ : St} {r : Int64} {σ1 : St} (hy : plainName y.cls = true) (hsl : (lg_sl as).length ≤ nL) (body : ∀ X : CT, Cx G X y.cls b nL k → (∀ (lv : List (Nat × Value)) (pc : Nat), decode b pc = .ok (.lreturn, 1) → WW G X nL σ1 lv pc [.long r]) → WW G X nL σ (lv_args 0 as) 0 []) : MCt G k y b nL (some .long) as σ (some (.long r)) σ1 :=
  met_core (EndP := fun X => ∀ (lv : List (Nat × Value)) (pc : Nat), decode b pc = .ok (.lreturn, 1) → WW G X nL σ1 lv pc [.long r]) hy hsl (fun p e R s m args below meth c A hx hb hr hlocks lv pc hdg H locs ls hl hP hS => W.lret hx hb hr (fun t ht hW => ⟨rfl, by rw [ht]; exact hP, hS.F ht⟩) hS.2.2 hdg) body

theorem met_a {G : GT} {k : Nat} {y : MethodName} {b : ByteArray} {nL : Nat} {as : List Value} {σ : St} {a : Nat} {C : String} {σ1 : St} (hy : plainName y.cls = true) (hsl : (lg_sl as).length ≤ nL) (body : ∀ X : CT, Cx G X y.cls b nL k → (∀ (lv : List (Nat × Value)) (pc : Nat), decode b pc = .ok (.areturn, 1) → WW G X nL σ1 lv pc [.ref a]) → WW G X nL σ (lv_args 0 as) 0 []) : MCt G k y b nL (some (.object C)) as σ (some (.ref a)) σ1 :=
  met_core (EndP := fun X => ∀ (lv : List (Nat × Value)) (pc : Nat), decode b pc = .ok (.areturn, 1) → WW G X nL σ1 lv pc [.ref a]) hy hsl (fun p e R s m args below meth c A hx hb hr hlocks lv pc hdg H locs ls hl hP hS => W.aret hx hb hr (Or.inl ⟨_, rfl⟩) (Or.inr ⟨_, rfl⟩) (fun t ht hW => ⟨rfl, by rw [ht]; exact hP, hS.F ht⟩) hS.2.2 hdg) body
