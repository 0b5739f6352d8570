/-! THE CLASSES: names, fields, what the tables say of them -/
def xF0 : List (String × String × String × Bool) := [("LinesDownFilm$Descent", "lacking", "[[I", true), ("LinesDownFilm$Descent", "leastFrom", "[I", true), ("LinesDownFilm$Descent", "from", "[I", true), ("LinesDownFilm$Descent", "best", "[I", true), ("LinesDownFilm$Descent", "prints", "I", false), ("LinesDownFilm$Descent", "least", "I", false)]
def xT0 : u_T := fun k => xF0.getD k ("", "", "", false)
def xY0 : List FieldType := [.array (.array .int), .array .int, .array .int, .array .int, .int, .int]
def xF1 : List (String × String × String × Bool) := [("LinesDownFilm$Part", "side", "I", true)]
def xT1 : u_T := fun k => xF1.getD k ("", "", "", false)
def xY1 : List FieldType := [.int]
def xF2 : List (String × String × String × Bool) := [("LinesDownFilm$Joining", "onward", "[[I", true), ("LinesDownFilm$Joining", "chosen", "[I", true), ("LinesDownFilm$Joining", "prints", "I", false), ("LinesDownFilm$Joining", "together", "I", false), ("LinesDownFilm$Joining", "leftOut", "I", false)]
def xT2 : u_T := fun k => xF2.getD k ("", "", "", false)
def xY2 : List FieldType := [.array (.array .int), .array .int, .int, .int, .int]
def xF3 : List (String × String × String × Bool) := [("LinesDownFilm$Machine", "parts", "[LLinesDownFilm$Part;", true)]
def xT3 : u_T := fun k => xF3.getD k ("", "", "", false)
def xY3 : List FieldType := [.array (.object "LinesDownFilm$Part")]
def xF4 : List (String × String × String × Bool) := [("LinesDownFilm$Page", "text", "[C", true), ("LinesDownFilm$Page", "size", "I", false), ("LinesDownFilm$Page", "kinds", "[I", true), ("LinesDownFilm$Page", "sides", "[I", true), ("LinesDownFilm$Page", "turns", "[I", true), ("LinesDownFilm$Page", "shifts", "[I", true), ("LinesDownFilm$Page", "current", "I", false), ("LinesDownFilm$Page", "expected", "I", false)]
def xT4 : u_T := fun k => xF4.getD k ("", "", "", false)
def xY4 : List FieldType := [.array .char, .int, .array .int, .array .int, .array .int, .array .int, .int, .int]
def xF5 : List (String × String × String × Bool) := [("LinesDownFilm$Print", "size", "I", false), ("LinesDownFilm$Print", "frames", "[I", true), ("LinesDownFilm$Print", "blacks", "[I", true), ("LinesDownFilm$Print", "whites", "[I", true), ("LinesDownFilm$Print", "places", "[I", true)]
def xT5 : u_T := fun k => xF5.getD k ("", "", "", false)
def xY5 : List FieldType := [.int, .array .int, .array .int, .array .int, .array .int]
def xF6 : List (String × String × String × Bool) := [("LinesDownFilm$Part", "side", "I", true), ("LinesDownFilm$Roller", "round", "I", true), ("LinesDownFilm$Roller", "phase", "I", true)]
def xT6 : u_T := fun k => xF6.getD k ("", "", "", false)
def xY6 : List FieldType := [.int, .int, .int]
def xF7 : List (String × String × String × Bool) := [("LinesDownFilm$Shelf", "prints", "[LLinesDownFilm$Print;", true), ("LinesDownFilm$Shelf", "printCount", "I", false), ("LinesDownFilm$Shelf", "traceSides", "[I", true), ("LinesDownFilm$Shelf", "traceRounds", "[I", true), ("LinesDownFilm$Shelf", "traceCount", "I", false)]
def xT7 : u_T := fun k => xF7.getD k ("", "", "", false)
def xY7 : List FieldType := [.array (.object "LinesDownFilm$Print"), .int, .array .int, .array .int, .int]
def xF8 : List (String × String × String × Bool) := [("LinesDownFilm$Roller", "round", "I", true), ("LinesDownFilm$Roller", "phase", "I", true), ("LinesDownFilm$Part", "side", "I", true)]
def xT8 : u_T := fun k => xF8.getD k ("", "", "", false)
def xY8 : List FieldType := [.int, .int, .int]
def xF9 : List (String × String × String × Bool) := [("LinesDownFilm$Part", "side", "I", true), ("LinesDownFilm$Wound", "first", "I", true), ("LinesDownFilm$Wound", "thick", "I", true)]
def xT9 : u_T := fun k => xF9.getD k ("", "", "", false)
def xY9 : List FieldType := [.int, .int, .int]
def xF10 : List (String × String × String × Bool) := [("LinesDownFilm", "page", "LLinesDownFilm$Page;", true), ("LinesDownFilm", "machines", "[LLinesDownFilm$Machine;", true), ("LinesDownFilm", "machineCount", "I", false), ("LinesDownFilm", "shelf", "LLinesDownFilm$Shelf;", true), ("LinesDownFilm", "keptShelf", "LLinesDownFilm$Shelf;", true), ("LinesDownFilm", "isKept", "Z", false), ("LinesDownFilm", "descent", "LLinesDownFilm$Descent;", true), ("LinesDownFilm", "joining", "LLinesDownFilm$Joining;", true), ("LinesDownFilm", "treesDone", "I", false)]
def xT10 : u_T := fun k => xF10.getD k ("", "", "", false)
def xY10 : List FieldType := [.object "LinesDownFilm$Page", .array (.object "LinesDownFilm$Machine"), .int, .object "LinesDownFilm$Shelf", .object "LinesDownFilm$Shelf", .boolean, .object "LinesDownFilm$Descent", .object "LinesDownFilm$Joining", .int]
def xcl : List vw_C := [("LinesDownFilm$Descent", xT0, 6), ("LinesDownFilm$Gate", xT1, 1), ("LinesDownFilm$Joining", xT2, 5), ("LinesDownFilm$Machine", xT3, 1), ("LinesDownFilm$Page", xT4, 8), ("LinesDownFilm$Print", xT5, 5), ("LinesDownFilm$Roller", xT6, 3), ("LinesDownFilm$Shelf", xT7, 5), ("LinesDownFilm$Toothed", xT8, 3), ("LinesDownFilm$Wound", xT9, 3), ("LinesDownFilm", xT10, 9)]
def xcy : List (List FieldType) := [xY0, xY1, xY2, xY3, xY4, xY5, xY6, xY7, xY8, xY9, xY10]
def xcn : List Nat := [6, 1, 5, 1, 8, 5, 3, 5, 3, 3, 9]
def xty : List FieldType := [.int, .char, .int, .object "LinesDownFilm$Machine", .object "LinesDownFilm$Part", .object "LinesDownFilm$Print", .array .int]
def xNW : List Cond := [.methodLinkNest "LinesDownFilm" 9 ⟨"LinesDownFilm$Page", "<init>", "()V"⟩ "LinesDownFilm", .methodLinkNest "LinesDownFilm$Shelf" 31 ⟨"LinesDownFilm$Print", "<init>", "()V"⟩ "LinesDownFilm", .methodLinkNest "LinesDownFilm" 42 ⟨"LinesDownFilm$Descent", "<init>", "()V"⟩ "LinesDownFilm", .methodLinkNest "LinesDownFilm" 49 ⟨"LinesDownFilm$Joining", "<init>", "()V"⟩ "LinesDownFilm", .methodLinkNest "LinesDownFilm$Page" 105 ⟨"LinesDownFilm", "isSide", "(I)Z"⟩ "LinesDownFilm", .methodLinkNest "LinesDownFilm$Shelf" 36 ⟨"LinesDownFilm", "isWithin", "(III)Z"⟩ "LinesDownFilm", .methodLinkNest "LinesDownFilm$Gate" 9 ⟨"LinesDownFilm", "everyOf", "(III)J"⟩ "LinesDownFilm", .methodLinkNest "LinesDownFilm$Roller" 18 ⟨"LinesDownFilm", "everyOf", "(III)J"⟩ "LinesDownFilm", .methodLinkNest "LinesDownFilm$Toothed" 18 ⟨"LinesDownFilm", "everyOf", "(III)J"⟩ "LinesDownFilm", .methodLinkNest "LinesDownFilm$Wound" 18 ⟨"LinesDownFilm", "spooled", "(III)J"⟩ "LinesDownFilm", .methodLinkNest "LinesDownFilm$Print" 47 ⟨"LinesDownFilm", "turned", "(JI)J"⟩ "LinesDownFilm", .methodLinkNest "LinesDownFilm$Print" 51 ⟨"LinesDownFilm", "isIn", "(JI)Z"⟩ "LinesDownFilm", .methodLinkNest "LinesDownFilm$Machine" 34 ⟨"LinesDownFilm", "isAmong", "(JJ)Z"⟩ "LinesDownFilm", 
  .declares ⟨"LinesDownFilm$Part", "kind", "()I"⟩, .declares ⟨"LinesDownFilm$Part", "turn", "()I"⟩, .declares ⟨"LinesDownFilm$Part", "shift", "()I"⟩, .declares ⟨"LinesDownFilm$Part", "touched", "(I)J"⟩,
  .castable "LinesDownFilm$Toothed" "LinesDownFilm$Roller", .castable "LinesDownFilm$Gate" "LinesDownFilm$Part", .castable "LinesDownFilm$Roller" "LinesDownFilm$Part", .castable "LinesDownFilm$Toothed" "LinesDownFilm$Part", .castable "LinesDownFilm$Wound" "LinesDownFilm$Part"]
def xNC : List (String × String) := [("LinesDownFilm$Roller", "LinesDownFilm$Gate"), ("LinesDownFilm$Toothed", "LinesDownFilm$Gate"), ("LinesDownFilm$Wound", "LinesDownFilm$Gate"), ("LinesDownFilm$Gate", "LinesDownFilm$Roller"), ("LinesDownFilm$Wound", "LinesDownFilm$Roller"), ("LinesDownFilm$Gate", "LinesDownFilm$Toothed"), ("LinesDownFilm$Roller", "LinesDownFilm$Toothed"), ("LinesDownFilm$Wound", "LinesDownFilm$Toothed"), ("LinesDownFilm$Gate", "LinesDownFilm$Wound"), ("LinesDownFilm$Roller", "LinesDownFilm$Wound"), ("LinesDownFilm$Toothed", "LinesDownFilm$Wound")]
def xAO : List String := ["LinesDownFilm$Machine", "LinesDownFilm$Part", "LinesDownFilm$Print"]
def xTB : List Cond := lw_tbl.filter goodWord
theorem xTB_mem {w : Cond} (h : w ∈ lw_tbl) (g : goodWord w = true) : w ∈ xTB := List.mem_filter.mpr ⟨h, g⟩
theorem xTB_good {w : Cond} (h : w ∈ xTB) : (w.onTables && w.keeps) = true ∨ ∃ ty, w = .arrayClass ty := good_of_word (List.mem_filter.mp h).2
def xSp : Cond → Bool
  | .methodLinkNest .. => true
  | .declares _ => true
  | .castable .. => true
  | _ => false
theorem xNW_sp : xNW.all xSp = true := by decide +kernel
theorem xSp_moved {s U : State} (hW : s.WarmedH U.vm) {w : Cond} (hk : xSp w = true) (h1 : va_Nw w s) : va_Nw w U := by
  cases w <;> first | exact h1.warmM hW | exact h1.warmD hW | exact h1.warmC hW | (simp [xSp] at hk; done)
theorem xNW_ok {s U : State} (hW : s.WarmedH U.vm) (h : ∀ w ∈ xNW, va_Nw w s) : ∀ w ∈ xNW, va_Nw w U := fun w hw => xSp_moved hW (List.all_eq_true.mp xNW_sp w hw) (h w hw)
/-- an array of int arrays is there -/
def xAA (U : State) : Prop := (Cond.arrayOver (.array .int)).before #[] U = true
theorem xAA_spec {s : State} (h : xAA s) : ∃ comp c k, s.vm.findClass (FieldType.array .int).toString = some comp ∧ (s.vm.classes.findIdx? fun (x : Class) => match x.kind with | .array component _ => component == comp | _ => false) = some c ∧ s.vm.classes[c]? = some k ∧ k.kind = .array comp (.array .int) ∧
      s.vm.findClass ("[" ++ (FieldType.array .int).toString) = some c := by
  unfold xAA Cond.before at h
  simp only [Cond.holds, Cond.value, beq_iff_eq] at h
  cases hc : s.vm.findClass (FieldType.array .int).toString with
  | none => simp [hc] at h
  | some comp =>
    simp only [hc, Option.bind_some, Option.bind_eq_some_iff, Option.map_eq_some_iff] at h
    obtain ⟨c, hi, k, hk, hb⟩ := h
    obtain ⟨hlt, hp, -⟩ := Array.findIdx?_eq_some_iff_getElem.mp hi
    have hkk : s.vm.classes[c] = k := (Array.getElem?_eq_some_iff.mp hk).2
    rw [hkk] at hp
    cases hkind : k.kind with
    | array component ty =>
      rw [hkind] at hb hp
      simp at hb hp
      exact ⟨comp, c, k, rfl, hi, hk, by rw [hkind, hp, hb.1], hb.2⟩
    | _ => rw [hkind] at hb; simp at hb
theorem xAA_moved {u U : State} (hvm : u.vm.Alike U.vm) (h : xAA u) : xAA U := by
  obtain ⟨comp, c, k, h1, h2, h3, h4, h5⟩ := xAA_spec h
  obtain ⟨k', hk', he⟩ := hvm.2.2 _ _ h3
  have hi : (U.vm.classes.findIdx? fun (x : Class) => match x.kind with | .array component _ => component == comp | _ => false) = some c := by
    have eb : U.vm.bare = u.vm.bare := by first | exact hvm.bare_eq | exact hvm.bare_eq.symm
    have e1 := va_idx_bare U.vm comp
    rw [eb] at e1
    exact (e1.symm.trans (va_idx_bare u.vm comp)).trans h2
  have hkind : k'.kind = .array comp (.array .int) := by rw [he]; exact h4
  have f1 : U.vm.findClass (FieldType.array .int).toString = some comp := by rw [hvm.findClass]; exact h1
  have f2 : U.vm.findClass ("[" ++ (FieldType.array .int).toString) = some c := by rw [hvm.findClass]; exact h5
  unfold xAA Cond.before Cond.holds
  simp only [Cond.value]
  rw [f1, Option.bind_some]
  refine (congrArg (fun o : Option Nat => (o.bind (fun c => (U.vm.classes[c]?).map fun (k : Class) => match k.kind with | .array _ ty => decide (ty = FieldType.array .int) && decide (U.vm.findClass ("[" ++ (FieldType.array .int).toString) = some c) | _ => false) == some true)) hi).trans ?_
  simp [hk', hkind, f2]
/-- what is known of the tables at a state: the classes' fields, the array classes, what is linked -/
def xTys (cid : Nat → ClassId) : List (ClassId × FieldType) := [(cid 0, .int), (cid 1, .char), (cid 2, .int), (cid 3, .object "LinesDownFilm$Machine"), (cid 4, .object "LinesDownFilm$Part"), (cid 5, .object "LinesDownFilm$Print"), (cid 6, .array .int)]
def KX (D : va_G) (cid : Nat → ClassId) (U : State) : Prop := va_K D xcl (xTys cid) U ∧ (∀ w ∈ xNW, va_Nw w U) ∧ (∀ C ∈ xAO, va_AO C U) ∧ xAA U ∧ ∀ q ∈ xNC, va_Nc q.1 q.2 U
theorem KX.moved {D : va_G} {cid : Nat → ClassId} {s U : State} (hW : s.WarmedH U.vm) (h : KX D cid s) : KX D cid U :=
  ⟨va_K.moved hW.alike h.1, xNW_ok hW h.2.1, fun C hC => (h.2.2.1 C hC).moved hW.alike, xAA_moved hW.alike h.2.2.2.1, fun q hq => (h.2.2.2.2 q hq).moved hW.alike⟩
/-- the cell that a picture means; type 9 is the script, that nobody writes -/
def XAt (D : va_G) (cid : Nat → ClassId) (U : State) (N0 : Nat) (a : Nat) : XE → Heap → Prop
  | .inl (t, n, x), H => (t < 7 ∧ N0 ≤ a ∧ H[a]? = some (vp_cell (cid t) (n, x))) ∨ (t = 9 ∧ ∃ f, x = .inl f ∧ va_X a n f U H)
  | .inr o, H => N0 ≤ a ∧ va_at D xcl (a, .inr o) H
theorem XAt.lt {D : va_G} {cid : Nat → ClassId} {U : State} {N0 a : Nat} {e : XE} {H : Heap} (h : XAt D cid U N0 a e H) : a < H.size := by
  match e, h with
  | .inl (t, n, x), .inl h => exact (Array.getElem?_eq_some_iff.mp h.2.2).1
  | .inl (t, n, x), .inr ⟨_, f, _, scr, h1, _⟩ => exact (Array.getElem?_eq_some_iff.mp h1).1
  | .inr o, h => exact h.2.lt
theorem XAt.kept {D : va_G} {cid : Nat → ClassId} {U : State} {N0 a : Nat} {e : XE} {H H1 : Heap} (h : XAt D cid U N0 a e H) (hq : H1[a]? = H[a]?) : XAt D cid U N0 a e H1 := by
  match e, h with
  | .inl (t, n, x), .inl h => exact .inl ⟨h.1, h.2.1, hq.trans h.2.2⟩
  | .inl (t, n, x), .inr ⟨h0, f, h1, h2⟩ => exact .inr ⟨h0, f, h1, h2.kept hq⟩
  | .inr o, h => exact ⟨h.1, h.2.kept hq⟩
theorem XAt.moved {D : va_G} {cid : Nat → ClassId} {u U : State} (hvm : u.vm.Alike U.vm) {N0 a : Nat} {e : XE} {H : Heap} (h : XAt D cid u N0 a e H) : XAt D cid U N0 a e H := by
  match e, h with
  | .inl (t, n, x), .inl h => exact .inl h
  | .inl (t, n, x), .inr ⟨h0, f, h1, h2⟩ => exact .inr ⟨h0, f, h1, h2.moved hvm⟩
  | .inr o, h => exact h
/-- the heap H is the picture h, of z cells in all -/
def HR (D : va_G) (cid : Nat → ClassId) (U : State) (N0 : Nat) (h : XH) (z : Nat) (H : Heap) : Prop := H.size = z ∧ N0 ≤ z ∧ ∀ a e, h a = some e → XAt D cid U N0 a e H
theorem HR.moved {D : va_G} {cid : Nat → ClassId} {u U : State} (hvm : u.vm.Alike U.vm) {N0 z : Nat} {h : XH} {H : Heap} (x : HR D cid u N0 h z H) : HR D cid U N0 h z H := ⟨x.1, x.2.1, fun a e q => (x.2.2 a e q).moved hvm⟩
theorem HR.set {D : va_G} {cid : Nat → ClassId} {U : State} {N0 z : Nat} {h : XH} {H H1 : Heap} (x : HR D cid U N0 h z H) {a : Nat} {e : XE} (hz : H1.size = H.size) (ho : ∀ q : Nat, q ≠ a → H1[q]? = H[q]?) (he : XAt D cid U N0 a e H1) : HR D cid U N0 (hset h a e) z H1 := by
  refine ⟨hz.trans x.1, x.2.1, fun q f hq => ?_⟩
  by_cases c : q = a
  · subst c
    rw [hset_s] at hq
    cases hq
    exact he
  · rw [hset_n _ _ c] at hq
    exact (x.2.2 q f hq).kept (ho q c)
theorem HR.push {D : va_G} {cid : Nat → ClassId} {U : State} {N0 z : Nat} {h : XH} {H H1 : Heap} (x : HR D cid U N0 h z H) {e : XE} (hz : H1.size = H.size + 1) (ho : ∀ q : Nat, q < H.size → H1[q]? = H[q]?) (he : XAt D cid U N0 z e H1) : HR D cid U N0 (hset h z e) (z + 1) H1 := by
  refine ⟨by rw [hz, x.1], Nat.le_succ_of_le x.2.1, fun q f hq => ?_⟩
  by_cases c : q = z
  · subst c
    rw [hset_s] at hq
    cases hq
    exact he
  · rw [hset_n _ _ c] at hq
    exact (x.2.2 q f hq).kept (ho q (x.2.2 q f hq).lt)
/-- what was there before the method and isn't ours is as it was -/
def SF (N0 : Nat) (s : State) (H : Heap) : Prop := s.heap.size ≤ H.size ∧ ∀ q : Nat, q < s.heap.size → q < N0 → H[q]? = s.heap[q]?
theorem SF.put {N0 : Nat} {s : State} {H H1 : Heap} (x : SF N0 s H) {a : Nat} (ha : N0 ≤ a) (hz : H1.size = H.size) (ho : ∀ q : Nat, q ≠ a → H1[q]? = H[q]?) : SF N0 s H1 :=
  ⟨by rw [hz]; exact x.1, fun q h1 h2 => (ho q (by omega)).trans (x.2 q h1 h2)⟩
theorem SF.push {N0 : Nat} {s : State} {H H1 : Heap} (x : SF N0 s H) (hz : H1.size = H.size + 1) (ho : ∀ q : Nat, q < H.size → H1[q]? = H[q]?) : SF N0 s H1 :=
  ⟨by rw [hz]; exact Nat.le_succ_of_le x.1, fun q h1 h2 => (ho q (Nat.lt_of_lt_of_le h1 x.1)).trans (x.2 q h1 h2)⟩
/-- the words of locals that a method d deep has for itself and what it calls -/
def bdL (d : Nat) : Nat := 37 * d + 26 + (if 7 ≤ d then 7 else 0)
/-- where a method stands: the machine, its own code, the tables, the room for calls d deep -/
def CX (d : Nat) (M : MR) (D : va_G) (cid : Nat → ClassId) (p : Program) (R : Room) (s : State) (m : MethodId) (args : Array Value) (meth : Method) (c : Code) : Prop :=
  p.tables.exec = Jvm.exec ∧ c.code = mB M ∧ meth.sig.returnType = mR M ∧ c.maxLocals = mL M ∧ s.vm.findClass (mN M).cls = some m.cls ∧ (∀ w ∈ xTB, w.before args s = true) ∧ KX D cid s ∧ meth.locks = false ∧ meth.name = (mN M).name ∧ d + 1 ≤ R.frames ∧ bdL d ≤ R.locals
/-- a method's end: it answers v over the picture h', and Q says so -/
def QC (D : va_G) (cid : Nat → ClassId) (N0 : Nat) (Q : XQ) : Array Value → State → Outcome → State → Prop := fun _ s o t => ∃ (v : Option Value) (h : XH) (z : Nat), o = .returned v ∧ Q v h z ∧ HR D cid t N0 h z t.heap ∧ SF N0 s t.heap
/-- THE JUDGEMENT: from here, with calls d deep and b cells to make, the method M comes to its end, and Q holds of its answer and the cells behind it -/
def AR (d : Nat) (M : MR) (b pc : Nat) (L : XL) (st : List Value) (h : XH) (z : Nat) (Q : XQ) : Prop :=
  ∀ (D : va_G) (cid : Nat → ClassId) (N0 : Nat) (p : Program) (l : Launch) (e : Env) (R : Room) (s : State) (m : MethodId) (args : Array Value) (below : List Frame) (meth : Method) (c : Code), CX d M D cid p R s m args meth c →
    ∀ (H : Heap) (locs : List Loc) (cells slots : Nat) (ls : Array Slot), HR D cid s N0 h z H → (∀ q ∈ locs, N0 ≤ q.base) → SF N0 s H → cells + b ≤ R.cells → slots + 300 * b ≤ R.slots → lv_has ls (mL M) (lvOf L) →
      W p l e R s m args below meth c H locs cells slots (MQ below (QC D cid N0 Q) args s (cells + b) (slots + 300 * b) (fun q => N0 ≤ q)) (F0 m pc ls st)
theorem W.to {p : Program} {l : Launch} {e : Env} {R : Room} {s : State} {m : MethodId} {args : Array Value} {below : List Frame} {meth : Method} {c : Code} {H : Heap} {locs : List Loc} {cells slots : Nat} {Q Q' : State → Prop} {g : JFrame} (k : W p l e R s m args below meth c H locs cells slots Q g) (h : ∀ t, Q t → Q' t) : W p l e R s m args below meth c H locs cells slots Q' g := by
  intro T hT X
  obtain ⟨t, a, b⟩ := k T hT X
  exact ⟨t, a, h t b⟩
theorem AR.mono {d : Nat} {M : MR} {b pc : Nat} {L : XL} {st : List Value} {h : XH} {z : Nat} {Q Q' : XQ} (k : AR d M b pc L st h z Q) (hq : ∀ v h z, Q v h z → Q' v h z) : AR d M b pc L st h z Q' := by
  intro D cid N0 p l e R s m args below meth c X H locs cells slots ls h1 h2 h3 h4 h5 h6
  refine (k D cid N0 p l e R s m args below meth c X H locs cells slots ls h1 h2 h3 h4 h5 h6).to ?_
  rintro t ⟨o, a1, a2, ⟨v, h', z', b1, b2, b3⟩, a4⟩
  exact ⟨o, a1, a2, ⟨v, h', z', b1, hq _ _ _ b2, b3⟩, a4⟩
theorem AR.weak {d : Nat} {M : MR} {b pc : Nat} {L : XL} (L' : XL) {st : List Value} {h : XH} {z : Nat} {Q : XQ} (k : AR d M b pc L' st h z Q) (hl : leL L' L) : AR d M b pc L st h z Q := by
  intro D cid N0 p l e R s m args below meth c X H locs cells slots ls h1 h2 h3 h4 h5 h6
  refine k D cid N0 p l e R s m args below meth c X H locs cells slots ls h1 h2 h3 h4 h5 (lv_mono h6 ?_)
  rintro ⟨j, w⟩ hq
  exact lvOf_mem.mpr (leL_get hl (lvOf_mem.mp hq))
theorem AR.less {d : Nat} {M : MR} {b b' pc : Nat} {L : XL} {st : List Value} {h : XH} {z : Nat} {Q : XQ} (k : AR d M b' pc L st h z Q) (hb : b' ≤ b) : AR d M b pc L st h z Q := by
  intro D cid N0 p l e R s m args below meth c X H locs cells slots ls h1 h2 h3 h4 h5 h6
  refine W.widen (k := cells + (b - b')) (n := slots + 300 * (b - b')) (by omega) (by omega) ?_
  have := k D cid N0 p l e R s m args below meth c X H locs (cells + (b - b')) (slots + 300 * (b - b')) ls h1 h2 h3 (by omega) (by omega) h6
  rw [show cells + (b - b') + b' = cells + b by omega, show slots + 300 * (b - b') + 300 * b' = slots + 300 * b by omega] at this
  exact this
