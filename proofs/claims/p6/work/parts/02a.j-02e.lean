section
/-! ===== J: the machine over one pool of cells, in few words ===== -/
abbrev jC : Type := ClassId × ClassId × ClassId × ClassId × ClassId × ClassId × ClassId
/-- the shape: addresses, kind of each, length, references -/
abbrev jZ : Type := List Nat × (Nat → Nat) × (Nat → Nat) × (Nat → Nat → Option Nat)
abbrev jI : Type := Nat → Nat → Int32
abbrev jL : Type := Nat → Nat → Int64
def jnum : Nat → Nat := fun c => match c with
  | 0 => 3
  | 1 => 10
  | 2 => 9
  | 3 => 9
  | 4 => 5
  | 5 => 9
  | 6 => 16
  | 7 => 10
  | 8 => 10
  | 9 => 9
  | 10 => 2
  | 11 => 17
  | 12 => 67
  | _ => 0
def jty : Nat → Nat → FieldType := fun c => match c with
  | 0 => tyX0
  | 1 => tyX1
  | 2 => tyX2
  | 3 => tyX3
  | 4 => tyX4
  | 5 => tyX5
  | 6 => tyX6
  | 7 => tyX7
  | 8 => tyX8
  | 9 => tyX9
  | 10 => tyX10
  | 11 => tyX11
  | 12 => tyX12
  | _ => fun _ => .int
def jval (ty : FieldType) (i : Int32) (j : Int64) (r : Option Nat) : Value := match ty with
  | .long => .long j
  | .object _ => va_rf r
  | .array _ => va_rf r
  | _ => .int i
def jint (ty : FieldType) : Bool := match ty with
  | .int => true
  | .boolean => true
  | _ => false
def jref (ty : FieldType) : Bool := match ty with
  | .object _ => true
  | .array _ => true
  | _ => false
def jfs (c : Nat) (I : Nat → Int32) (L : Nat → Int64) (R : Nat → Option Nat) : List Value := (List.range (jnum c)).map (fun k => jval (jty c k) (I k) (L k) (R k))
def jf (cy : jC) (Z : jZ) (I : jI) (L : jL) (a : Nat) : va_E :=
  if Z.2.1 a < 13 then .inr (Z.2.1 a, jfs (Z.2.1 a) (I a) (L a) (Z.2.2.2 a))
  else if Z.2.1 a = 13 then .inl (cy.1, Z.2.2.1 a, .inl (I a))
  else if Z.2.1 a = 14 then .inl (cy.2.1, Z.2.2.1 a, .inl (I a))
  else if Z.2.1 a = 15 then .inl (cy.2.2.1, Z.2.2.1 a, .inr (.inl (L a)))
  else if Z.2.1 a = 16 then .inl (cy.2.2.2.1, Z.2.2.1 a, .inl (I a))
  else if Z.2.1 a = 17 then .inl (cy.2.2.2.2.1, Z.2.2.1 a, .inr (.inr (.inr (.inr (Z.2.2.2 a)))))
  else if Z.2.1 a = 18 then .inl (cy.2.2.2.2.2.1, Z.2.2.1 a, .inr (.inr (.inr (.inr (Z.2.2.2 a)))))
  else .inl (cy.2.2.2.2.2.2, Z.2.2.1 a, .inr (.inr (.inr (.inr (Z.2.2.2 a)))))
def jw (cy : jC) (Z : jZ) (I : jI) (L : jL) : va_W := va_pl Z.1 (jf cy Z I L)
def jtys (cy : jC) : List (ClassId × FieldType) := [(cy.1, .byte), (cy.2.1, .int), (cy.2.2.1, .long), (cy.2.2.2.1, .boolean), (cy.2.2.2.2.1, .object RX2), (cy.2.2.2.2.2.1, .object RX5), (cy.2.2.2.2.2.2, .array .byte)]
/-- a is a cell of kind k -/
abbrev jk (Z : jZ) (a k : Nat) : Prop := a ∈ Z.1 ∧ Z.2.1 a = k
abbrev jlen (Z : jZ) (a : Nat) : Nat := Z.2.2.1 a
abbrev jr (Z : jZ) (a k : Nat) : Option Nat := Z.2.2.2 a k
/-- the words of nest mates, and of arrays over classes: they hold in every state -/
def jnest : List Cond := [
  .fieldLinkNest "StairsInSteps" 94 "StairsInSteps$Text" "size" "I" "StairsInSteps",
  .fieldLinkNest "StairsInSteps$StairsReader" 40 "StairsInSteps$Text" "size" "I" "StairsInSteps",
  .fieldLinkNest "StairsInSteps$Law" 44 "StairsInSteps$Text" "size" "I" "StairsInSteps",
  .fieldLinkNest "StairsInSteps$Stairs" 54 "StairsInSteps$StairsReader" "rise" "[I" "StairsInSteps",
  .fieldLinkNest "StairsInSteps$Stairs" 61 "StairsInSteps$StairsReader" "state" "[I" "StairsInSteps",
  .fieldLinkNest "StairsInSteps$Stairs" 62 "StairsInSteps$StairsReader" "asks" "[I" "StairsInSteps",
  .fieldLinkNest "StairsInSteps$Stairs" 63 "StairsInSteps$StairsReader" "widow" "[I" "StairsInSteps",
  .fieldLinkNest "StairsInSteps$Stairs" 64 "StairsInSteps$StairsReader" "owner" "[I" "StairsInSteps",
  .fieldLinkNest "StairsInSteps$Stairs" 51 "StairsInSteps$StairsReader" "size" "I" "StairsInSteps",
  .fieldLinkNest "StairsInSteps$Kept" 59 "StairsInSteps$Parts" "owned" "[I" "StairsInSteps",
  .fieldLinkNest "StairsInSteps" 369 "StairsInSteps$Parts" "sales" "I" "StairsInSteps",
  .fieldLinkNest "StairsInSteps" 148 "StairsInSteps$Stairs" "rise" "[I" "StairsInSteps",
  .fieldLinkNest "StairsInSteps$Kept" 41 "StairsInSteps$Stairs" "state" "[I" "StairsInSteps",
  .fieldLinkNest "StairsInSteps" 151 "StairsInSteps$Stairs" "state" "[I" "StairsInSteps",
  .fieldLinkNest "StairsInSteps$Kept" 52 "StairsInSteps$Stairs" "asks" "[I" "StairsInSteps",
  .fieldLinkNest "StairsInSteps" 154 "StairsInSteps$Stairs" "asks" "[I" "StairsInSteps",
  .fieldLinkNest "StairsInSteps$Routes" 188 "StairsInSteps$Stairs" "asks" "[I" "StairsInSteps",
  .fieldLinkNest "StairsInSteps" 157 "StairsInSteps$Stairs" "widow" "[I" "StairsInSteps",
  .fieldLinkNest "StairsInSteps$Kept" 55 "StairsInSteps$Stairs" "shares" "LStairsInSteps$Parts;" "StairsInSteps",
  .fieldLinkNest "StairsInSteps$Routes" 79 "StairsInSteps$Stairs" "shares" "LStairsInSteps$Parts;" "StairsInSteps",
  .fieldLinkNest "StairsInSteps" 160 "StairsInSteps$Stairs" "shares" "LStairsInSteps$Parts;" "StairsInSteps",
  .fieldLinkNest "StairsInSteps" 128 "StairsInSteps$Stairs" "treading" "LStairsInSteps$Law;" "StairsInSteps",
  .fieldLinkNest "StairsInSteps" 135 "StairsInSteps$Stairs" "leaping" "LStairsInSteps$Law;" "StairsInSteps",
  .fieldLinkNest "StairsInSteps$Routes" 68 "StairsInSteps$Stairs" "size" "I" "StairsInSteps",
  .fieldLinkNest "StairsInSteps" 172 "StairsInSteps$Stairs" "size" "I" "StairsInSteps",
  .fieldLinkNest "StairsInSteps" 416 "StairsInSteps$Kept" "earnings" "[I" "StairsInSteps",
  .fieldLinkNest "StairsInSteps" 419 "StairsInSteps$Kept" "size" "I" "StairsInSteps",
  .fieldLinkNest "StairsInSteps" 124 "StairsInSteps$Kept" "holds" "Z" "StairsInSteps",
  .fieldLinkNest "StairsInSteps$ByCost" 86 "StairsInSteps$Rows" "waiting" "I" "StairsInSteps",
  .fieldLinkNest "StairsInSteps" 305 "StairsInSteps$ByCost" "easiestWays" "J" "StairsInSteps",
  .fieldLinkNest "StairsInSteps" 400 "StairsInSteps$Feast" "waited" "[I" "StairsInSteps",
  .fieldLinkNest "StairsInSteps" 409 "StairsInSteps$Feast" "waitedFor" "[I" "StairsInSteps",
  .fieldLinkNest "StairsInSteps" 406 "StairsInSteps$Feast" "minutes" "I" "StairsInSteps",
  .fieldLinkNest "StairsInSteps" 403 "StairsInSteps$Feast" "crowd" "I" "StairsInSteps",
  .fieldLinkNest "StairsInSteps$ByCost" 65 "StairsInSteps$Routes" "knees" "I" "StairsInSteps",
  .fieldLinkNest "StairsInSteps$ByCost" 48 "StairsInSteps$Routes" "purse" "I" "StairsInSteps",
  .fieldLinkNest "StairsInSteps$ByCost" 109 "StairsInSteps$Routes" "leap" "I" "StairsInSteps",
  .fieldLinkNest "StairsInSteps$ByCost" 116 "StairsInSteps$Routes" "cost" "[I" "StairsInSteps",
  .fieldLinkNest "StairsInSteps$ByCost" 112 "StairsInSteps$Routes" "open" "[Z" "StairsInSteps",
  .fieldLinkNest "StairsInSteps$ByCost" 44 "StairsInSteps$Routes" "leastUp" "[I" "StairsInSteps",
  .fieldLinkNest "StairsInSteps$ByCost" 32 "StairsInSteps$Routes" "top" "I" "StairsInSteps",
  .fieldLinkNest "StairsInSteps" 216 "StairsInSteps$Pilgrim" "knees" "I" "StairsInSteps",
  .fieldLinkNest "StairsInSteps" 219 "StairsInSteps$Pilgrim" "purse" "I" "StairsInSteps",
  .fieldLinkNest "StairsInSteps" 210 "StairsInSteps$Pilgrim" "leap" "I" "StairsInSteps",
  .fieldLinkNest "StairsInSteps" 213 "StairsInSteps$Pilgrim" "load" "I" "StairsInSteps",
  .fieldLinkNest "StairsInSteps" 196 "StairsInSteps$Pilgrim" "vow" "I" "StairsInSteps",
  .fieldLinkNest "StairsInSteps$Kept" 66 "StairsInSteps$Pilgrim" "at" "I" "StairsInSteps",
  .fieldLinkNest "StairsInSteps" 201 "StairsInSteps$Pilgrim" "at" "I" "StairsInSteps",
  .fieldLinkNest "StairsInSteps$Kept" 70 "StairsInSteps$Pilgrim" "kneesLeft" "I" "StairsInSteps",
  .fieldLinkNest "StairsInSteps" 204 "StairsInSteps$Pilgrim" "kneesLeft" "I" "StairsInSteps",
  .fieldLinkNest "StairsInSteps$Kept" 72 "StairsInSteps$Pilgrim" "purseLeft" "I" "StairsInSteps",
  .fieldLinkNest "StairsInSteps" 207 "StairsInSteps$Pilgrim" "purseLeft" "I" "StairsInSteps",
  .fieldLinkNest "StairsInSteps" 263 "StairsInSteps$Pilgrim" "routes" "LStairsInSteps$Routes;" "StairsInSteps",
  .methodLinkNest "StairsInSteps" 11 ⟨"StairsInSteps$Text", "<init>", "()V"⟩ "StairsInSteps",
  .methodLinkNest "StairsInSteps" 18 ⟨"StairsInSteps$StairsReader", "<init>", "()V"⟩ "StairsInSteps",
  .methodLinkNest "StairsInSteps" 25 ⟨"StairsInSteps$Stairs", "<init>", "()V"⟩ "StairsInSteps",
  .methodLinkNest "StairsInSteps$Stairs" 26 ⟨"StairsInSteps$Parts", "<init>", "()V"⟩ "StairsInSteps",
  .methodLinkNest "StairsInSteps$Stairs" 36 ⟨"StairsInSteps$Law", "<init>", "()V"⟩ "StairsInSteps",
  .methodLinkNest "StairsInSteps" 52 ⟨"StairsInSteps$Kept", "<init>", "()V"⟩ "StairsInSteps",
  .methodLinkNest "StairsInSteps" 59 ⟨"StairsInSteps$ByCost", "<init>", "()V"⟩ "StairsInSteps",
  .methodLinkNest "StairsInSteps$ByCost" 11 ⟨"StairsInSteps$Rows", "<init>", "()V"⟩ "StairsInSteps",
  .methodLinkNest "StairsInSteps" 66 ⟨"StairsInSteps$Feast", "<init>", "()V"⟩ "StairsInSteps",
  .methodLinkNest "StairsInSteps$StairsReader" 75 ⟨"StairsInSteps", "isFamily", "(I)Z"⟩ "StairsInSteps",
  .methodLinkNest "StairsInSteps$Parts" 34 ⟨"StairsInSteps", "isFamily", "(I)Z"⟩ "StairsInSteps",
  .methodLinkNest "StairsInSteps$Stairs" 71 ⟨"StairsInSteps", "isFamily", "(I)Z"⟩ "StairsInSteps",
  .methodLinkNest "StairsInSteps$Routes" 30 ⟨"StairsInSteps$Rows", "<init>", "()V"⟩ "StairsInSteps",
  .methodLinkNest "StairsInSteps$Routes" 111 ⟨"StairsInSteps", "bitOf", "(I)J"⟩ "StairsInSteps",
  .methodLinkNest "StairsInSteps$Rows" 89 ⟨"StairsInSteps", "costIn", "(J)I"⟩ "StairsInSteps",
  .methodLinkNest "StairsInSteps$Rows" 75 ⟨"StairsInSteps", "effortIn", "(J)I"⟩ "StairsInSteps",
  .methodLinkNest "StairsInSteps$ByCost" 119 ⟨"StairsInSteps$Routes", "moveTo", "(II)I"⟩ "StairsInSteps",
  .methodLinkNest "StairsInSteps$ByCost" 71 ⟨"StairsInSteps", "costIn", "(J)I"⟩ "StairsInSteps",
  .methodLinkNest "StairsInSteps$ByCost" 93 ⟨"StairsInSteps", "effortIn", "(J)I"⟩ "StairsInSteps",
  .methodLinkNest "StairsInSteps$Routes" 191 ⟨"StairsInSteps", "isAsked", "(I)Z"⟩ "StairsInSteps",
  .methodLinkNest "StairsInSteps$Routes" 172 ⟨"StairsInSteps", "costIn", "(J)I"⟩ "StairsInSteps",
  .methodLinkNest "StairsInSteps$Feast" 68 ⟨"StairsInSteps", "treads", "(JI)Z"⟩ "StairsInSteps"]
/-- arrays of arrays of bytes can be made -/
def jAA (U : State) : Prop := (Cond.arrayOver (.array .byte)).before #[] U = true
def jN (U : State) : Prop := (∀ w ∈ jnest, va_Nw w U) ∧ va_AO RX5 U ∧ va_AO RX2 U ∧ jAA U
def jnestw (w : Cond) : Bool := match w with
  | .fieldLinkNest _ _ _ _ _ _ => true
  | .methodLinkNest _ _ _ _ => true

  | _ => false
theorem jnest_all : ∀ w ∈ jnest, jnestw w = true := by decide +kernel
/-! the words: those of the tables that are good -/
def jT : List Cond := lw_tbl.filter goodWord
theorem jT_mem {w : Cond} (h : w ∈ lw_tbl) (g : goodWord w = true) : w ∈ jT := List.mem_filter.mpr ⟨h, g⟩
theorem jT_good {w : Cond} (h : w ∈ jT) : goodWord w = true := (List.mem_filter.mp h).2
theorem tw {c w : Cond} (h : w ∈ jT) : w ∈ c :: jT := List.mem_cons_of_mem _ h
theorem iw {c : Cond} {A : List Cond} (h : ∀ w ∈ A, w ∈ jT) : ∀ w ∈ A, w ∈ c :: jT := fun w hw => List.mem_cons_of_mem _ (h w hw)
theorem gwN {c cd : Cond} (h : cd ∈ jT) : GoodIn (c :: jT) (cd :: jT) := fun w hw => (List.mem_cons.mp hw).elim (fun e => by subst e; exact ⟨tw h, good_of_word (jT_good h)⟩) (fun e => ⟨tw e, good_of_word (jT_good e)⟩)
theorem gwA {c : Cond} {A ws : List Cond} (h : ∀ w ∈ A, w ∈ jT) (hw : GoodIn (c :: jT) ws) : GoodIn (c :: jT) (A ++ ws) := fun w q => (List.mem_append.mp q).elim (fun e => ⟨tw (h w e), good_of_word (jT_good (h w e))⟩) (hw w)
theorem gwV {c cd : Cond} {own C : String} {i : Nat} {y : MethodName} (h1 : Cond.methodLink own i y ∈ jT) (h2 : Cond.instanceMethod y ∈ jT) (h3 : Cond.selects C y y ∈ jT) (h4 : Cond.initialized C ∈ jT) (h5 : cd ∈ jT) : GoodIn (c :: jT) (wsV own i C y (cd :: jT)) := by
  refine gwA (fun w hw => ?_) (gwN h5)
  rcases List.mem_cons.mp hw with rfl | hw
  · exact h1
  rcases List.mem_cons.mp hw with rfl | hw
  · exact h2
  rcases List.mem_cons.mp hw with rfl | hw
  · exact h3
  rcases List.mem_cons.mp hw with rfl | hw
  · exact h4
  · exact absurd hw List.not_mem_nil
theorem gwS {c cd : Cond} {own : String} {i : Nat} {y : MethodName} (h1 : Cond.methodLink own i y ∈ jT) (h2 : Cond.static y ∈ jT) (h4 : Cond.initialized y.cls ∈ jT) (h5 : cd ∈ jT) : GoodIn (c :: jT) (va_wsS own i y (cd :: jT)) := by
  refine gwA (fun w hw => ?_) (gwN h5)
  rcases List.mem_cons.mp hw with rfl | hw
  · exact h1
  rcases List.mem_cons.mp hw with rfl | hw
  · exact h2
  rcases List.mem_cons.mp hw with rfl | hw
  · exact h4
  · exact absurd hw List.not_mem_nil
theorem jAA_moved {u U : State} (hvm : u.vm.Alike U.vm) (h : jAA u) : jAA U := by
  unfold jAA Cond.before at h ⊢
  simp only [Cond.holds, Cond.value, beq_iff_eq] at h ⊢
  cases hc : u.vm.findClass (FieldType.array .byte).toString with
  | none => simp [hc] at h
  | some comp =>
    simp only [hc, Option.bind_some, Option.bind_eq_some_iff, Option.map_eq_some_iff] at h
    obtain ⟨c, hi, k, hk, hb⟩ := h
    obtain ⟨k', hk', he⟩ := hvm.2.2 _ _ hk
    have hbe : U.vm.bare = u.vm.bare := by first | exact hvm.bare_eq | exact hvm.bare_eq.symm
    have e1 := va_idx_bare U.vm comp
    have e2 := va_idx_bare u.vm comp
    rw [hbe] at e1
    have hi' := e1.symm.trans (e2.trans hi)
    rw [hvm.findClass, hc]
    simp only [Option.bind_some, Option.bind_eq_some_iff, Option.map_eq_some_iff]
    refine ⟨c, hi', k', hk', ?_⟩
    have ek : k'.kind = k.kind := by rw [he]
    rw [ek, hvm.findClass]
    exact hb
theorem jN_alike {s U : State} (hvm : s.vm.Alike U.vm) (h : va_AO RX5 s ∧ va_AO RX2 s ∧ jAA s) : va_AO RX5 U ∧ va_AO RX2 U ∧ jAA U := ⟨va_AO.moved hvm h.1, va_AO.moved hvm h.2.1, jAA_moved hvm h.2.2⟩
theorem jN_warm {s U : State} (hW : s.WarmedH U.vm) (h : jN s) : jN U := by
  refine ⟨fun w hw => ?_, jN_alike hW.alike h.2⟩
  have h1 := h.1 w hw
  have h2 := jnest_all w hw
  cases w with
  | fieldLinkNest a i b n d hh => exact va_Nw.warmF hW h1
  | methodLinkNest a i x hh => exact va_Nw.warmM hW h1
  | _ => cases h2
theorem jN_same {s U : State} (e : s.vm = U.vm) (h : jN s) : jN U := by
  refine ⟨fun w hw => ?_, jN_alike (by rw [e]; exact Vm.Alike.refl U.vm) h.2⟩
  have h1 := h.1 w hw
  have h2 := jnest_all w hw
  cases w with
  | fieldLinkNest a i b n d hh => exact va_Nw.same rfl e h1
  | methodLinkNest a i x hh => exact va_Nw.same rfl e h1
  | _ => cases h2
/-- what a method answers, and leaves -/
abbrev jRt : Type := Option Value → jZ → jI → jL → Prop
abbrev jG : Type := (Program × Launch × Env × Room × State × MethodId × Array Value × List Frame × Method × Code) × va_G × jC × va_W × (Nat → Prop) × (State → Prop)
abbrev gP (G : jG) : Program := G.1.1
abbrev gL (G : jG) : Launch := G.1.2.1
abbrev gE (G : jG) : Env := G.1.2.2.1
abbrev gR (G : jG) : Room := G.1.2.2.2.1
abbrev gS (G : jG) : State := G.1.2.2.2.2.1
abbrev gM (G : jG) : MethodId := G.1.2.2.2.2.2.1
abbrev gV (G : jG) : Array Value := G.1.2.2.2.2.2.2.1
abbrev gB (G : jG) : List Frame := G.1.2.2.2.2.2.2.2.1
abbrev gH (G : jG) : Method := G.1.2.2.2.2.2.2.2.2.1
abbrev gC (G : jG) : Code := G.1.2.2.2.2.2.2.2.2.2
abbrev gD (G : jG) : va_G := G.2.1
abbrev gY (G : jG) : jC := G.2.2.1
/-- cells beside the pool, that stay -/
abbrev gX (G : jG) : va_W := G.2.2.2.1
abbrev gA (G : jG) : Nat → Prop := G.2.2.2.2.1
abbrev gQ (G : jG) : State → Prop := G.2.2.2.2.2
/-- the machine, at pc with these locals, this stack and this pool, comes to its end -/
def jJ (G : jG) (nL pc : Nat) (lv : List (Nat × Value)) (st : List Value) (Z : jZ) (I : jI) (L : jL) (k n : Nat) : Prop :=
  ∀ (H : Heap) (locs : List Loc) (ls : Array Slot), lv_has ls nL lv → va_P (gD G) vwCl (gX G ++ jw (gY G) Z I L) H → va_D (gA G) (gX G ++ jw (gY G) Z I L) → va_S (gA G) (gS G).heap H locs → W (gP G) (gL G) (gE G) (gR G) (gS G) (gM G) (gV G) (gB G) (gH G) (gC G) H locs k n (gQ G) (F0 (gM G) pc ls st)
/-- a method's end: what it answers and leaves -/
def jQ (D : va_G) (cy : jC) (Rt : jRt) (A : Nat → Prop) : Array Value → State → Outcome → State → Prop := fun _ st oc t =>
  (∃ (v : Option Value) (Z : jZ) (I : jI) (L : jL), oc = .returned v ∧ Rt v Z I L ∧ va_P D vwCl (jw cy Z I L) t.heap ∧ va_K D vwCl (jtys cy) t ∧ va_D A (jw cy Z I L)) ∧ va_F A st t
/-- a method's contract: from this pool it returns, and what it answers and leaves keeps Rt -/
def jCt (l : Launch) (y : MethodName) (ws : List Cond) (rm : Room) (D : va_G) (cy : jC) (as : List Value) (Z : jZ) (I : jI) (L : jL) (Rt : jRt) : Prop :=
  ∀ sz : Nat, Met l y ws rm (va_Pc as (fun U => U.heap.size = sz ∧ va_P D vwCl (jw cy Z I L) U.heap ∧ va_K D vwCl (jtys cy) U ∧ va_D (fun _ => True) (jw cy Z I L) ∧ jN U)) (jQ D cy Rt (va_A (jw cy Z I L) sz)) rm.cells rm.slots (va_A (jw cy Z I L) sz)
theorem W.mono {p : Program} {l : Launch} {e : Env} {R : Room} {s : State} {m : MethodId} {args : Array Value} {below : List Frame} {meth : Method} {c : Code} {H : Heap} {locs : List Loc} {cells slots : Nat} {Q Q' : State → Prop} {g : JFrame} (h : ∀ t, Q t → Q' t) (k : W p l e R s m args below meth c H locs cells slots Q g) : W p l e R s m args below meth c H locs cells slots Q' g := by
  intro T hT X
  obtain ⟨t, a, b⟩ := k T hT X
  exact ⟨t, a, h t b⟩
/-- what holds all along a method's body -/
def jE (G : jG) (cc : ByteArray) (own : String) (Ts : List Cond) (nL : Nat) (ret : Option FieldType) (rm : Room) (Rt : jRt) : Prop :=
  CallFix (gP G) (gM G) (gC G) cc nL (gS G) (gV G) Ts own ∧ va_K (gD G) vwCl (jtys (gY G)) (gS G) ∧ (∀ q, (gS G).heap.size ≤ q → gA G q) ∧ jN (gS G) ∧ (gH G).sig.returnType = ret ∧ (gH G).locks = false ∧ gR G = rm ∧ ∀ t : State, MQ (gB G) (jQ (gD G) (gY G) Rt (gA G)) (gV G) (gS G) rm.cells rm.slots (gA G) t → gQ G t
/-! the pool under puts -/
theorem jfs_get {c k : Nat} {I : Nat → Int32} {L : Nat → Int64} {R : Nat → Option Nat} (hk : k < jnum c) : (jfs c I L R)[k]? = some (jval (jty c k) (I k) (L k) (R k)) := by
  simp [jfs, hk]
theorem jfs_len {c : Nat} {I : Nat → Int32} {L : Nat → Int64} {R : Nat → Option Nat} : (jfs c I L R).length = jnum c := by simp [jfs]
theorem jval_int {ty : FieldType} (h : jint ty = true) (i : Int32) (j : Int64) (r : Option Nat) : jval ty i j r = .int i := by
  cases ty <;> first | rfl | cases h
theorem jval_ref {ty : FieldType} (h : jref ty = true) (i : Int32) (j : Int64) (r : Option Nat) : jval ty i j r = va_rf r := by
  cases ty <;> first | rfl | cases h
theorem jfs_setI {c k : Nat} {I : Nat → Int32} {L : Nat → Int64} {R : Nat → Option Nat} (hk : k < jnum c) (ht : jint (jty c k) = true) (v : Int32) : (jfs c I L R).set k (.int v) = jfs c (upd I k v) L R := by
  apply List.ext_getElem?
  intro j
  by_cases hj : j = k
  · subst hj
    rw [List.getElem?_set_self (by rw [jfs_len]; exact hk), jfs_get hk, jval_int ht]
    simp [upd]
  · rw [List.getElem?_set_ne (Ne.symm hj)]
    by_cases h : j < jnum c
    · rw [jfs_get h, jfs_get h]
      simp [upd, hj]
    · rw [List.getElem?_eq_none (by rw [jfs_len]; omega), List.getElem?_eq_none (by rw [jfs_len]; omega)]
theorem jfs_setL {c k : Nat} {I : Nat → Int32} {L : Nat → Int64} {R : Nat → Option Nat} (hk : k < jnum c) (ht : jty c k = .long) (v : Int64) : (jfs c I L R).set k (.long v) = jfs c I (vp_updL L k v) R := by
  apply List.ext_getElem?
  intro j
  by_cases hj : j = k
  · subst hj
    rw [List.getElem?_set_self (by rw [jfs_len]; exact hk), jfs_get hk, ht]
    simp [vp_updL, jval]
  · rw [List.getElem?_set_ne (Ne.symm hj)]
    by_cases h : j < jnum c
    · rw [jfs_get h, jfs_get h]
      simp [vp_updL, hj]
    · rw [List.getElem?_eq_none (by rw [jfs_len]; omega), List.getElem?_eq_none (by rw [jfs_len]; omega)]
theorem jfs_setR {c k : Nat} {I : Nat → Int32} {L : Nat → Int64} {R : Nat → Option Nat} (hk : k < jnum c) (ht : jref (jty c k) = true) (v : Option Nat) : (jfs c I L R).set k (va_rf v) = jfs c I L (va_up R k v) := by
  apply List.ext_getElem?
  intro j
  by_cases hj : j = k
  · subst hj
    rw [List.getElem?_set_self (by rw [jfs_len]; exact hk), jfs_get hk, jval_ref ht]
    simp [va_up]
  · rw [List.getElem?_set_ne (Ne.symm hj)]
    by_cases h : j < jnum c
    · rw [jfs_get h, jfs_get h]
      simp [va_up, hj]
    · rw [List.getElem?_eq_none (by rw [jfs_len]; omega), List.getElem?_eq_none (by rw [jfs_len]; omega)]
theorem jf_obj {cy : jC} {Z : jZ} {I : jI} {L : jL} {a c : Nat} (h : Z.2.1 a = c) (hc : c < 13) : jf cy Z I L a = .inr (c, jfs c (I a) (L a) (Z.2.2.2 a)) := by
  subst h
  simp [jf, hc]
theorem jf_13 {cy : jC} {Z : jZ} {I : jI} {L : jL} {a : Nat} (h : Z.2.1 a = 13) : jf cy Z I L a = .inl (cy.1, Z.2.2.1 a, .inl (I a)) := by simp [jf, h]
theorem jf_14 {cy : jC} {Z : jZ} {I : jI} {L : jL} {a : Nat} (h : Z.2.1 a = 14) : jf cy Z I L a = .inl (cy.2.1, Z.2.2.1 a, .inl (I a)) := by simp [jf, h]
theorem jf_15 {cy : jC} {Z : jZ} {I : jI} {L : jL} {a : Nat} (h : Z.2.1 a = 15) : jf cy Z I L a = .inl (cy.2.2.1, Z.2.2.1 a, .inr (.inl (L a))) := by simp [jf, h]
theorem jf_16 {cy : jC} {Z : jZ} {I : jI} {L : jL} {a : Nat} (h : Z.2.1 a = 16) : jf cy Z I L a = .inl (cy.2.2.2.1, Z.2.2.1 a, .inl (I a)) := by simp [jf, h]
theorem jf_17 {cy : jC} {Z : jZ} {I : jI} {L : jL} {a : Nat} (h : Z.2.1 a = 17) : jf cy Z I L a = .inl (cy.2.2.2.2.1, Z.2.2.1 a, .inr (.inr (.inr (.inr (Z.2.2.2 a))))) := by simp [jf, h]
theorem jf_18 {cy : jC} {Z : jZ} {I : jI} {L : jL} {a : Nat} (h : Z.2.1 a = 18) : jf cy Z I L a = .inl (cy.2.2.2.2.2.1, Z.2.2.1 a, .inr (.inr (.inr (.inr (Z.2.2.2 a))))) := by simp [jf, h]
theorem jf_19 {cy : jC} {Z : jZ} {I : jI} {L : jL} {a : Nat} (h : Z.2.1 a = 19) : jf cy Z I L a = .inl (cy.2.2.2.2.2.2, Z.2.2.1 a, .inr (.inr (.inr (.inr (Z.2.2.2 a))))) := by simp [jf, h]
theorem jw_get {X : va_W} {cy : jC} {Z : jZ} {I : jI} {L : jL} {a : Nat} (h : a ∈ Z.1) : ∃ q : Nat, (X ++ jw cy Z I L)[q]? = some (a, jf cy Z I L a) := va_pl_get (X := X) h
/-- a cell of the pool changes, as its kind lets it -/
theorem jw_set {X : va_W} {cy : jC} {Z Z' : jZ} {I I' : jI} {L L' : jL} {A : Nat → Prop} {a q : Nat} {e : va_E} (hD : va_D A (X ++ jw cy Z I L)) (h : a ∈ Z.1) (hq : (X ++ jw cy Z I L)[q]? = some (a, jf cy Z I L a)) (h1 : Z'.1 = Z.1) (he : jf cy Z' I' L' a = e) (ho : ∀ b, b ≠ a → jf cy Z' I' L' b = jf cy Z I L b) : (X ++ jw cy Z I L).set q (a, e) = X ++ jw cy Z' I' L' := by
  have h2 : (X ++ jw cy Z I L).set q (a, e) = X ++ va_pl Z.1 (va_up (jf cy Z I L) a e) := va_pl_set (X := X) hD h hq
  rw [h2]
  unfold jw
  rw [h1]
  congr 1
  apply va_pl_congr
  intro b
  by_cases hb : b = a
  · subst hb
    rw [va_up_self, he]
  · rw [va_up_ne _ _ hb, ho b hb]
/-- an int goes to place j of cell a -/
abbrev jpI (I : jI) (a j : Nat) (v : Int32) : jI := va_up I a (upd (I a) j v)
abbrev jpL (L : jL) (a j : Nat) (v : Int64) : jL := va_up L a (vp_updL (L a) j v)
abbrev jpR (Z : jZ) (a j : Nat) (v : Option Nat) : jZ := (Z.1, Z.2.1, Z.2.2.1, va_up Z.2.2.2 a (va_up (Z.2.2.2 a) j v))
theorem jf_I_ne {cy : jC} {Z : jZ} {I : jI} {L : jL} {a b : Nat} {f : Nat → Int32} (h : b ≠ a) : jf cy Z (va_up I a f) L b = jf cy Z I L b := by simp [jf, va_up_ne _ _ h]
theorem jf_L_ne {cy : jC} {Z : jZ} {I : jI} {L : jL} {a b : Nat} {f : Nat → Int64} (h : b ≠ a) : jf cy Z I (va_up L a f) b = jf cy Z I L b := by simp [jf, va_up_ne _ _ h]
theorem jf_R_ne {cy : jC} {Z : jZ} {I : jI} {L : jL} {a b : Nat} {f : Nat → Option Nat} (h : b ≠ a) : jf cy (Z.1, Z.2.1, Z.2.2.1, va_up Z.2.2.2 a f) I L b = jf cy Z I L b := by simp [jf, va_up_ne _ _ h]
theorem jcl {c : Nat} (hc : c < 13) : ∃ r : vw_C, vwCl[c]? = some r ∧ r.2.2 = jnum c := by
  rcases (show c = 0 ∨ c = 1 ∨ c = 2 ∨ c = 3 ∨ c = 4 ∨ c = 5 ∨ c = 6 ∨ c = 7 ∨ c = 8 ∨ c = 9 ∨ c = 10 ∨ c = 11 ∨ c = 12 by omega) with rfl | rfl | rfl | rfl | rfl | rfl | rfl | rfl | rfl | rfl | rfl | rfl | rfl <;> exact ⟨_, rfl, rfl⟩
/-- the frame: the cells beside a pool stay, whatever becomes of the pool -/
theorem j_join {A0 : Nat → Prop} {D : va_G} {cl : List vw_C} {X P P' : va_W} {H H1 : Heap} (hP : va_P D cl (X ++ P) H) (hD : va_D A0 (X ++ P)) (hk : ∀ q : Nat, q < H.size → ¬ va_A P H.size q → H1[q]? = H[q]?) (hF : ∀ q, va_A P H.size q → A0 q) (hP1 : va_P D cl P' H1) (hD1 : va_D (va_A P H.size) P') : va_P D cl (X ++ P') H1 ∧ va_D A0 (X ++ P') := by
  have left : ∀ (k : Nat) (q : Nat × va_E), X[k]? = some q → (X ++ P)[k]? = some q := fun k q h => by
    rw [List.getElem?_append_left (List.getElem?_eq_some_iff.mp h).1]; exact h
  have right : ∀ (k : Nat) (q : Nat × va_E), P[k]? = some q → (X ++ P)[X.length + k]? = some q := fun k q h => by
    rw [List.getElem?_append_right (by omega), Nat.add_sub_cancel_left]; exact h
  have apart : ∀ (k : Nat) (q : Nat × va_E), X[k]? = some q → q.1 < H.size ∧ ¬ va_A P H.size q.1 := by
    intro k q hq
    have hl := (hP k q (left k q hq)).lt
    refine ⟨hl, fun h => ?_⟩
    rcases h with ⟨k2, e, h⟩ | h
    · have hij := hD.1 k (X.length + k2) q (q.1, e) (left k q hq) (right k2 _ h) rfl
      have := (List.getElem?_eq_some_iff.mp hq).1
      omega
    · omega
  refine ⟨va_P.app (fun k q hq => ?_) hP1, va_D.app ⟨fun i j p q hi hj => hD.1 i j p q (left i p hi) (left j q hj), fun k q hq => hD.2 k q (left k q hq)⟩ (hD1.weaken (fun k q _ h => hF q.1 h)) (fun i j x y hx hy hxy => ?_)⟩
  · obtain ⟨g1, g2⟩ := apart k q hq
    exact (hP k q (left k q hq)).kept (hk q.1 g1 g2)
  · exact (apart i x hx).2 (by rw [hxy]; exact hD1.2 j y hy)
theorem j_cutP {D : va_G} {cl : List vw_C} {X P : va_W} {H : Heap} (hP : va_P D cl (X ++ P) H) : va_P D cl P H := fun k q h => hP (X.length + k) q (by rw [List.getElem?_append_right (by omega), Nat.add_sub_cancel_left]; exact h)
theorem j_cutD {A0 : Nat → Prop} {X P : va_W} (hD : va_D A0 (X ++ P)) : va_D A0 P := ⟨fun i j p q hi hj e => by
    have := hD.1 (X.length + i) (X.length + j) p q (by rw [List.getElem?_append_right (by omega), Nat.add_sub_cancel_left]; exact hi) (by rw [List.getElem?_append_right (by omega), Nat.add_sub_cancel_left]; exact hj) e
    omega, fun k q h => hD.2 (X.length + k) q (by rw [List.getElem?_append_right (by omega), Nat.add_sub_cancel_left]; exact h)⟩
section JROWS
variable {G : jG} {cc : ByteArray} {own : String} {Ts : List Cond} {nL : Nat} {ret : Option FieldType} {rm : Room} {Rt : jRt} {pc : Nat} {lv : List (Nat × Value)} {st : List Value} {Z : jZ} {I : jI} {L : jL} {k n : Nat}
theorem j_iconst (E : jE G cc own Ts nL ret rm Rt) {i : Int} {v : Int32} (d : decode cc pc = .ok (.iconst i, 1)) (hv : Int32.ofInt i = v) (kk : jJ G nL (pc + 1) lv (.int v :: st) Z I L k n) : jJ G nL pc lv (st) Z I L k n := fun H locs ls hl hP hD hS => lv_iconst E.1.1 E.1.2.1 d hv (kk H locs ls hl hP hD hS)
theorem j_bipush (E : jE G cc own Ts nL ret rm Rt) {i : Int} {v : Int32} (d : decode cc pc = .ok (.bipush i, 2)) (hv : (Int8.ofInt i).toInt32 = v) (kk : jJ G nL (pc + 2) lv (.int v :: st) Z I L k n) : jJ G nL pc lv (st) Z I L k n := fun H locs ls hl hP hD hS => lv_bipush E.1.1 E.1.2.1 d hv (kk H locs ls hl hP hD hS)
theorem j_sipush (E : jE G cc own Ts nL ret rm Rt) {i : Int} {v : Int32} (d : decode cc pc = .ok (.sipush i, 3)) (hv : (Int16.ofInt i).toInt32 = v) (kk : jJ G nL (pc + 3) lv (.int v :: st) Z I L k n) : jJ G nL pc lv (st) Z I L k n := fun H locs ls hl hP hD hS => lv_sipush E.1.1 E.1.2.1 d hv (kk H locs ls hl hP hD hS)
theorem j_lconst (E : jE G cc own Ts nL ret rm Rt) {i : Fin 2} {v : Int64} (d : decode cc pc = .ok (.lconst i, 1)) (hv : Int64.ofNat (i : Nat) = v) (kk : jJ G nL (pc + 1) lv (.long v :: st) Z I L k n) : jJ G nL pc lv (st) Z I L k n := fun H locs ls hl hP hD hS => lv_lconst E.1.1 E.1.2.1 d hv (kk H locs ls hl hP hD hS)
theorem j_null (E : jE G cc own Ts nL ret rm Rt)  (d : decode cc pc = .ok (.aconst_null, 1))  (kk : jJ G nL (pc + 1) lv (.null :: st) Z I L k n) : jJ G nL pc lv (st) Z I L k n := fun H locs ls hl hP hD hS => lv_null E.1.1 E.1.2.1 d  (kk H locs ls hl hP hD hS)
theorem j_iload_n (E : jE G cc own Ts nL ret rm Rt) {i : Fin 4} {x : Int32} (d : decode cc pc = .ok (.iload_n i, 1)) (q : Nat) (hq : lv[q]? = some ((i : Nat), .int x)) (kk : jJ G nL (pc + 1) lv (.int x :: st) Z I L k n) : jJ G nL pc lv st Z I L k n := fun H locs ls hl hP hD hS => lv_iload_n E.1.1 E.1.2.1 d rfl (lv_at hl q hq) (kk H locs ls hl hP hD hS)
theorem j_iload (E : jE G cc own Ts nL ret rm Rt) {i : Nat} {x : Int32} (d : decode cc pc = .ok (.iload i, 2)) (q : Nat) (hq : lv[q]? = some (i, .int x)) (kk : jJ G nL (pc + 2) lv (.int x :: st) Z I L k n) : jJ G nL pc lv st Z I L k n := fun H locs ls hl hP hD hS => lv_iload E.1.1 E.1.2.1 d (lv_at hl q hq) (kk H locs ls hl hP hD hS)
theorem j_lload_n (E : jE G cc own Ts nL ret rm Rt) {i : Fin 4} {x : Int64} (d : decode cc pc = .ok (.lload_n i, 1)) (q : Nat) (hq : lv[q]? = some ((i : Nat), .long x)) (kk : jJ G nL (pc + 1) lv (.long x :: st) Z I L k n) : jJ G nL pc lv st Z I L k n := fun H locs ls hl hP hD hS => lv_lload_n E.1.1 E.1.2.1 d rfl (lv_at hl q hq) (kk H locs ls hl hP hD hS)
theorem j_lload (E : jE G cc own Ts nL ret rm Rt) {i : Nat} {x : Int64} (d : decode cc pc = .ok (.lload i, 2)) (q : Nat) (hq : lv[q]? = some (i, .long x)) (kk : jJ G nL (pc + 2) lv (.long x :: st) Z I L k n) : jJ G nL pc lv st Z I L k n := fun H locs ls hl hP hD hS => lv_lload E.1.1 E.1.2.1 d (lv_at hl q hq) (kk H locs ls hl hP hD hS)
theorem j_aload_n (E : jE G cc own Ts nL ret rm Rt) {i : Fin 4} {x : Nat} (d : decode cc pc = .ok (.aload_n i, 1)) (q : Nat) (hq : lv[q]? = some ((i : Nat), .ref x)) (kk : jJ G nL (pc + 1) lv (.ref x :: st) Z I L k n) : jJ G nL pc lv st Z I L k n := fun H locs ls hl hP hD hS => lv_aload_n E.1.1 E.1.2.1 d rfl (lv_at hl q hq) (kk H locs ls hl hP hD hS)
theorem j_aload (E : jE G cc own Ts nL ret rm Rt) {i : Nat} {x : Nat} (d : decode cc pc = .ok (.aload i, 2)) (q : Nat) (hq : lv[q]? = some (i, .ref x)) (kk : jJ G nL (pc + 2) lv (.ref x :: st) Z I L k n) : jJ G nL pc lv st Z I L k n := fun H locs ls hl hP hD hS => lv_aload E.1.1 E.1.2.1 d (lv_at hl q hq) (kk H locs ls hl hP hD hS)
theorem j_aload_nN (E : jE G cc own Ts nL ret rm Rt) {i : Fin 4} (d : decode cc pc = .ok (.aload_n i, 1)) (q : Nat) (hq : lv[q]? = some ((i : Nat), .null)) (kk : jJ G nL (pc + 1) lv (.null :: st) Z I L k n) : jJ G nL pc lv st Z I L k n := fun H locs ls hl hP hD hS => lv_aload_nN E.1.1 E.1.2.1 d rfl (lv_at hl q hq) (kk H locs ls hl hP hD hS)
theorem j_aloadN (E : jE G cc own Ts nL ret rm Rt) {i : Nat} (d : decode cc pc = .ok (.aload i, 2)) (q : Nat) (hq : lv[q]? = some (i, .null)) (kk : jJ G nL (pc + 2) lv (.null :: st) Z I L k n) : jJ G nL pc lv st Z I L k n := fun H locs ls hl hP hD hS => lv_aloadN E.1.1 E.1.2.1 d (lv_at hl q hq) (kk H locs ls hl hP hD hS)
theorem j_istore_n (E : jE G cc own Ts nL ret rm Rt) {k0 : Fin 4} {x : Int32} (i : Nat) (lw : List (Nat × Value)) (d : decode cc pc = .ok (.istore_n k0, 1)) (hi : (k0 : Nat) = i) (hn : i < nL) (hl0 : (i, Value.int x) :: lv.filter (fun q => !(q.1 == i) && !(q.1 + 1 == i && q.2.category == 2)) = lw) (kk : jJ G nL (pc + 1) lw st Z I L k n) : jJ G nL pc lv (Value.int x :: st) Z I L k n := fun H locs ls hl hP hD hS => lv_istore_n E.1.1 E.1.2.1 d hi hl hn hl0 (fun ls hl => kk H locs ls hl hP hD hS)
theorem j_istore (E : jE G cc own Ts nL ret rm Rt) {x : Int32} (i : Nat) (lw : List (Nat × Value)) (d : decode cc pc = .ok (.istore i, 2)) (hn : i < nL) (hl0 : (i, Value.int x) :: lv.filter (fun q => !(q.1 == i) && !(q.1 + 1 == i && q.2.category == 2)) = lw) (kk : jJ G nL (pc + 2) lw st Z I L k n) : jJ G nL pc lv (Value.int x :: st) Z I L k n := fun H locs ls hl hP hD hS => lv_istore E.1.1 E.1.2.1 d hl hn hl0 (fun ls hl => kk H locs ls hl hP hD hS)
theorem j_lstore_n (E : jE G cc own Ts nL ret rm Rt) {k0 : Fin 4} {x : Int64} (i : Nat) (lw : List (Nat × Value)) (d : decode cc pc = .ok (.lstore_n k0, 1)) (hi : (k0 : Nat) = i) (hn : i + 1 < nL) (hl0 : (i, Value.long x) :: lv.filter (fun q => !(q.1 == i) && (!(q.1 == i + 1) && !(q.1 + 1 == i && q.2.category == 2))) = lw) (kk : jJ G nL (pc + 1) lw st Z I L k n) : jJ G nL pc lv (Value.long x :: st) Z I L k n := fun H locs ls hl hP hD hS => lv_lstore_n E.1.1 E.1.2.1 d hi hl hn hl0 (fun ls hl => kk H locs ls hl hP hD hS)
theorem j_lstore (E : jE G cc own Ts nL ret rm Rt) {x : Int64} (i : Nat) (lw : List (Nat × Value)) (d : decode cc pc = .ok (.lstore i, 2)) (hn : i + 1 < nL) (hl0 : (i, Value.long x) :: lv.filter (fun q => !(q.1 == i) && (!(q.1 == i + 1) && !(q.1 + 1 == i && q.2.category == 2))) = lw) (kk : jJ G nL (pc + 2) lw st Z I L k n) : jJ G nL pc lv (Value.long x :: st) Z I L k n := fun H locs ls hl hP hD hS => lv_lstore E.1.1 E.1.2.1 d hl hn hl0 (fun ls hl => kk H locs ls hl hP hD hS)
theorem j_astore_n (E : jE G cc own Ts nL ret rm Rt) {k0 : Fin 4} {x : Nat} (i : Nat) (lw : List (Nat × Value)) (d : decode cc pc = .ok (.astore_n k0, 1)) (hi : (k0 : Nat) = i) (hn : i < nL) (hl0 : (i, Value.ref x) :: lv.filter (fun q => !(q.1 == i) && !(q.1 + 1 == i && q.2.category == 2)) = lw) (kk : jJ G nL (pc + 1) lw st Z I L k n) : jJ G nL pc lv (Value.ref x :: st) Z I L k n := fun H locs ls hl hP hD hS => lv_astore_n E.1.1 E.1.2.1 d hi hl hn hl0 (fun ls hl => kk H locs ls hl hP hD hS)
theorem j_astore (E : jE G cc own Ts nL ret rm Rt) {x : Nat} (i : Nat) (lw : List (Nat × Value)) (d : decode cc pc = .ok (.astore i, 2)) (hn : i < nL) (hl0 : (i, Value.ref x) :: lv.filter (fun q => !(q.1 == i) && !(q.1 + 1 == i && q.2.category == 2)) = lw) (kk : jJ G nL (pc + 2) lw st Z I L k n) : jJ G nL pc lv (Value.ref x :: st) Z I L k n := fun H locs ls hl hP hD hS => lv_astore E.1.1 E.1.2.1 d hl hn hl0 (fun ls hl => kk H locs ls hl hP hD hS)
theorem j_astore_nN (E : jE G cc own Ts nL ret rm Rt) {k0 : Fin 4} (i : Nat) (lw : List (Nat × Value)) (d : decode cc pc = .ok (.astore_n k0, 1)) (hi : (k0 : Nat) = i) (hn : i < nL) (hl0 : (i, Value.null) :: lv.filter (fun q => !(q.1 == i) && !(q.1 + 1 == i && q.2.category == 2)) = lw) (kk : jJ G nL (pc + 1) lw st Z I L k n) : jJ G nL pc lv (Value.null :: st) Z I L k n := fun H locs ls hl hP hD hS => lv_astore_nN E.1.1 E.1.2.1 d hi hl hn hl0 (fun ls hl => kk H locs ls hl hP hD hS)
theorem j_astoreN (E : jE G cc own Ts nL ret rm Rt) (i : Nat) (lw : List (Nat × Value)) (d : decode cc pc = .ok (.astore i, 2)) (hn : i < nL) (hl0 : (i, Value.null) :: lv.filter (fun q => !(q.1 == i) && !(q.1 + 1 == i && q.2.category == 2)) = lw) (kk : jJ G nL (pc + 2) lw st Z I L k n) : jJ G nL pc lv (Value.null :: st) Z I L k n := fun H locs ls hl hP hD hS => lv_astoreN E.1.1 E.1.2.1 d hl hn hl0 (fun ls hl => kk H locs ls hl hP hD hS)
theorem j_iinc (E : jE G cc own Ts nL ret rm Rt) {i : Nat} {j : Int} {x : Int32} (v : Int32) (lw : List (Nat × Value)) (d : decode cc pc = .ok (.iinc i j, 3)) (q : Nat) (hq : lv[q]? = some (i, .int x)) (hv : x + Int32.ofInt j = v) (hn : i < nL) (hl0 : (i, Value.int v) :: lv.filter (fun q => !(q.1 == i) && !(q.1 + 1 == i && q.2.category == 2)) = lw) (kk : jJ G nL (pc + 3) lw st Z I L k n) : jJ G nL pc lv st Z I L k n := fun H locs ls hl hP hD hS => lv_iinc (v := v) E.1.1 E.1.2.1 d hl (k := q) hq hv hn hl0 (fun ls hl => kk H locs ls hl hP hD hS)
theorem j_iadd (E : jE G cc own Ts nL ret rm Rt) {x y : Int32} (d : decode cc pc = .ok (.iadd, 1))  (kk : jJ G nL (pc + 1) lv (.int (x + y) :: st) Z I L k n) : jJ G nL pc lv (.int y :: .int x :: st) Z I L k n := fun H locs ls hl hP hD hS => lv_iadd E.1.1 E.1.2.1 d  (kk H locs ls hl hP hD hS)
theorem j_isub (E : jE G cc own Ts nL ret rm Rt) {x y : Int32} (d : decode cc pc = .ok (.isub, 1))  (kk : jJ G nL (pc + 1) lv (.int (x - y) :: st) Z I L k n) : jJ G nL pc lv (.int y :: .int x :: st) Z I L k n := fun H locs ls hl hP hD hS => lv_isub E.1.1 E.1.2.1 d  (kk H locs ls hl hP hD hS)
theorem j_imul (E : jE G cc own Ts nL ret rm Rt) {x y : Int32} (d : decode cc pc = .ok (.imul, 1))  (kk : jJ G nL (pc + 1) lv (.int (x * y) :: st) Z I L k n) : jJ G nL pc lv (.int y :: .int x :: st) Z I L k n := fun H locs ls hl hP hD hS => lv_imul E.1.1 E.1.2.1 d  (kk H locs ls hl hP hD hS)
theorem j_iand (E : jE G cc own Ts nL ret rm Rt) {x y : Int32} (d : decode cc pc = .ok (.iand, 1))  (kk : jJ G nL (pc + 1) lv (.int (x &&& y) :: st) Z I L k n) : jJ G nL pc lv (.int y :: .int x :: st) Z I L k n := fun H locs ls hl hP hD hS => lv_iand E.1.1 E.1.2.1 d  (kk H locs ls hl hP hD hS)
theorem j_ior (E : jE G cc own Ts nL ret rm Rt) {x y : Int32} (d : decode cc pc = .ok (.ior, 1))  (kk : jJ G nL (pc + 1) lv (.int (x ||| y) :: st) Z I L k n) : jJ G nL pc lv (.int y :: .int x :: st) Z I L k n := fun H locs ls hl hP hD hS => lv_ior E.1.1 E.1.2.1 d  (kk H locs ls hl hP hD hS)
theorem j_ixor (E : jE G cc own Ts nL ret rm Rt) {x y : Int32} (d : decode cc pc = .ok (.ixor, 1))  (kk : jJ G nL (pc + 1) lv (.int (x ^^^ y) :: st) Z I L k n) : jJ G nL pc lv (.int y :: .int x :: st) Z I L k n := fun H locs ls hl hP hD hS => lv_ixor E.1.1 E.1.2.1 d  (kk H locs ls hl hP hD hS)
theorem j_idiv (E : jE G cc own Ts nL ret rm Rt) {x y : Int32} (d : decode cc pc = .ok (.idiv, 1)) (hne : ¬ y = 0) (kk : jJ G nL (pc + 1) lv (.int (x / y) :: st) Z I L k n) : jJ G nL pc lv (.int y :: .int x :: st) Z I L k n := fun H locs ls hl hP hD hS => lv_idiv E.1.1 E.1.2.1 d hne (kk H locs ls hl hP hD hS)
theorem j_irem (E : jE G cc own Ts nL ret rm Rt) {x y : Int32} (d : decode cc pc = .ok (.irem, 1)) (hne : ¬ y = 0) (kk : jJ G nL (pc + 1) lv (.int (x - (x / y) * y) :: st) Z I L k n) : jJ G nL pc lv (.int y :: .int x :: st) Z I L k n := fun H locs ls hl hP hD hS => lv_irem E.1.1 E.1.2.1 d hne (kk H locs ls hl hP hD hS)
theorem j_ineg (E : jE G cc own Ts nL ret rm Rt) {x : Int32} (d : decode cc pc = .ok (.ineg, 1))  (kk : jJ G nL (pc + 1) lv (.int (-x) :: st) Z I L k n) : jJ G nL pc lv (.int x :: st) Z I L k n := fun H locs ls hl hP hD hS => lv_ineg E.1.1 E.1.2.1 d  (kk H locs ls hl hP hD hS)
theorem j_ishl (E : jE G cc own Ts nL ret rm Rt) {x y : Int32} (d : decode cc pc = .ok (.ishl, 1))  (kk : jJ G nL (pc + 1) lv (.int (x <<< (y &&& 31)) :: st) Z I L k n) : jJ G nL pc lv (.int y :: .int x :: st) Z I L k n := fun H locs ls hl hP hD hS => lv_ishl E.1.1 E.1.2.1 d  (kk H locs ls hl hP hD hS)
theorem j_ishr (E : jE G cc own Ts nL ret rm Rt) {x y : Int32} (d : decode cc pc = .ok (.ishr, 1))  (kk : jJ G nL (pc + 1) lv (.int (x >>> (y &&& 31)) :: st) Z I L k n) : jJ G nL pc lv (.int y :: .int x :: st) Z I L k n := fun H locs ls hl hP hD hS => lv_ishr E.1.1 E.1.2.1 d  (kk H locs ls hl hP hD hS)
theorem j_iushr (E : jE G cc own Ts nL ret rm Rt) {x y : Int32} (d : decode cc pc = .ok (.iushr, 1))  (kk : jJ G nL (pc + 1) lv (.int ((x.toUInt32 >>> (y.toUInt32 &&& Int32.toUInt32 31)).toInt32) :: st) Z I L k n) : jJ G nL pc lv (.int y :: .int x :: st) Z I L k n := fun H locs ls hl hP hD hS => lv_iushr E.1.1 E.1.2.1 d rfl (kk H locs ls hl hP hD hS)
theorem j_ladd (E : jE G cc own Ts nL ret rm Rt) {x y : Int64} (d : decode cc pc = .ok (.ladd, 1))  (kk : jJ G nL (pc + 1) lv (.long (x + y) :: st) Z I L k n) : jJ G nL pc lv (.long y :: .long x :: st) Z I L k n := fun H locs ls hl hP hD hS => lv_ladd E.1.1 E.1.2.1 d  (kk H locs ls hl hP hD hS)
theorem j_lsub (E : jE G cc own Ts nL ret rm Rt) {x y : Int64} (d : decode cc pc = .ok (.lsub, 1))  (kk : jJ G nL (pc + 1) lv (.long (x - y) :: st) Z I L k n) : jJ G nL pc lv (.long y :: .long x :: st) Z I L k n := fun H locs ls hl hP hD hS => lv_lsub E.1.1 E.1.2.1 d  (kk H locs ls hl hP hD hS)
theorem j_lmul (E : jE G cc own Ts nL ret rm Rt) {x y : Int64} (d : decode cc pc = .ok (.lmul, 1))  (kk : jJ G nL (pc + 1) lv (.long (x * y) :: st) Z I L k n) : jJ G nL pc lv (.long y :: .long x :: st) Z I L k n := fun H locs ls hl hP hD hS => lv_lmul E.1.1 E.1.2.1 d  (kk H locs ls hl hP hD hS)
theorem j_land (E : jE G cc own Ts nL ret rm Rt) {x y : Int64} (d : decode cc pc = .ok (.land, 1))  (kk : jJ G nL (pc + 1) lv (.long (x &&& y) :: st) Z I L k n) : jJ G nL pc lv (.long y :: .long x :: st) Z I L k n := fun H locs ls hl hP hD hS => lv_land E.1.1 E.1.2.1 d  (kk H locs ls hl hP hD hS)
theorem j_lor (E : jE G cc own Ts nL ret rm Rt) {x y : Int64} (d : decode cc pc = .ok (.lor, 1))  (kk : jJ G nL (pc + 1) lv (.long (x ||| y) :: st) Z I L k n) : jJ G nL pc lv (.long y :: .long x :: st) Z I L k n := fun H locs ls hl hP hD hS => lv_lor E.1.1 E.1.2.1 d  (kk H locs ls hl hP hD hS)
theorem j_lxor (E : jE G cc own Ts nL ret rm Rt) {x y : Int64} (d : decode cc pc = .ok (.lxor, 1))  (kk : jJ G nL (pc + 1) lv (.long (x ^^^ y) :: st) Z I L k n) : jJ G nL pc lv (.long y :: .long x :: st) Z I L k n := fun H locs ls hl hP hD hS => lv_lxor E.1.1 E.1.2.1 d  (kk H locs ls hl hP hD hS)
theorem j_ldiv (E : jE G cc own Ts nL ret rm Rt) {x y : Int64} (d : decode cc pc = .ok (.ldiv, 1)) (hne : ¬ y = 0) (kk : jJ G nL (pc + 1) lv (.long (x / y) :: st) Z I L k n) : jJ G nL pc lv (.long y :: .long x :: st) Z I L k n := fun H locs ls hl hP hD hS => lv_ldiv E.1.1 E.1.2.1 d hne (kk H locs ls hl hP hD hS)
theorem j_lrem (E : jE G cc own Ts nL ret rm Rt) {x y : Int64} (d : decode cc pc = .ok (.lrem, 1)) (hne : ¬ y = 0) (kk : jJ G nL (pc + 1) lv (.long (x - (x / y) * y) :: st) Z I L k n) : jJ G nL pc lv (.long y :: .long x :: st) Z I L k n := fun H locs ls hl hP hD hS => lv_lrem E.1.1 E.1.2.1 d hne (kk H locs ls hl hP hD hS)
theorem j_lshl (E : jE G cc own Ts nL ret rm Rt) {x : Int64} {y : Int32} (d : decode cc pc = .ok (.lshl, 1))  (kk : jJ G nL (pc + 1) lv (.long (x <<< (y.toInt64 &&& 63)) :: st) Z I L k n) : jJ G nL pc lv (.int y :: .long x :: st) Z I L k n := fun H locs ls hl hP hD hS => lv_lshl E.1.1 E.1.2.1 d rfl (kk H locs ls hl hP hD hS)
theorem j_lushr (E : jE G cc own Ts nL ret rm Rt) {x : Int64} {y : Int32} (d : decode cc pc = .ok (.lushr, 1))  (kk : jJ G nL (pc + 1) lv (.long ((x.toUInt64 >>> (y.toInt64.toUInt64 &&& Int64.toUInt64 63)).toInt64) :: st) Z I L k n) : jJ G nL pc lv (.int y :: .long x :: st) Z I L k n := fun H locs ls hl hP hD hS => lv_lushr E.1.1 E.1.2.1 d rfl (kk H locs ls hl hP hD hS)
theorem j_i2l (E : jE G cc own Ts nL ret rm Rt) {x : Int32} (d : decode cc pc = .ok (.i2l, 1))  (kk : jJ G nL (pc + 1) lv (.long (x.toInt64) :: st) Z I L k n) : jJ G nL pc lv (.int x :: st) Z I L k n := fun H locs ls hl hP hD hS => lv_i2l E.1.1 E.1.2.1 d rfl (kk H locs ls hl hP hD hS)
theorem j_l2i (E : jE G cc own Ts nL ret rm Rt) {x : Int64} (d : decode cc pc = .ok (.l2i, 1))  (kk : jJ G nL (pc + 1) lv (.int (x.toInt32) :: st) Z I L k n) : jJ G nL pc lv (.long x :: st) Z I L k n := fun H locs ls hl hP hD hS => lv_l2i E.1.1 E.1.2.1 d rfl (kk H locs ls hl hP hD hS)
theorem j_i2b (E : jE G cc own Ts nL ret rm Rt) {x : Int32} (d : decode cc pc = .ok (.i2b, 1))  (kk : jJ G nL (pc + 1) lv (.int (x.toInt8.toInt32) :: st) Z I L k n) : jJ G nL pc lv (.int x :: st) Z I L k n := fun H locs ls hl hP hD hS => lv_i2b E.1.1 E.1.2.1 d rfl (kk H locs ls hl hP hD hS)
theorem j_i2s (E : jE G cc own Ts nL ret rm Rt) {x : Int32} (d : decode cc pc = .ok (.i2s, 1))  (kk : jJ G nL (pc + 1) lv (.int (x.toInt16.toInt32) :: st) Z I L k n) : jJ G nL pc lv (.int x :: st) Z I L k n := fun H locs ls hl hP hD hS => lv_i2s E.1.1 E.1.2.1 d rfl (kk H locs ls hl hP hD hS)
theorem j_i2c (E : jE G cc own Ts nL ret rm Rt) {x : Int32} (d : decode cc pc = .ok (.i2c, 1))  (kk : jJ G nL (pc + 1) lv (.int ((x.toUInt32 % 65536).toInt32) :: st) Z I L k n) : jJ G nL pc lv (.int x :: st) Z I L k n := fun H locs ls hl hP hD hS => lv_i2c E.1.1 E.1.2.1 d rfl (kk H locs ls hl hP hD hS)
theorem j_lcmp (E : jE G cc own Ts nL ret rm Rt) {x y : Int64} (d : decode cc pc = .ok (.lcmp, 1))  (kk : jJ G nL (pc + 1) lv (.int (lg_cmp x y) :: st) Z I L k n) : jJ G nL pc lv (.long y :: .long x :: st) Z I L k n := fun H locs ls hl hP hD hS => W.lcmp E.1.1 E.1.2.1 d  (kk H locs ls hl hP hD hS)
theorem j_dup (E : jE G cc own Ts nL ret rm Rt) {v : Value} (d : decode cc pc = .ok (.dup, 1)) (hv : v.category = 1) (kk : jJ G nL (pc + 1) lv (v :: v :: st) Z I L k n) : jJ G nL pc lv (v :: st) Z I L k n := fun H locs ls hl hP hD hS => lv_dup E.1.1 E.1.2.1 d hv (kk H locs ls hl hP hD hS)
theorem j_pop (E : jE G cc own Ts nL ret rm Rt) {v : Value} (d : decode cc pc = .ok (.pop, 1)) (hv : v.category = 1) (kk : jJ G nL (pc + 1) lv (st) Z I L k n) : jJ G nL pc lv (v :: st) Z I L k n := fun H locs ls hl hP hD hS => lv_pop E.1.1 E.1.2.1 d hv (kk H locs ls hl hP hD hS)
theorem j_dup_x1 (E : jE G cc own Ts nL ret rm Rt) {v w : Value} (d : decode cc pc = .ok (.dup_x1, 1)) (hv : v.category = 1) (hw : w.category = 1) (kk : jJ G nL (pc + 1) lv (v :: w :: v :: st) Z I L k n) : jJ G nL pc lv (v :: w :: st) Z I L k n := fun H locs ls hl hP hD hS => lv_dup_x1 E.1.1 E.1.2.1 d hv hw (kk H locs ls hl hP hD hS)
theorem j_dup2_11 (E : jE G cc own Ts nL ret rm Rt) {v w : Value} (d : decode cc pc = .ok (.dup2, 1)) (hv : v.category = 1) (hw : w.category = 1) (kk : jJ G nL (pc + 1) lv (v :: w :: v :: w :: st) Z I L k n) : jJ G nL pc lv (v :: w :: st) Z I L k n := fun H locs ls hl hP hD hS => lv_dup2_11 E.1.1 E.1.2.1 d hv hw (kk H locs ls hl hP hD hS)
theorem j_if_eq (E : jE G cc own Ts nL ret rm Rt) {x : Int32} {off : Int} (tgt : Nat) (d : decode cc pc = .ok (.ifCond .eq off, 3)) (ht : (pc : Int) + off = (tgt : Int)) (kt : x = 0 → jJ G nL tgt lv st Z I L k n) (kf : ¬ (x = 0) → jJ G nL (pc + 3) lv st Z I L k n) : jJ G nL pc lv (.int x :: st) Z I L k n := fun H locs ls hl hP hD hS => lv_if_eq E.1.1 E.1.2.1 d ht (fun h => kt h H locs ls hl hP hD hS) (fun h => kf h H locs ls hl hP hD hS)
theorem j_icmp_eq (E : jE G cc own Ts nL ret rm Rt) {x y : Int32} {off : Int} (tgt : Nat) (d : decode cc pc = .ok (.if_icmp .eq off, 3)) (ht : (pc : Int) + off = (tgt : Int)) (kt : x = y → jJ G nL tgt lv st Z I L k n) (kf : ¬ (x = y) → jJ G nL (pc + 3) lv st Z I L k n) : jJ G nL pc lv (.int y :: .int x :: st) Z I L k n := fun H locs ls hl hP hD hS => lv_icmp_eq E.1.1 E.1.2.1 d ht (fun h => kt h H locs ls hl hP hD hS) (fun h => kf h H locs ls hl hP hD hS)
theorem j_if_ne (E : jE G cc own Ts nL ret rm Rt) {x : Int32} {off : Int} (tgt : Nat) (d : decode cc pc = .ok (.ifCond .ne off, 3)) (ht : (pc : Int) + off = (tgt : Int)) (kt : ¬ x = 0 → jJ G nL tgt lv st Z I L k n) (kf : x = 0 → jJ G nL (pc + 3) lv st Z I L k n) : jJ G nL pc lv (.int x :: st) Z I L k n := fun H locs ls hl hP hD hS => lv_if_ne E.1.1 E.1.2.1 d ht (fun h => kt h H locs ls hl hP hD hS) (fun h => kf h H locs ls hl hP hD hS)
theorem j_icmp_ne (E : jE G cc own Ts nL ret rm Rt) {x y : Int32} {off : Int} (tgt : Nat) (d : decode cc pc = .ok (.if_icmp .ne off, 3)) (ht : (pc : Int) + off = (tgt : Int)) (kt : ¬ x = y → jJ G nL tgt lv st Z I L k n) (kf : x = y → jJ G nL (pc + 3) lv st Z I L k n) : jJ G nL pc lv (.int y :: .int x :: st) Z I L k n := fun H locs ls hl hP hD hS => lv_icmp_ne E.1.1 E.1.2.1 d ht (fun h => kt h H locs ls hl hP hD hS) (fun h => kf h H locs ls hl hP hD hS)
theorem j_if_lt (E : jE G cc own Ts nL ret rm Rt) {x : Int32} {off : Int} (tgt : Nat) (d : decode cc pc = .ok (.ifCond .lt off, 3)) (ht : (pc : Int) + off = (tgt : Int)) (kt : x < 0 → jJ G nL tgt lv st Z I L k n) (kf : ¬ (x < 0) → jJ G nL (pc + 3) lv st Z I L k n) : jJ G nL pc lv (.int x :: st) Z I L k n := fun H locs ls hl hP hD hS => lv_if_lt E.1.1 E.1.2.1 d ht (fun h => kt h H locs ls hl hP hD hS) (fun h => kf h H locs ls hl hP hD hS)
theorem j_icmp_lt (E : jE G cc own Ts nL ret rm Rt) {x y : Int32} {off : Int} (tgt : Nat) (d : decode cc pc = .ok (.if_icmp .lt off, 3)) (ht : (pc : Int) + off = (tgt : Int)) (kt : x < y → jJ G nL tgt lv st Z I L k n) (kf : ¬ (x < y) → jJ G nL (pc + 3) lv st Z I L k n) : jJ G nL pc lv (.int y :: .int x :: st) Z I L k n := fun H locs ls hl hP hD hS => lv_icmp_lt E.1.1 E.1.2.1 d ht (fun h => kt h H locs ls hl hP hD hS) (fun h => kf h H locs ls hl hP hD hS)
theorem j_if_ge (E : jE G cc own Ts nL ret rm Rt) {x : Int32} {off : Int} (tgt : Nat) (d : decode cc pc = .ok (.ifCond .ge off, 3)) (ht : (pc : Int) + off = (tgt : Int)) (kt : 0 ≤ x → jJ G nL tgt lv st Z I L k n) (kf : ¬ (0 ≤ x) → jJ G nL (pc + 3) lv st Z I L k n) : jJ G nL pc lv (.int x :: st) Z I L k n := fun H locs ls hl hP hD hS => lv_if_ge E.1.1 E.1.2.1 d ht (fun h => kt h H locs ls hl hP hD hS) (fun h => kf h H locs ls hl hP hD hS)
theorem j_icmp_ge (E : jE G cc own Ts nL ret rm Rt) {x y : Int32} {off : Int} (tgt : Nat) (d : decode cc pc = .ok (.if_icmp .ge off, 3)) (ht : (pc : Int) + off = (tgt : Int)) (kt : y ≤ x → jJ G nL tgt lv st Z I L k n) (kf : ¬ (y ≤ x) → jJ G nL (pc + 3) lv st Z I L k n) : jJ G nL pc lv (.int y :: .int x :: st) Z I L k n := fun H locs ls hl hP hD hS => lv_icmp_ge E.1.1 E.1.2.1 d ht (fun h => kt h H locs ls hl hP hD hS) (fun h => kf h H locs ls hl hP hD hS)
theorem j_if_gt (E : jE G cc own Ts nL ret rm Rt) {x : Int32} {off : Int} (tgt : Nat) (d : decode cc pc = .ok (.ifCond .gt off, 3)) (ht : (pc : Int) + off = (tgt : Int)) (kt : 0 < x → jJ G nL tgt lv st Z I L k n) (kf : ¬ (0 < x) → jJ G nL (pc + 3) lv st Z I L k n) : jJ G nL pc lv (.int x :: st) Z I L k n := fun H locs ls hl hP hD hS => lv_if_gt E.1.1 E.1.2.1 d ht (fun h => kt h H locs ls hl hP hD hS) (fun h => kf h H locs ls hl hP hD hS)
theorem j_icmp_gt (E : jE G cc own Ts nL ret rm Rt) {x y : Int32} {off : Int} (tgt : Nat) (d : decode cc pc = .ok (.if_icmp .gt off, 3)) (ht : (pc : Int) + off = (tgt : Int)) (kt : y < x → jJ G nL tgt lv st Z I L k n) (kf : ¬ (y < x) → jJ G nL (pc + 3) lv st Z I L k n) : jJ G nL pc lv (.int y :: .int x :: st) Z I L k n := fun H locs ls hl hP hD hS => lv_icmp_gt E.1.1 E.1.2.1 d ht (fun h => kt h H locs ls hl hP hD hS) (fun h => kf h H locs ls hl hP hD hS)
theorem j_if_le (E : jE G cc own Ts nL ret rm Rt) {x : Int32} {off : Int} (tgt : Nat) (d : decode cc pc = .ok (.ifCond .le off, 3)) (ht : (pc : Int) + off = (tgt : Int)) (kt : x ≤ 0 → jJ G nL tgt lv st Z I L k n) (kf : ¬ (x ≤ 0) → jJ G nL (pc + 3) lv st Z I L k n) : jJ G nL pc lv (.int x :: st) Z I L k n := fun H locs ls hl hP hD hS => lv_if_le E.1.1 E.1.2.1 d ht (fun h => kt h H locs ls hl hP hD hS) (fun h => kf h H locs ls hl hP hD hS)
theorem j_icmp_le (E : jE G cc own Ts nL ret rm Rt) {x y : Int32} {off : Int} (tgt : Nat) (d : decode cc pc = .ok (.if_icmp .le off, 3)) (ht : (pc : Int) + off = (tgt : Int)) (kt : x ≤ y → jJ G nL tgt lv st Z I L k n) (kf : ¬ (x ≤ y) → jJ G nL (pc + 3) lv st Z I L k n) : jJ G nL pc lv (.int y :: .int x :: st) Z I L k n := fun H locs ls hl hP hD hS => lv_icmp_le E.1.1 E.1.2.1 d ht (fun h => kt h H locs ls hl hP hD hS) (fun h => kf h H locs ls hl hP hD hS)
theorem j_goto (E : jE G cc own Ts nL ret rm Rt) {off : Int} (tgt : Nat) (d : decode cc pc = .ok (.goto off, 3)) (ht : (pc : Int) + off = (tgt : Int)) (kk : jJ G nL tgt lv st Z I L k n) : jJ G nL pc lv st Z I L k n := fun H locs ls hl hP hD hS => lv_goto E.1.1 E.1.2.1 d ht (kk H locs ls hl hP hD hS)
theorem j_ifnull (E : jE G cc own Ts nL ret rm Rt) {x : Nat} {off : Int} (d : decode cc pc = .ok (.ifnull off, 3)) (kk : jJ G nL (pc + 3) lv st Z I L k n) : jJ G nL pc lv (.ref x :: st) Z I L k n := fun H locs ls hl hP hD hS => lv_ifnull E.1.1 E.1.2.1 d (kk H locs ls hl hP hD hS)
theorem j_ifnonnull (E : jE G cc own Ts nL ret rm Rt) {x : Nat} {off : Int} (tgt : Nat) (d : decode cc pc = .ok (.ifnonnull off, 3)) (ht : (pc : Int) + off = (tgt : Int)) (kk : jJ G nL tgt lv st Z I L k n) : jJ G nL pc lv (.ref x :: st) Z I L k n := fun H locs ls hl hP hD hS => lv_ifnonnull E.1.1 E.1.2.1 d ht (kk H locs ls hl hP hD hS)
theorem j_ifnullN (E : jE G cc own Ts nL ret rm Rt) {off : Int} (tgt : Nat) (d : decode cc pc = .ok (.ifnull off, 3)) (ht : (pc : Int) + off = (tgt : Int)) (kk : jJ G nL tgt lv st Z I L k n) : jJ G nL pc lv (.null :: st) Z I L k n := fun H locs ls hl hP hD hS => lv_ifnullN E.1.1 E.1.2.1 d ht (kk H locs ls hl hP hD hS)
theorem j_ifnonnullN (E : jE G cc own Ts nL ret rm Rt) {off : Int} (d : decode cc pc = .ok (.ifnonnull off, 3)) (kk : jJ G nL (pc + 3) lv st Z I L k n) : jJ G nL pc lv (.null :: st) Z I L k n := fun H locs ls hl hP hD hS => lv_ifnonnullN E.1.1 E.1.2.1 d (kk H locs ls hl hP hD hS)
theorem j_topi {x : Int32} (kk : ∀ y : Int32, y = x → jJ G nL pc lv (.int y :: st) Z I L k n) : jJ G nL pc lv (.int x :: st) Z I L k n := kk x rfl
theorem j_topl {x : Int64} (kk : ∀ y : Int64, y = x → jJ G nL pc lv (.long y :: st) Z I L k n) : jJ G nL pc lv (.long x :: st) Z I L k n := kk x rfl
theorem j_sub {lw : List (Nat × Value)} (ks : List Nat) (hk : lv_pick lv ks = lw) (kk : jJ G nL pc lw st Z I L k n) : jJ G nL pc lv st Z I L k n := fun H locs ls hl hP hD hS => kk H locs ls (lv_sub hl ks hk) hP hD hS
theorem j_widen (k9 n9 : Nat) (h1 : k ≤ k9) (h2 : n ≤ n9) (kk : jJ G nL pc lv st Z I L k9 n9) : jJ G nL pc lv st Z I L k n := fun H locs ls hl hP hD hS => W.widen h1 h2 (kk H locs ls hl hP hD hS)
theorem j_ldc (E : jE G cc own Ts nL ret rm Rt) {i : Nat} {v : Int32} (w : Cond.constant own i v ∈ Ts) (d : decode cc pc = .ok (.ldc i, 2)) (kk : jJ G nL (pc + 2) lv (.int v :: st) Z I L k n) : jJ G nL pc lv st Z I L k n := fun H locs ls hl hP hD hS => lv_ldc E.1.1 E.1.2.1 E.1.2.2.2.1 (E.1.2.2.2.2 _ w) d (kk H locs ls hl hP hD hS)
theorem j_ldcw (E : jE G cc own Ts nL ret rm Rt) {i : Nat} {v : Int32} (w : Cond.constant own i v ∈ Ts) (d : decode cc pc = .ok (.ldc_w i, 3)) (kk : jJ G nL (pc + 3) lv (.int v :: st) Z I L k n) : jJ G nL pc lv st Z I L k n := fun H locs ls hl hP hD hS => lv_ldcw E.1.1 E.1.2.1 E.1.2.2.2.1 (E.1.2.2.2.2 _ w) d (kk H locs ls hl hP hD hS)
theorem j_ldc2 (E : jE G cc own Ts nL ret rm Rt) {i : Nat} {v : Int64} (w : Cond.constantLong own i v ∈ Ts) (d : decode cc pc = .ok (.ldc2_w i, 3)) (kk : jJ G nL (pc + 3) lv (.long v :: st) Z I L k n) : jJ G nL pc lv st Z I L k n := fun H locs ls hl hP hD hS => lv_ldc2 E.1.1 E.1.2.1 E.1.2.2.2.1 (E.1.2.2.2.2 _ w) d (kk H locs ls hl hP hD hS)
theorem j_tableOut (E : jE G cc own Ts nL ret rm Rt) {dflt lo hi : Int} {offs : Array Int} {len : Nat} {x : Int32} (tgt : Nat) (d : decode cc pc = .ok (.tableswitch dflt lo hi offs, len)) (h : x.toInt < lo ∨ hi < x.toInt) (ht : (pc : Int) + dflt = (tgt : Int)) (kk : jJ G nL tgt lv st Z I L k n) : jJ G nL pc lv (.int x :: st) Z I L k n := fun H locs ls hl hP hD hS => lv_tableOut E.1.1 E.1.2.1 d h ht (kk H locs ls hl hP hD hS)
theorem j_tableIn (E : jE G cc own Ts nL ret rm Rt) {dflt lo hi : Int} {offs : Array Int} {len : Nat} {x : Int32} (off : Int) (tgt : Nat) (d : decode cc pc = .ok (.tableswitch dflt lo hi offs, len)) (h1 : ¬ x.toInt < lo) (h2 : ¬ hi < x.toInt) (ho : offs[(x.toInt - lo).toNat]? = some off) (ht : (pc : Int) + off = (tgt : Int)) (kk : jJ G nL tgt lv st Z I L k n) : jJ G nL pc lv (.int x :: st) Z I L k n := fun H locs ls hl hP hD hS => lv_tableIn E.1.1 E.1.2.1 d h1 h2 ho ht (kk H locs ls hl hP hD hS)
theorem j_lookup (E : jE G cc own Ts nL ret rm Rt) {dflt : Int} {ps : Array (Int × Int)} {len : Nat} {x : Int32} (off : Int) (tgt : Nat) (d : decode cc pc = .ok (.lookupswitch dflt ps, len)) (hp : (ps.toList.zip (ps.toList.drop 1)).all (fun (a, next) => a.1 < next.1) = true) (ho : Op.lookupswitch.offset ps.toList dflt x.toInt = off) (ht : (pc : Int) + off = (tgt : Int)) (kk : jJ G nL tgt lv st Z I L k n) : jJ G nL pc lv (.int x :: st) Z I L k n := fun H locs ls hl hP hD hS => lv_lookup E.1.1 E.1.2.1 d hp ho ht (kk H locs ls hl hP hD hS)
/-! fields -/
theorem j_geti (E : jE G cc own Ts nL ret rm Rt) {i a : Nat} (c j : Nat) {C ref : String} {T : u_T} {N : Nat} (hcl : vwCl[c]? = some (C, T, N)) (hN : N = jnum c) (hc : c < 13) (hj : j < N) (hin : ∀ w ∈ u_ws C T N, w ∈ Ts) (ht : jint (jty c j) = true) (href : (T j).1 = ref) (hlk : Cond.fieldLink own i ref (T j).2.1 (T j).2.2.1 ∈ Ts) (hk : jk Z a c) (d : decode cc pc = .ok (.getfield i, 3)) (kk : jJ G nL (pc + 3) lv (.int (I a j) :: st) Z I L k n) : jJ G nL pc lv (.ref a :: st) Z I L k n := by
  intro H locs ls hl hP hD hS
  obtain ⟨q, hq⟩ := jw_get (X := gX G) (cy := gY G) (I := I) (L := L) hk.1
  rw [jf_obj hk.2 hc] at hq
  subst hN
  exact va_get (v := .int (I a j)) E.1.1 E.1.2.1 E.1.2.2.2.2 hin E.1.2.2.2.1 E.2.1 hP q hq hcl j hj (E.1.2.2.2.2 _ hlk) (by rw [href]; exact fun _ h => h) (by rw [jfs_get hj, jval_int ht]) d (kk H locs ls hl hP hD hS)
theorem j_getl (E : jE G cc own Ts nL ret rm Rt) {i a : Nat} (c j : Nat) {C ref : String} {T : u_T} {N : Nat} (hcl : vwCl[c]? = some (C, T, N)) (hN : N = jnum c) (hc : c < 13) (hj : j < N) (hin : ∀ w ∈ u_ws C T N, w ∈ Ts) (ht : jty c j = .long) (href : (T j).1 = ref) (hlk : Cond.fieldLink own i ref (T j).2.1 (T j).2.2.1 ∈ Ts) (hk : jk Z a c) (d : decode cc pc = .ok (.getfield i, 3)) (kk : jJ G nL (pc + 3) lv (.long (L a j) :: st) Z I L k n) : jJ G nL pc lv (.ref a :: st) Z I L k n := by
  intro H locs ls hl hP hD hS
  obtain ⟨q, hq⟩ := jw_get (X := gX G) (cy := gY G) (I := I) (L := L) hk.1
  rw [jf_obj hk.2 hc] at hq
  subst hN
  exact va_get (v := .long (L a j)) E.1.1 E.1.2.1 E.1.2.2.2.2 hin E.1.2.2.2.1 E.2.1 hP q hq hcl j hj (E.1.2.2.2.2 _ hlk) (by rw [href]; exact fun _ h => h) (by rw [jfs_get hj, ht]; rfl) d (kk H locs ls hl hP hD hS)
theorem j_getr (E : jE G cc own Ts nL ret rm Rt) {i a : Nat} (c j : Nat) {C ref : String} {T : u_T} {N : Nat} (hcl : vwCl[c]? = some (C, T, N)) (hN : N = jnum c) (hc : c < 13) (hj : j < N) (hin : ∀ w ∈ u_ws C T N, w ∈ Ts) (ht : jref (jty c j) = true) (href : (T j).1 = ref) (hlk : Cond.fieldLink own i ref (T j).2.1 (T j).2.2.1 ∈ Ts) (hk : jk Z a c) {b : Nat} (hb : jr Z a j = some b) (d : decode cc pc = .ok (.getfield i, 3)) (kk : jJ G nL (pc + 3) lv (.ref b :: st) Z I L k n) : jJ G nL pc lv (.ref a :: st) Z I L k n := by
  intro H locs ls hl hP hD hS
  obtain ⟨q, hq⟩ := jw_get (X := gX G) (cy := gY G) (I := I) (L := L) hk.1
  rw [jf_obj hk.2 hc] at hq
  subst hN
  exact va_get (v := .ref b) E.1.1 E.1.2.1 E.1.2.2.2.2 hin E.1.2.2.2.1 E.2.1 hP q hq hcl j hj (E.1.2.2.2.2 _ hlk) (by rw [href]; exact fun _ h => h) (by rw [jfs_get hj, jval_ref ht, show Z.2.2.2 a j = some b from hb]; rfl) d (kk H locs ls hl hP hD hS)
theorem j_getiN (E : jE G cc own Ts nL ret rm Rt) {i a : Nat} (c j : Nat) {C ref host : String} {T : u_T} {N : Nat} (hcl : vwCl[c]? = some (C, T, N)) (hN : N = jnum c) (hc : c < 13) (hj : j < N) (hin : ∀ w ∈ u_ws C T N, w ∈ Ts) (ht : jint (jty c j) = true) (href : (T j).1 = ref) (hlk : Cond.fieldLinkNest own i ref (T j).2.1 (T j).2.2.1 host ∈ jnest) (hk : jk Z a c) (d : decode cc pc = .ok (.getfield i, 3)) (kk : jJ G nL (pc + 3) lv (.int (I a j) :: st) Z I L k n) : jJ G nL pc lv (.ref a :: st) Z I L k n := by
  intro H locs ls hl hP hD hS
  obtain ⟨q, hq⟩ := jw_get (X := gX G) (cy := gY G) (I := I) (L := L) hk.1
  rw [jf_obj hk.2 hc] at hq
  subst hN
  exact va_getN (v := .int (I a j)) E.1.1 E.1.2.1 E.1.2.2.2.2 hin E.1.2.2.2.1 E.2.1 hP q hq hcl j hj (va_Nw.use rfl (E.2.2.2.1.1 _ hlk)) (by rw [href]; exact fun _ h => h) (by rw [jfs_get hj, jval_int ht]) d (kk H locs ls hl hP hD hS)
theorem j_getlN (E : jE G cc own Ts nL ret rm Rt) {i a : Nat} (c j : Nat) {C ref host : String} {T : u_T} {N : Nat} (hcl : vwCl[c]? = some (C, T, N)) (hN : N = jnum c) (hc : c < 13) (hj : j < N) (hin : ∀ w ∈ u_ws C T N, w ∈ Ts) (ht : jty c j = .long) (href : (T j).1 = ref) (hlk : Cond.fieldLinkNest own i ref (T j).2.1 (T j).2.2.1 host ∈ jnest) (hk : jk Z a c) (d : decode cc pc = .ok (.getfield i, 3)) (kk : jJ G nL (pc + 3) lv (.long (L a j) :: st) Z I L k n) : jJ G nL pc lv (.ref a :: st) Z I L k n := by
  intro H locs ls hl hP hD hS
  obtain ⟨q, hq⟩ := jw_get (X := gX G) (cy := gY G) (I := I) (L := L) hk.1
  rw [jf_obj hk.2 hc] at hq
  subst hN
  exact va_getN (v := .long (L a j)) E.1.1 E.1.2.1 E.1.2.2.2.2 hin E.1.2.2.2.1 E.2.1 hP q hq hcl j hj (va_Nw.use rfl (E.2.2.2.1.1 _ hlk)) (by rw [href]; exact fun _ h => h) (by rw [jfs_get hj, ht]; rfl) d (kk H locs ls hl hP hD hS)
theorem j_getrN (E : jE G cc own Ts nL ret rm Rt) {i a : Nat} (c j : Nat) {C ref host : String} {T : u_T} {N : Nat} (hcl : vwCl[c]? = some (C, T, N)) (hN : N = jnum c) (hc : c < 13) (hj : j < N) (hin : ∀ w ∈ u_ws C T N, w ∈ Ts) (ht : jref (jty c j) = true) (href : (T j).1 = ref) (hlk : Cond.fieldLinkNest own i ref (T j).2.1 (T j).2.2.1 host ∈ jnest) (hk : jk Z a c) {b : Nat} (hb : jr Z a j = some b) (d : decode cc pc = .ok (.getfield i, 3)) (kk : jJ G nL (pc + 3) lv (.ref b :: st) Z I L k n) : jJ G nL pc lv (.ref a :: st) Z I L k n := by
  intro H locs ls hl hP hD hS
  obtain ⟨q, hq⟩ := jw_get (X := gX G) (cy := gY G) (I := I) (L := L) hk.1
  rw [jf_obj hk.2 hc] at hq
  subst hN
  exact va_getN (v := .ref b) E.1.1 E.1.2.1 E.1.2.2.2.2 hin E.1.2.2.2.1 E.2.1 hP q hq hcl j hj (va_Nw.use rfl (E.2.2.2.1.1 _ hlk)) (by rw [href]; exact fun _ h => h) (by rw [jfs_get hj, jval_ref ht, show Z.2.2.2 a j = some b from hb]; rfl) d (kk H locs ls hl hP hD hS)
theorem j_puti (E : jE G cc own Ts nL ret rm Rt) {i a : Nat} (c j : Nat) {C ref : String} {T : u_T} {N : Nat} {v : Int32} (hcl : vwCl[c]? = some (C, T, N)) (hN : N = jnum c) (hc : c < 13) (hj : j < N) (hin : ∀ w ∈ u_ws C T N, w ∈ Ts) (hty : ∀ k, k < N → parseFieldDescriptor (T k).2.2.1 = some (jty c k)) (hnm : ∀ a, a < N → ∀ b, b < N → a ≠ b → (T a).2.1 ≠ (T b).2.1) (ht : jint (jty c j) = true) (href : (T j).1 = ref) (hlk : Cond.fieldLink own i ref (T j).2.1 (T j).2.2.1 ∈ Ts) (hfin : (T j).2.2.2 = false) (hnar : narrow (jty c j) (.int v) = .int v) (hfit : fits (jty c j) (.int v) = true) (hk : jk Z a c) (d : decode cc pc = .ok (.putfield i, 3)) (kk : jJ G nL (pc + 3) lv st Z (jpI I a j v) L k n) : jJ G nL pc lv (.int v :: .ref a :: st) Z I L k n := by
  intro H locs ls hl hP hD hS
  have hD0 := hD
  obtain ⟨q, hq⟩ := jw_get (X := gX G) (cy := gY G) (I := I) (L := L) hk.1
  have hq0 := hq
  rw [jf_obj hk.2 hc] at hq
  subst hN
  refine va_put E.1.1 E.1.2.1 E.1.2.2.2.2 hin (jty c) hty hnm E.1.2.2.2.1 E.2.1 hP hD hS q hq hcl j hj (E.1.2.2.2.2 _ hlk) (by rw [href]; exact fun _ h => h) hfin (hty j hj) hnar hfit (by rw [jfs_len]; exact hj) d (fun H locs hP hD hS => ?_)
  rw [jfs_setI hj ht] at hP hD
  have e := jw_set (X := gX G) (cy := gY G) (Z := Z) (Z' := Z) (I := I) (I' := jpI I a j v) (L := L) (L' := L) (a := a) (q := q) (e := .inr (c, jfs c (upd (I a) j v) (L a) (Z.2.2.2 a))) hD0 hk.1 hq0 rfl (by rw [jf_obj hk.2 hc]; simp [jpI, va_up]) (fun b hb => jf_I_ne hb)
  rw [e] at hP hD
  exact kk H locs ls hl hP hD hS
theorem j_putl (E : jE G cc own Ts nL ret rm Rt) {i a : Nat} (c j : Nat) {C ref : String} {T : u_T} {N : Nat} {v : Int64} (hcl : vwCl[c]? = some (C, T, N)) (hN : N = jnum c) (hc : c < 13) (hj : j < N) (hin : ∀ w ∈ u_ws C T N, w ∈ Ts) (hty : ∀ k, k < N → parseFieldDescriptor (T k).2.2.1 = some (jty c k)) (hnm : ∀ a, a < N → ∀ b, b < N → a ≠ b → (T a).2.1 ≠ (T b).2.1) (ht : jty c j = .long) (href : (T j).1 = ref) (hlk : Cond.fieldLink own i ref (T j).2.1 (T j).2.2.1 ∈ Ts) (hfin : (T j).2.2.2 = false)  (hk : jk Z a c) (d : decode cc pc = .ok (.putfield i, 3)) (kk : jJ G nL (pc + 3) lv st Z I (jpL L a j v) k n) : jJ G nL pc lv (.long v :: .ref a :: st) Z I L k n := by
  intro H locs ls hl hP hD hS
  have hD0 := hD
  obtain ⟨q, hq⟩ := jw_get (X := gX G) (cy := gY G) (I := I) (L := L) hk.1
  have hq0 := hq
  rw [jf_obj hk.2 hc] at hq
  subst hN
  refine va_put E.1.1 E.1.2.1 E.1.2.2.2.2 hin (jty c) hty hnm E.1.2.2.2.1 E.2.1 hP hD hS q hq hcl j hj (E.1.2.2.2.2 _ hlk) (by rw [href]; exact fun _ h => h) hfin (hty j hj) (by rw [ht]; rfl) (by rw [ht]; rfl) (by rw [jfs_len]; exact hj) d (fun H locs hP hD hS => ?_)
  rw [jfs_setL hj ht] at hP hD
  have e := jw_set (X := gX G) (cy := gY G) (Z := Z) (Z' := Z) (I := I) (I' := I) (L := L) (L' := jpL L a j v) (a := a) (q := q) (e := .inr (c, jfs c (I a) (vp_updL (L a) j v) (Z.2.2.2 a))) hD0 hk.1 hq0 rfl (by rw [jf_obj hk.2 hc]; simp [jpL, va_up]) (fun b hb => jf_L_ne hb)
  rw [e] at hP hD
  exact kk H locs ls hl hP hD hS
theorem j_putiN (E : jE G cc own Ts nL ret rm Rt) {i a : Nat} (c j : Nat) {C ref host : String} {T : u_T} {N : Nat} {v : Int32} (hcl : vwCl[c]? = some (C, T, N)) (hN : N = jnum c) (hc : c < 13) (hj : j < N) (hin : ∀ w ∈ u_ws C T N, w ∈ Ts) (hty : ∀ k, k < N → parseFieldDescriptor (T k).2.2.1 = some (jty c k)) (hnm : ∀ a, a < N → ∀ b, b < N → a ≠ b → (T a).2.1 ≠ (T b).2.1) (ht : jint (jty c j) = true) (href : (T j).1 = ref) (hlk : Cond.fieldLinkNest own i ref (T j).2.1 (T j).2.2.1 host ∈ jnest) (hfin : (T j).2.2.2 = false) (hnar : narrow (jty c j) (.int v) = .int v) (hfit : fits (jty c j) (.int v) = true) (hk : jk Z a c) (d : decode cc pc = .ok (.putfield i, 3)) (kk : jJ G nL (pc + 3) lv st Z (jpI I a j v) L k n) : jJ G nL pc lv (.int v :: .ref a :: st) Z I L k n := by
  intro H locs ls hl hP hD hS
  have hD0 := hD
  obtain ⟨q, hq⟩ := jw_get (X := gX G) (cy := gY G) (I := I) (L := L) hk.1
  have hq0 := hq
  rw [jf_obj hk.2 hc] at hq
  subst hN
  refine va_putN E.1.1 E.1.2.1 E.1.2.2.2.2 hin (jty c) hty hnm E.1.2.2.2.1 E.2.1 hP hD hS q hq hcl j hj (va_Nw.use rfl (E.2.2.2.1.1 _ hlk)) (by rw [href]; exact fun _ h => h) hfin (hty j hj) hnar hfit (by rw [jfs_len]; exact hj) d (fun H locs hP hD hS => ?_)
  rw [jfs_setI hj ht] at hP hD
  have e := jw_set (X := gX G) (cy := gY G) (Z := Z) (Z' := Z) (I := I) (I' := jpI I a j v) (L := L) (L' := L) (a := a) (q := q) (e := .inr (c, jfs c (upd (I a) j v) (L a) (Z.2.2.2 a))) hD0 hk.1 hq0 rfl (by rw [jf_obj hk.2 hc]; simp [jpI, va_up]) (fun b hb => jf_I_ne hb)
  rw [e] at hP hD
  exact kk H locs ls hl hP hD hS
theorem j_putlN (E : jE G cc own Ts nL ret rm Rt) {i a : Nat} (c j : Nat) {C ref host : String} {T : u_T} {N : Nat} {v : Int64} (hcl : vwCl[c]? = some (C, T, N)) (hN : N = jnum c) (hc : c < 13) (hj : j < N) (hin : ∀ w ∈ u_ws C T N, w ∈ Ts) (hty : ∀ k, k < N → parseFieldDescriptor (T k).2.2.1 = some (jty c k)) (hnm : ∀ a, a < N → ∀ b, b < N → a ≠ b → (T a).2.1 ≠ (T b).2.1) (ht : jty c j = .long) (href : (T j).1 = ref) (hlk : Cond.fieldLinkNest own i ref (T j).2.1 (T j).2.2.1 host ∈ jnest) (hfin : (T j).2.2.2 = false)  (hk : jk Z a c) (d : decode cc pc = .ok (.putfield i, 3)) (kk : jJ G nL (pc + 3) lv st Z I (jpL L a j v) k n) : jJ G nL pc lv (.long v :: .ref a :: st) Z I L k n := by
  intro H locs ls hl hP hD hS
  have hD0 := hD
  obtain ⟨q, hq⟩ := jw_get (X := gX G) (cy := gY G) (I := I) (L := L) hk.1
  have hq0 := hq
  rw [jf_obj hk.2 hc] at hq
  subst hN
  refine va_putN E.1.1 E.1.2.1 E.1.2.2.2.2 hin (jty c) hty hnm E.1.2.2.2.1 E.2.1 hP hD hS q hq hcl j hj (va_Nw.use rfl (E.2.2.2.1.1 _ hlk)) (by rw [href]; exact fun _ h => h) hfin (hty j hj) (by rw [ht]; rfl) (by rw [ht]; rfl) (by rw [jfs_len]; exact hj) d (fun H locs hP hD hS => ?_)
  rw [jfs_setL hj ht] at hP hD
  have e := jw_set (X := gX G) (cy := gY G) (Z := Z) (Z' := Z) (I := I) (I' := I) (L := L) (L' := jpL L a j v) (a := a) (q := q) (e := .inr (c, jfs c (I a) (vp_updL (L a) j v) (Z.2.2.2 a))) hD0 hk.1 hq0 rfl (by rw [jf_obj hk.2 hc]; simp [jpL, va_up]) (fun b hb => jf_L_ne hb)
  rw [e] at hP hD
  exact kk H locs ls hl hP hD hS
/-! arrays -/
theorem j_iald (E : jE G cc own Ts nL ret rm Rt) {a : Nat} {i : Int32} (hk : jk Z a 14) (hi : vp_in i (jlen Z a)) (d : decode cc pc = .ok (.iaload, 1)) (kk : jJ G nL (pc + 1) lv (.int (I a i.toNatClampNeg) :: st) Z I L k n) : jJ G nL pc lv (.int i :: .ref a :: st) Z I L k n := by
  intro H locs ls hl hP hD hS
  obtain ⟨q, hq⟩ := jw_get (X := gX G) (cy := gY G) (I := I) (L := L) hk.1
  rw [jf_14 hk.2] at hq
  exact va_iald E.1.1 E.1.2.1 E.2.1 hP q 1 hq rfl hi d (kk H locs ls hl hP hD hS)
theorem j_bald (E : jE G cc own Ts nL ret rm Rt) {a : Nat} {i : Int32} (hk : jk Z a 13) (hi : vp_in i (jlen Z a)) (d : decode cc pc = .ok (.baload, 1)) (kk : jJ G nL (pc + 1) lv (.int (I a i.toNatClampNeg) :: st) Z I L k n) : jJ G nL pc lv (.int i :: .ref a :: st) Z I L k n := by
  intro H locs ls hl hP hD hS
  obtain ⟨q, hq⟩ := jw_get (X := gX G) (cy := gY G) (I := I) (L := L) hk.1
  rw [jf_13 hk.2] at hq
  exact va_bald E.1.1 E.1.2.1 E.2.1 hP q 0 hq rfl hi d (kk H locs ls hl hP hD hS)
theorem j_zald (E : jE G cc own Ts nL ret rm Rt) {a : Nat} {i : Int32} (hk : jk Z a 16) (hi : vp_in i (jlen Z a)) (d : decode cc pc = .ok (.baload, 1)) (kk : jJ G nL (pc + 1) lv (.int (I a i.toNatClampNeg) :: st) Z I L k n) : jJ G nL pc lv (.int i :: .ref a :: st) Z I L k n := by
  intro H locs ls hl hP hD hS
  obtain ⟨q, hq⟩ := jw_get (X := gX G) (cy := gY G) (I := I) (L := L) hk.1
  rw [jf_16 hk.2] at hq
  exact va_zald E.1.1 E.1.2.1 E.2.1 hP q 3 hq rfl hi d (kk H locs ls hl hP hD hS)
theorem j_lald (E : jE G cc own Ts nL ret rm Rt) {a : Nat} {i : Int32} (hk : jk Z a 15) (hi : vp_in i (jlen Z a)) (d : decode cc pc = .ok (.laload, 1)) (kk : jJ G nL (pc + 1) lv (.long (L a i.toNatClampNeg) :: st) Z I L k n) : jJ G nL pc lv (.int i :: .ref a :: st) Z I L k n := by
  intro H locs ls hl hP hD hS
  obtain ⟨q, hq⟩ := jw_get (X := gX G) (cy := gY G) (I := I) (L := L) hk.1
  rw [jf_15 hk.2] at hq
  exact va_lald E.1.1 E.1.2.1 E.2.1 hP q 2 hq rfl hi d (kk H locs ls hl hP hD hS)
theorem j_iast (E : jE G cc own Ts nL ret rm Rt) {a : Nat} {i : Int32} {x : Int32} (hk : jk Z a 14) (hi : vp_in i (jlen Z a)) (d : decode cc pc = .ok (.iastore, 1)) (kk : jJ G nL (pc + 1) lv st Z (jpI I a i.toNatClampNeg x) L k n) : jJ G nL pc lv (.int x :: .int i :: .ref a :: st) Z I L k n := by
  intro H locs ls hl hP hD hS
  have hD0 := hD
  obtain ⟨q, hq⟩ := jw_get (X := gX G) (cy := gY G) (I := I) (L := L) hk.1
  have hq0 := hq
  rw [jf_14 hk.2] at hq
  refine va_iast E.1.1 E.1.2.1 E.2.1 hP hD hS q 1 hq rfl hi d (fun H locs hP hD hS => ?_)
  have e := jw_set (X := gX G) (cy := gY G) (Z := Z) (Z' := Z) (I := I) (I' := jpI I a i.toNatClampNeg x) (L := L) (L' := L) (a := a) (q := q) hD0 hk.1 hq0 rfl (by rw [jf_14 hk.2]) (fun b hb => jf_I_ne hb)
  simp only [jpI, va_up_self] at e
  rw [e] at hP hD
  exact kk H locs ls hl hP hD hS
theorem j_bast (E : jE G cc own Ts nL ret rm Rt) {a : Nat} {i : Int32} {x : Int32} (hk : jk Z a 13) (hi : vp_in i (jlen Z a)) (d : decode cc pc = .ok (.bastore, 1)) (kk : jJ G nL (pc + 1) lv st Z (jpI I a i.toNatClampNeg (vp_nar .byte x)) L k n) : jJ G nL pc lv (.int x :: .int i :: .ref a :: st) Z I L k n := by
  intro H locs ls hl hP hD hS
  have hD0 := hD
  obtain ⟨q, hq⟩ := jw_get (X := gX G) (cy := gY G) (I := I) (L := L) hk.1
  have hq0 := hq
  rw [jf_13 hk.2] at hq
  refine va_bast E.1.1 E.1.2.1 E.2.1 hP hD hS q 0 hq rfl hi d (fun H locs hP hD hS => ?_)
  have e := jw_set (X := gX G) (cy := gY G) (Z := Z) (Z' := Z) (I := I) (I' := jpI I a i.toNatClampNeg (vp_nar .byte x)) (L := L) (L' := L) (a := a) (q := q) hD0 hk.1 hq0 rfl (by rw [jf_13 hk.2]) (fun b hb => jf_I_ne hb)
  simp only [jpI, va_up_self] at e
  rw [e] at hP hD
  exact kk H locs ls hl hP hD hS
theorem j_zast (E : jE G cc own Ts nL ret rm Rt) {a : Nat} {i : Int32} {x : Int32} (hk : jk Z a 16) (hi : vp_in i (jlen Z a)) (d : decode cc pc = .ok (.bastore, 1)) (kk : jJ G nL (pc + 1) lv st Z (jpI I a i.toNatClampNeg (vp_nar .boolean x)) L k n) : jJ G nL pc lv (.int x :: .int i :: .ref a :: st) Z I L k n := by
  intro H locs ls hl hP hD hS
  have hD0 := hD
  obtain ⟨q, hq⟩ := jw_get (X := gX G) (cy := gY G) (I := I) (L := L) hk.1
  have hq0 := hq
  rw [jf_16 hk.2] at hq
  refine va_zast E.1.1 E.1.2.1 E.2.1 hP hD hS q 3 hq rfl hi d (fun H locs hP hD hS => ?_)
  have e := jw_set (X := gX G) (cy := gY G) (Z := Z) (Z' := Z) (I := I) (I' := jpI I a i.toNatClampNeg (vp_nar .boolean x)) (L := L) (L' := L) (a := a) (q := q) hD0 hk.1 hq0 rfl (by rw [jf_16 hk.2]) (fun b hb => jf_I_ne hb)
  simp only [jpI, va_up_self] at e
  rw [e] at hP hD
  exact kk H locs ls hl hP hD hS
theorem j_last (E : jE G cc own Ts nL ret rm Rt) {a : Nat} {i : Int32} {x : Int64} (hk : jk Z a 15) (hi : vp_in i (jlen Z a)) (d : decode cc pc = .ok (.lastore, 1)) (kk : jJ G nL (pc + 1) lv st Z I (jpL L a i.toNatClampNeg x) k n) : jJ G nL pc lv (.long x :: .int i :: .ref a :: st) Z I L k n := by
  intro H locs ls hl hP hD hS
  have hD0 := hD
  obtain ⟨q, hq⟩ := jw_get (X := gX G) (cy := gY G) (I := I) (L := L) hk.1
  have hq0 := hq
  rw [jf_15 hk.2] at hq
  refine va_last E.1.1 E.1.2.1 E.2.1 hP hD hS q 2 hq rfl hi d (fun H locs hP hD hS => ?_)
  have e := jw_set (X := gX G) (cy := gY G) (Z := Z) (Z' := Z) (I := I) (I' := I) (L := L) (L' := jpL L a i.toNatClampNeg x) (a := a) (q := q) hD0 hk.1 hq0 rfl (by rw [jf_15 hk.2]) (fun b hb => jf_L_ne hb)
  simp only [jpL, va_up_self] at e
  rw [e] at hP hD
  exact kk H locs ls hl hP hD hS
theorem j_alen13 (E : jE G cc own Ts nL ret rm Rt) {a : Nat} {v : Int32} (hk : jk Z a 13) (hv : Int32.ofNat (jlen Z a) = v) (d : decode cc pc = .ok (.arraylength, 1)) (kk : jJ G nL (pc + 1) lv (.int v :: st) Z I L k n) : jJ G nL pc lv (.ref a :: st) Z I L k n := by
  intro H locs ls hl hP hD hS
  obtain ⟨q, hq⟩ := jw_get (X := gX G) (cy := gY G) (I := I) (L := L) hk.1
  rw [jf_13 hk.2] at hq
  exact va_alen E.1.1 E.1.2.1 E.2.1 hP q 0 hq rfl hv d (kk H locs ls hl hP hD hS)
theorem j_alen14 (E : jE G cc own Ts nL ret rm Rt) {a : Nat} {v : Int32} (hk : jk Z a 14) (hv : Int32.ofNat (jlen Z a) = v) (d : decode cc pc = .ok (.arraylength, 1)) (kk : jJ G nL (pc + 1) lv (.int v :: st) Z I L k n) : jJ G nL pc lv (.ref a :: st) Z I L k n := by
  intro H locs ls hl hP hD hS
  obtain ⟨q, hq⟩ := jw_get (X := gX G) (cy := gY G) (I := I) (L := L) hk.1
  rw [jf_14 hk.2] at hq
  exact va_alen E.1.1 E.1.2.1 E.2.1 hP q 1 hq rfl hv d (kk H locs ls hl hP hD hS)
theorem j_alen15 (E : jE G cc own Ts nL ret rm Rt) {a : Nat} {v : Int32} (hk : jk Z a 15) (hv : Int32.ofNat (jlen Z a) = v) (d : decode cc pc = .ok (.arraylength, 1)) (kk : jJ G nL (pc + 1) lv (.int v :: st) Z I L k n) : jJ G nL pc lv (.ref a :: st) Z I L k n := by
  intro H locs ls hl hP hD hS
  obtain ⟨q, hq⟩ := jw_get (X := gX G) (cy := gY G) (I := I) (L := L) hk.1
  rw [jf_15 hk.2] at hq
  exact va_alen E.1.1 E.1.2.1 E.2.1 hP q 2 hq rfl hv d (kk H locs ls hl hP hD hS)
theorem j_alen16 (E : jE G cc own Ts nL ret rm Rt) {a : Nat} {v : Int32} (hk : jk Z a 16) (hv : Int32.ofNat (jlen Z a) = v) (d : decode cc pc = .ok (.arraylength, 1)) (kk : jJ G nL (pc + 1) lv (.int v :: st) Z I L k n) : jJ G nL pc lv (.ref a :: st) Z I L k n := by
  intro H locs ls hl hP hD hS
  obtain ⟨q, hq⟩ := jw_get (X := gX G) (cy := gY G) (I := I) (L := L) hk.1
  rw [jf_16 hk.2] at hq
  exact va_alen E.1.1 E.1.2.1 E.2.1 hP q 3 hq rfl hv d (kk H locs ls hl hP hD hS)
theorem j_alen17 (E : jE G cc own Ts nL ret rm Rt) {a : Nat} {v : Int32} (hk : jk Z a 17) (hv : Int32.ofNat (jlen Z a) = v) (d : decode cc pc = .ok (.arraylength, 1)) (kk : jJ G nL (pc + 1) lv (.int v :: st) Z I L k n) : jJ G nL pc lv (.ref a :: st) Z I L k n := by
  intro H locs ls hl hP hD hS
  obtain ⟨q, hq⟩ := jw_get (X := gX G) (cy := gY G) (I := I) (L := L) hk.1
  rw [jf_17 hk.2] at hq
  exact va_alen E.1.1 E.1.2.1 E.2.1 hP q 4 hq rfl hv d (kk H locs ls hl hP hD hS)
theorem j_alen18 (E : jE G cc own Ts nL ret rm Rt) {a : Nat} {v : Int32} (hk : jk Z a 18) (hv : Int32.ofNat (jlen Z a) = v) (d : decode cc pc = .ok (.arraylength, 1)) (kk : jJ G nL (pc + 1) lv (.int v :: st) Z I L k n) : jJ G nL pc lv (.ref a :: st) Z I L k n := by
  intro H locs ls hl hP hD hS
  obtain ⟨q, hq⟩ := jw_get (X := gX G) (cy := gY G) (I := I) (L := L) hk.1
  rw [jf_18 hk.2] at hq
  exact va_alen E.1.1 E.1.2.1 E.2.1 hP q 5 hq rfl hv d (kk H locs ls hl hP hD hS)
theorem j_alen19 (E : jE G cc own Ts nL ret rm Rt) {a : Nat} {v : Int32} (hk : jk Z a 19) (hv : Int32.ofNat (jlen Z a) = v) (d : decode cc pc = .ok (.arraylength, 1)) (kk : jJ G nL (pc + 1) lv (.int v :: st) Z I L k n) : jJ G nL pc lv (.ref a :: st) Z I L k n := by
  intro H locs ls hl hP hD hS
  obtain ⟨q, hq⟩ := jw_get (X := gX G) (cy := gY G) (I := I) (L := L) hk.1
  rw [jf_19 hk.2] at hq
  exact va_alen E.1.1 E.1.2.1 E.2.1 hP q 6 hq rfl hv d (kk H locs ls hl hP hD hS)
theorem j_aald17 (E : jE G cc own Ts nL ret rm Rt) {a : Nat} {i : Int32} (hk : jk Z a 17) (hi : vp_in i (jlen Z a)) (d : decode cc pc = .ok (.aaload, 1)) (kk : jJ G nL (pc + 1) lv (va_rf (jr Z a i.toNatClampNeg) :: st) Z I L k n) : jJ G nL pc lv (.int i :: .ref a :: st) Z I L k n := by
  intro H locs ls hl hP hD hS
  obtain ⟨q, hq⟩ := jw_get (X := gX G) (cy := gY G) (I := I) (L := L) hk.1
  rw [jf_17 hk.2] at hq
  exact va_aldq E.1.1 E.1.2.1 E.2.1 hP q 4 hq rfl hi d (kk H locs ls hl hP hD hS)
theorem j_aald18 (E : jE G cc own Ts nL ret rm Rt) {a : Nat} {i : Int32} (hk : jk Z a 18) (hi : vp_in i (jlen Z a)) (d : decode cc pc = .ok (.aaload, 1)) (kk : jJ G nL (pc + 1) lv (va_rf (jr Z a i.toNatClampNeg) :: st) Z I L k n) : jJ G nL pc lv (.int i :: .ref a :: st) Z I L k n := by
  intro H locs ls hl hP hD hS
  obtain ⟨q, hq⟩ := jw_get (X := gX G) (cy := gY G) (I := I) (L := L) hk.1
  rw [jf_18 hk.2] at hq
  exact va_aldq E.1.1 E.1.2.1 E.2.1 hP q 5 hq rfl hi d (kk H locs ls hl hP hD hS)
theorem j_rfN {r : Option Nat} (h : r = none) (kk : jJ G nL pc lv (.null :: st) Z I L k n) : jJ G nL pc lv (va_rf r :: st) Z I L k n := by subst h; exact kk
theorem j_rfS {r : Option Nat} {b : Nat} (h : r = some b) (kk : jJ G nL pc lv (.ref b :: st) Z I L k n) : jJ G nL pc lv (va_rf r :: st) Z I L k n := by subst h; exact kk
/-! the end -/
theorem j_ireturn (E : jE G cc own Ts nL (some .int) rm Rt) {v : Int32} (h : Rt (some (.int v)) Z I L) (h1 : k ≤ rm.cells) (h2 : n ≤ rm.slots) (d : decode cc pc = .ok (.ireturn, 1)) : jJ G nL pc lv [.int v] Z I L k n := by
  intro H locs ls hl hP hD hS
  refine W.mono E.2.2.2.2.2.2.2 ?_
  refine W.widen h1 h2 ?_
  exact W.iret E.1.1 E.1.2.1 E.2.2.2.2.1 (fun t ht hW => ⟨⟨_, Z, I, L, rfl, h, by rw [ht]; exact j_cutP hP, va_K.moved hW.alike E.2.1, j_cutD hD⟩, hS.F ht⟩) hS.2.2 d E.2.2.2.2.2.1
theorem j_zreturn (E : jE G cc own Ts nL (some .boolean) rm Rt) {v : Int32} (hv : v = 0 ∨ v = 1) (h : Rt (some (.int v)) Z I L) (h1 : k ≤ rm.cells) (h2 : n ≤ rm.slots) (d : decode cc pc = .ok (.ireturn, 1)) : jJ G nL pc lv [.int v] Z I L k n := by
  intro H locs ls hl hP hD hS
  refine W.mono E.2.2.2.2.2.2.2 ?_
  refine W.widen h1 h2 ?_
  exact W.zret E.1.1 E.1.2.1 E.2.2.2.2.1 (by rcases hv with rfl | rfl <;> rfl) (fun t ht hW => ⟨⟨_, Z, I, L, rfl, h, by rw [ht]; exact j_cutP hP, va_K.moved hW.alike E.2.1, j_cutD hD⟩, hS.F ht⟩) hS.2.2 d E.2.2.2.2.2.1
theorem j_lreturn (E : jE G cc own Ts nL (some .long) rm Rt) {v : Int64} (h : Rt (some (.long v)) Z I L) (h1 : k ≤ rm.cells) (h2 : n ≤ rm.slots) (d : decode cc pc = .ok (.lreturn, 1)) : jJ G nL pc lv [.long v] Z I L k n := by
  intro H locs ls hl hP hD hS
  refine W.mono E.2.2.2.2.2.2.2 ?_
  refine W.widen h1 h2 ?_
  exact W.lret E.1.1 E.1.2.1 E.2.2.2.2.1 (fun t ht hW => ⟨⟨_, Z, I, L, rfl, h, by rw [ht]; exact j_cutP hP, va_K.moved hW.alike E.2.1, j_cutD hD⟩, hS.F ht⟩) hS.2.2 d E.2.2.2.2.2.1
theorem j_return (E : jE G cc own Ts nL none rm Rt) (h : Rt none Z I L) (h1 : k ≤ rm.cells) (h2 : n ≤ rm.slots) (d : decode cc pc = .ok (.return_, 1)) : jJ G nL pc lv [] Z I L k n := by
  intro H locs ls hl hP hD hS
  refine W.mono E.2.2.2.2.2.2.2 ?_
  refine W.widen h1 h2 ?_
  exact W.vret E.1.1 E.1.2.1 E.2.2.2.2.1 (fun t ht hW => ⟨⟨_, Z, I, L, rfl, h, by rw [ht]; exact j_cutP hP, va_K.moved hW.alike E.2.1, j_cutD hD⟩, hS.F ht⟩) hS.2.2 d E.2.2.2.2.2.1
theorem j_areturn {rt : FieldType} (E : jE G cc own Ts nL (some rt) rm Rt) (hrt : (∃ n, rt = .object n) ∨ ∃ t, rt = .array t) (r : Option Nat) {v : Value} (hv : v = va_rf r) (h : Rt (some (va_rf r)) Z I L) (h1 : k ≤ rm.cells) (h2 : n ≤ rm.slots) (d : decode cc pc = .ok (.areturn, 1)) : jJ G nL pc lv [v] Z I L k n := by
  intro H locs ls hl hP hD hS
  subst hv
  refine W.mono E.2.2.2.2.2.2.2 ?_
  refine W.widen h1 h2 ?_
  exact W.aret E.1.1 E.1.2.1 E.2.2.2.2.1 hrt (va_rf_or r) (fun t ht hW => ⟨⟨_, Z, I, L, rfl, h, by rw [ht]; exact j_cutP hP, va_K.moved hW.alike E.2.1, j_cutD hD⟩, hS.F ht⟩) hS.2.2 d E.2.2.2.2.2.1
/-! calls -/
theorem jP_blind {as : List Value} {D : va_G} {cy : jC} {sz : Nat} : FrameBlind (va_Pc as (fun U => U.heap.size = sz ∧ va_P D vwCl (jw cy Z I L) U.heap ∧ va_K D vwCl (jtys cy) U ∧ va_D (fun _ => True) (jw cy Z I L) ∧ jN U)) := by
  intro a U g mk q
  obtain ⟨q0, q1, qP, qK, qD, qN⟩ := q
  exact ⟨q0, q1, qP, va_K.moved (u := U) (U := U.calling g mk a) (Vm.Alike.refl U.vm) qK, qD, jN_same (s := U) rfl qN⟩
/-- behind a call -/
theorem j_back (E : jE G cc own Ts nL ret rm Rt) {st0 rest : List Value} {a : Array Value} {H : Heap} {locs : List Loc} {ls : Array Slot} {mc ms : Nat} {Rt' : jRt}
    (hr : va_Run (gP G) (gL G) (gE G) (gR G) (gS G) (gM G) (gV G) (gB G) (gH G) (gC G) H locs k n mc ms (F0 (gM G) pc ls st0) rest (jQ (gD G) (gY G) Rt' (va_A (jw (gY G) Z I L) H.size) a) (va_A (jw (gY G) Z I L) H.size))
    (hl : lv_has ls nL lv) (hP : va_P (gD G) vwCl (gX G ++ jw (gY G) Z I L) H) (hD : va_D (gA G) (gX G ++ jw (gY G) Z I L)) (hS : va_S (gA G) (gS G).heap H locs)
    (kk : ∀ v Z' I' L', Rt' v Z' I' L' → jJ G nL (pc + 3) lv (v.toList ++ rest) Z' I' L' (k + mc) (n + ms)) : W (gP G) (gL G) (gE G) (gR G) (gS G) (gM G) (gV G) (gB G) (gH G) (gC G) H locs k n (gQ G) (F0 (gM G) pc ls st0) := by
  intro T hT X
  obtain ⟨v, st₀, t, T', Lw, h0, X', hL, e1, e2, ⟨⟨v2, Z', I', L', hv, hp, hP', hK', hD'⟩, hz, hk⟩, st⟩ := hr T hT X
  cases hv
  rw [h0] at hz hk
  have hfr : ∀ q, va_A (jw (gY G) Z I L) H.size q → gA G q := by
    intro q hq
    rcases hq with ⟨k9, e9, h9⟩ | h9
    · exact (j_cutD hD).2 k9 _ h9
    · exact E.2.2.1 q (Nat.le_trans hS.1 h9)
  have hS' : va_S (gA G) (gS G).heap T'.heap (locs ++ Lw) := ⟨Nat.le_trans hS.1 (by rw [e1]; exact hz), fun q h1 h2 => by rw [e1, hk q (Nat.lt_of_lt_of_le h1 hS.1) (fun z => h2 (hfr q z))]; exact hS.2.1 q h1 h2, fun q hq => by
      rcases List.mem_append.mp hq with h | h
      · exact hS.2.2 q h
      · exact hfr _ (hL q h)⟩
  obtain ⟨hPj, hDj⟩ := j_join hP hD (H1 := T'.heap) (fun q h1 h2 => by rw [e1]; exact hk q h1 h2) hfr (by rw [e1]; exact hP') hD'
  obtain ⟨t2, a1, b1⟩ := kk v Z' I' L' hp T'.heap (locs ++ Lw) ls hl hPj hDj hS' T' rfl X'
  exact ⟨t2, st t2 a1, b1⟩
theorem j_callV (E : jE G cc own Ts nL ret rm Rt) {y : MethodName} {ws ws' : List Cond} {rm' : Room} {bytes : ByteArray} {maxL : Nat} {ret' : Option FieldType} {C : String} {T : u_T} {N i b c na : Nat} {Rt' : jRt} (As rest : List Value)
    (hM : jCt (gL G) y ws rm' (gD G) (gY G) (.ref b :: As) Z I L Rt') (hg : GoodIn Ts (wsV own i C y ws)) (hw : ws = Cond.code y bytes maxL ret' :: ws')
    (hd : y.cls = C ∧ y.cls ≠ "java/lang/invoke/MethodHandle" ∧ y.cls ≠ "java/lang/invoke/VarHandle" ∧ (parseMethodDescriptor y.desc).map (fun d => d.parameters.length) = some na)
    (hR : rm'.frames + 1 ≤ rm.frames ∧ 8 + (maxL + 11) + rm'.locals ≤ rm.locals) (hcl : vwCl[c]? = some (C, T, N)) (hc : c < 13) (hk : jk Z b c) (hn : As.length = na) (hst : st = As.reverse ++ .ref b :: rest) (hcat : (rest.map fun v => v.category).sum ≤ 8)
    (hf : k + rm'.cells ≤ rm.cells ∧ n + rm'.slots ≤ rm.slots) (d : decode cc pc = .ok (.invokevirtual i, 3))
    (kk : ∀ v Z' I' L', Rt' v Z' I' L' → jJ G nL (pc + 3) lv (v.toList ++ rest) Z' I' L' (k + rm'.cells) (n + rm'.slots)) : jJ G nL pc lv st Z I L k n := by
  intro H locs ls hl hP hD hS
  have eR := E.2.2.2.2.2.2.1
  obtain ⟨q, hq⟩ := jw_get (X := gX G) (cy := gY G) (I := I) (L := L) hk.1
  rw [jf_obj hk.2 hc] at hq
  have hrun := va_runV (p := gP G) (l := gL G) (e := gE G) (R := gR G) (s := gS G) (m := gM G) (args := gV G) (below := gB G) (meth := gH G) (c := gC G) (H := H) (locs := locs) (cells := k) (slots := n) (g := F0 (gM G) pc ls st) (As := As) (rest := rest) E.1 (hM H.size) (cwV na E.1.2.2.2.2 hg hw rfl rfl hd (by rw [eR]; exact hR))
    ⟨jP_blind, va_recv E.2.1 hP hcl hq, fun U hU hW => ⟨rfl, by rw [hU], by rw [hU]; exact j_cutP hP, va_K.moved hW.alike E.2.1, (j_cutD hD).weaken (fun _ _ _ _ => trivial), jN_warm hW E.2.2.2.1⟩⟩ rfl hn hl.1 hst (lv_room hcat) d (by rw [eR]; exact hf)
  exact j_back E hrun hl hP hD hS kk
theorem j_callVN (E : jE G cc own Ts nL ret rm Rt) {y : MethodName} {ws ws' : List Cond} {rm' : Room} {bytes : ByteArray} {maxL : Nat} {ret' : Option FieldType} {C host : String} {T : u_T} {N i b c na : Nat} {Rt' : jRt} (As rest : List Value)
    (hM : jCt (gL G) y ws rm' (gD G) (gY G) (.ref b :: As) Z I L Rt') (hg : GoodIn Ts ws) (hw : ws = Cond.code y bytes maxL ret' :: ws')
    (hlk : Cond.methodLinkNest own i y host ∈ jnest) (hini : Cond.initialized y.cls ∈ Ts) (hinst : Cond.instanceMethod y ∈ Ts) (hsel : Cond.selects C y y ∈ Ts)
    (hd : y.cls ≠ "java/lang/invoke/MethodHandle" ∧ y.cls ≠ "java/lang/invoke/VarHandle" ∧ (parseMethodDescriptor y.desc).map (fun d => d.parameters.length) = some na)
    (hR : rm'.frames + 1 ≤ rm.frames ∧ 8 + (maxL + 11) + rm'.locals ≤ rm.locals) (hcl : vwCl[c]? = some (C, T, N)) (hc : c < 13) (hk : jk Z b c) (hn : As.length = na) (hst : st = As.reverse ++ .ref b :: rest) (hcat : (rest.map fun v => v.category).sum ≤ 8)
    (hf : k + rm'.cells ≤ rm.cells ∧ n + rm'.slots ≤ rm.slots) (d : decode cc pc = .ok (.invokevirtual i, 3))
    (kk : ∀ v Z' I' L', Rt' v Z' I' L' → jJ G nL (pc + 3) lv (v.toList ++ rest) Z' I' L' (k + rm'.cells) (n + rm'.slots)) : jJ G nL pc lv st Z I L k n := by
  intro H locs ls hl hP hD hS
  have eR := E.2.2.2.2.2.2.1
  obtain ⟨q, hq⟩ := jw_get (X := gX G) (cy := gY G) (I := I) (L := L) hk.1
  rw [jf_obj hk.2 hc] at hq
  have hrun := va_runVN (p := gP G) (l := gL G) (e := gE G) (R := gR G) (s := gS G) (m := gM G) (args := gV G) (below := gB G) (meth := gH G) (c := gC G) (H := H) (locs := locs) (cells := k) (slots := n) (g := F0 (gM G) pc ls st) (As := As) (rest := rest) E.1 (hM H.size) ⟨va_cnB na E.1.2.2.2.2 hg hw rfl rfl (E.2.2.2.1.1 _ hlk) (E.1.2.2.2.2 _ hini) hd (by rw [eR]; exact hR), E.1.2.2.2.2 _ hinst, E.1.2.2.2.2 _ hsel⟩
    ⟨jP_blind, va_recv E.2.1 hP hcl hq, fun U hU hW => ⟨rfl, by rw [hU], by rw [hU]; exact j_cutP hP, va_K.moved hW.alike E.2.1, (j_cutD hD).weaken (fun _ _ _ _ => trivial), jN_warm hW E.2.2.2.1⟩⟩ rfl hn hl.1 hst (lv_room hcat) d (by rw [eR]; exact hf)
  exact j_back E hrun hl hP hD hS kk
theorem j_callS (E : jE G cc own Ts nL ret rm Rt) {y : MethodName} {ws ws' : List Cond} {rm' : Room} {bytes : ByteArray} {maxL : Nat} {ret' : Option FieldType} {i na : Nat} {Rt' : jRt} (As rest : List Value)
    (hM : jCt (gL G) y ws rm' (gD G) (gY G) As Z I L Rt') (hg : GoodIn Ts (va_wsS own i y ws)) (hw : ws = Cond.code y bytes maxL ret' :: ws')
    (hd : y.cls ≠ "java/lang/invoke/MethodHandle" ∧ y.cls ≠ "java/lang/invoke/VarHandle" ∧ (parseMethodDescriptor y.desc).map (fun d => d.parameters.length) = some na)
    (hR : rm'.frames + 1 ≤ rm.frames ∧ 8 + (maxL + 11) + rm'.locals ≤ rm.locals) (hn : As.length = na) (hst : st = As.reverse ++ rest) (hcat : (rest.map fun v => v.category).sum ≤ 8)
    (hf : k + rm'.cells ≤ rm.cells ∧ n + rm'.slots ≤ rm.slots) (d : decode cc pc = .ok (.invokestatic i, 3))
    (kk : ∀ v Z' I' L', Rt' v Z' I' L' → jJ G nL (pc + 3) lv (v.toList ++ rest) Z' I' L' (k + rm'.cells) (n + rm'.slots)) : jJ G nL pc lv st Z I L k n := by
  intro H locs ls hl hP hD hS
  have eR := E.2.2.2.2.2.2.1
  have hrun := va_runS (p := gP G) (l := gL G) (e := gE G) (R := gR G) (s := gS G) (m := gM G) (args := gV G) (below := gB G) (meth := gH G) (c := gC G) (H := H) (locs := locs) (cells := k) (slots := n) (g := F0 (gM G) pc ls st) (As := As) (rest := rest) E.1 (hM H.size) (va_cwS na E.1.2.2.2.2 hg hw rfl rfl hd (by rw [eR]; exact hR))
    ⟨jP_blind, fun U hU hW => ⟨rfl, by rw [hU], by rw [hU]; exact j_cutP hP, va_K.moved hW.alike E.2.1, (j_cutD hD).weaken (fun _ _ _ _ => trivial), jN_warm hW E.2.2.2.1⟩⟩ rfl hn hl.1 hst (lv_room hcat) d (by rw [eR]; exact hf)
  exact j_back E hrun hl hP hD hS kk
theorem j_callSN (E : jE G cc own Ts nL ret rm Rt) {y : MethodName} {ws ws' : List Cond} {rm' : Room} {bytes : ByteArray} {maxL : Nat} {ret' : Option FieldType} {host : String} {i na : Nat} {Rt' : jRt} (As rest : List Value)
    (hM : jCt (gL G) y ws rm' (gD G) (gY G) As Z I L Rt') (hg : GoodIn Ts ws) (hw : ws = Cond.code y bytes maxL ret' :: ws')
    (hlk : Cond.methodLinkNest own i y host ∈ jnest) (hini : Cond.initialized y.cls ∈ Ts) (hstat : Cond.static y ∈ Ts)
    (hd : y.cls ≠ "java/lang/invoke/MethodHandle" ∧ y.cls ≠ "java/lang/invoke/VarHandle" ∧ (parseMethodDescriptor y.desc).map (fun d => d.parameters.length) = some na)
    (hR : rm'.frames + 1 ≤ rm.frames ∧ 8 + (maxL + 11) + rm'.locals ≤ rm.locals) (hn : As.length = na) (hst : st = As.reverse ++ rest) (hcat : (rest.map fun v => v.category).sum ≤ 8)
    (hf : k + rm'.cells ≤ rm.cells ∧ n + rm'.slots ≤ rm.slots) (d : decode cc pc = .ok (.invokestatic i, 3))
    (kk : ∀ v Z' I' L', Rt' v Z' I' L' → jJ G nL (pc + 3) lv (v.toList ++ rest) Z' I' L' (k + rm'.cells) (n + rm'.slots)) : jJ G nL pc lv st Z I L k n := by
  intro H locs ls hl hP hD hS
  have eR := E.2.2.2.2.2.2.1
  have hrun := va_runSN (p := gP G) (l := gL G) (e := gE G) (R := gR G) (s := gS G) (m := gM G) (args := gV G) (below := gB G) (meth := gH G) (c := gC G) (H := H) (locs := locs) (cells := k) (slots := n) (g := F0 (gM G) pc ls st) (As := As) (rest := rest) E.1 (hM H.size) ⟨va_cnB na E.1.2.2.2.2 hg hw rfl rfl (E.2.2.2.1.1 _ hlk) (E.1.2.2.2.2 _ hini) hd (by rw [eR]; exact hR), E.1.2.2.2.2 _ hstat, trivial⟩
    ⟨jP_blind, fun U hU hW => ⟨rfl, by rw [hU], by rw [hU]; exact j_cutP hP, va_K.moved hW.alike E.2.1, (j_cutD hD).weaken (fun _ _ _ _ => trivial), jN_warm hW E.2.2.2.1⟩⟩ rfl hn hl.1 hst (lv_room hcat) d (by rw [eR]; exact hf)
  exact j_back E hrun hl hP hD hS kk
/-- Math.max, Math.min of ints -/
theorem j_max (E : jE G cc own Ts nL ret rm Rt) {i : Nat} {x y : Int32} (w1 : Cond.methodLink own i Lib.Math.max.name ∈ Ts) (w2 : Cond.static Lib.Math.max.name ∈ Ts) (w3 : Cond.initialized "java/lang/Math" ∈ Ts) (w4 : Cond.code Lib.Math.max.name Lib.Math.max.code 2 (some .int) ∈ Ts) (h1 : 1 ≤ rm.frames) (h2 : (st.map fun v => v.category).sum + 13 ≤ rm.locals) (h3 : k ≤ rm.cells) (h4 : n ≤ rm.slots) (d : decode cc pc = .ok (.invokestatic i, 3)) (kk : jJ G nL (pc + 3) lv (.int (if x < y then y else x) :: st) Z I L k n) : jJ G nL pc lv (.int y :: .int x :: st) Z I L k n := by
  intro H locs ls hl hP hD hS
  have eR := E.2.2.2.2.2.2.1
  exact va_mmax E.1.1 E.1.2.1 (by rw [E.1.2.2.1]; exact hl.1.symm) E.1.2.2.2.1 (E.1.2.2.2.2 _ w1) (E.1.2.2.2.2 _ w2) (E.1.2.2.2.2 _ w3) (E.1.2.2.2.2 _ w4) (by rw [eR]; exact h1) (by rw [eR]; exact h2) (by rw [eR]; exact h3) (by rw [eR]; exact h4) d (kk H locs ls hl hP hD hS)
theorem j_min (E : jE G cc own Ts nL ret rm Rt) {i : Nat} {x y : Int32} (w1 : Cond.methodLink own i Lib.Math.min.name ∈ Ts) (w2 : Cond.static Lib.Math.min.name ∈ Ts) (w3 : Cond.initialized "java/lang/Math" ∈ Ts) (w4 : Cond.code Lib.Math.min.name Lib.Math.min.code 2 (some .int) ∈ Ts) (h1 : 1 ≤ rm.frames) (h2 : (st.map fun v => v.category).sum + 13 ≤ rm.locals) (h3 : k ≤ rm.cells) (h4 : n ≤ rm.slots) (d : decode cc pc = .ok (.invokestatic i, 3)) (kk : jJ G nL (pc + 3) lv (.int (if y < x then y else x) :: st) Z I L k n) : jJ G nL pc lv (.int y :: .int x :: st) Z I L k n := by
  intro H locs ls hl hP hD hS
  have eR := E.2.2.2.2.2.2.1
  exact va_mmin E.1.1 E.1.2.1 (by rw [E.1.2.2.1]; exact hl.1.symm) E.1.2.2.2.1 (E.1.2.2.2.2 _ w1) (E.1.2.2.2.2 _ w2) (E.1.2.2.2.2 _ w3) (E.1.2.2.2.2 _ w4) (by rw [eR]; exact h1) (by rw [eR]; exact h2) (by rw [eR]; exact h3) (by rw [eR]; exact h4) d (kk H locs ls hl hP hD hS)
/-- a contract, from the walk of the body -/
theorem jCt_of {l : Launch} {y : MethodName} {ws ws' : List Cond} {rm : Room} {D : va_G} {cy : jC} {as : List Value} {Rt : jRt} {cc : ByteArray} {maxL : Nat} {ret : Option FieldType} (hy : plainName y.cls = true) (hw : ws = Cond.code y cc maxL ret :: ws') (hlen : (lg_sl as).length ≤ maxL)
    (h : ∀ G : jG, gD G = D → gY G = cy → gL G = l → jE G cc y.cls ws maxL ret rm Rt → jJ G maxL 0 (lv_args 0 as) [] Z I L 0 0) : jCt l y ws rm D cy as Z I L Rt := by
  intro sz
  refine Met.ofW (cc := cc) (maxL := maxL) (ret := ret) hy hw ?_
  intro p e s m args below meth c s₁ B hml hv
  obtain ⟨rfl, hsz, hP, hK, hD0, hN⟩ := hv
  subst hsz
  have hD := hD0.self (sz := s.heap.size)
  have hown : s.vm.findClass y.cls = some m.cls := findClass_of_methodNamed B.named
  have hl := lv_entry as (n := maxL) hlen
  rw [lg_entry_eq]
  generalize (lg_sl as ++ List.replicate (maxL - (lg_sl as).length) Slot.unset).toArray = ls at hl ⊢
  have key := h ((p, l, e, (headSpec ws rm).room, s, m, as.toArray, below, meth, c), D, cy, [], va_A (jw cy Z I L) s.heap.size, MQ below (jQ D cy Rt (va_A (jw cy Z I L) s.heap.size)) as.toArray s rm.cells rm.slots (va_A (jw cy Z I L) s.heap.size)) rfl rfl rfl
    ⟨⟨B.exec, B.bytes, hml, hown, atoms_spec (ws := ws) B.pre⟩, hK, fun q h => Or.inr h, hN, B.returns, B.notSynchronized, rfl, fun _ h => h⟩
  exact key s.heap [] ls hl hP hD va_S.rf
end JROWS
end
section
/-- which kind a reference field holds, and how long that is -/
def jsh : Nat → Nat → Option (Nat × Option Nat) := fun c j => match c, j with
  | 0, 0 => some (7, none)
  | 0, 1 => some (15, some 400)
  | 1, 0 => some (16, some 6)
  | 1, 1 => some (15, some 6)
  | 1, 2 => some (14, some 6)
  | 1, 3 => some (14, some 6)
  | 1, 4 => some (14, some 24)
  | 1, 5 => some (14, some 24)
  | 2, 0 => some (14, some 24)
  | 2, 1 => some (14, some 24)
  | 2, 2 => some (14, some 192)
  | 2, 3 => some (14, some 8)
  | 2, 4 => some (14, some 6)
  | 2, 5 => some (14, some 6)
  | 2, 6 => some (14, some 6)
  | 3, 0 => some (14, some 40)
  | 3, 1 => some (14, some 40)
  | 3, 2 => some (14, some 41)
  | 4, 0 => some (14, some 192)
  | 4, 1 => some (14, some 24)
  | 4, 2 => some (14, some 1536)
  | 5, 8 => some (6, none)
  | 6, 0 => some (8, none)
  | 6, 4 => some (14, some 75)
  | 6, 5 => some (14, some 75)
  | 6, 6 => some (16, some 25)
  | 6, 7 => some (14, some 25)
  | 6, 8 => some (14, some 25)
  | 6, 9 => some (7, none)
  | 6, 10 => some (7, none)
  | 6, 11 => some (15, some 21)
  | 6, 12 => some (14, some 21)
  | 6, 13 => some (14, some 21)
  | 7, 0 => some (15, none)
  | 7, 1 => some (14, some 25)
  | 7, 2 => some (14, some 25)
  | 7, 4 => some (14, some 3)
  | 7, 5 => some (14, some 3)
  | 7, 6 => some (15, some 3)
  | 7, 7 => some (15, some 3)
  | 8, 0 => some (14, some 24)
  | 8, 1 => some (14, some 24)
  | 8, 2 => some (14, some 24)
  | 8, 3 => some (14, some 24)
  | 8, 4 => some (4, none)
  | 8, 5 => some (14, some 8)
  | 8, 6 => some (3, none)
  | 8, 7 => some (3, none)
  | 8, 8 => some (14, some 7)
  | 9, 0 => some (14, some 24)
  | 9, 1 => some (14, some 24)
  | 9, 2 => some (14, some 24)
  | 9, 3 => some (14, some 24)
  | 9, 4 => some (14, some 24)
  | 10, 0 => some (13, some 80)
  | 11, 0 => some (10, none)
  | 11, 1 => some (9, none)
  | 11, 2 => some (8, none)
  | 11, 3 => some (18, some 6)
  | 11, 5 => some (14, some 8)
  | 11, 6 => some (14, some 8)
  | 11, 7 => some (14, some 8)
  | 11, 8 => some (17, some 2)
  | 11, 9 => some (0, none)
  | 11, 10 => some (1, none)
  | 11, 11 => some (14, some 3)
  | 11, 12 => some (14, some 3)
  | 11, 13 => some (14, some 21)
  | 11, 14 => some (14, some 21)
  | 11, 15 => some (15, some 26)
  | 12, 1 => some (14, some 24)
  | 12, 2 => some (14, some 24)
  | 12, 3 => some (14, some 24)
  | 12, 4 => some (16, some 24)
  | 12, 5 => some (14, some 192)
  | 12, 6 => some (16, some 64)
  | 12, 9 => some (14, some 6)
  | 12, 10 => some (14, some 6)
  | 12, 11 => some (14, some 6)
  | 12, 12 => some (14, some 6)
  | 12, 13 => some (14, some 6)
  | 12, 14 => some (14, some 6)
  | 12, 15 => some (14, some 6)
  | 12, 16 => some (14, some 6)
  | 12, 17 => some (14, some 8)
  | 12, 18 => some (13, some 80)
  | 12, 20 => some (15, some 40)
  | 12, 28 => some (14, some 120)
  | 12, 29 => some (19, some 2)
  | 12, 30 => some (14, some 2)
  | 12, 35 => some (14, some 8)
  | 12, 36 => some (15, some 8)
  | 12, 37 => some (14, some 75)
  | 12, 38 => some (14, some 75)
  | 12, 40 => some (14, some 25000)
  | 12, 44 => some (14, some 24)
  | 12, 45 => some (14, some 484000)
  | 12, 53 => some (14, some 1536)
  | 12, 54 => some (14, some 192)
  | 12, 55 => some (14, some 144)
  | 12, 56 => some (14, some 6)
  | 12, 57 => some (14, some 6)
  | 12, 58 => some (14, some 6)
  | 12, 59 => some (14, some 24)
  | 12, 61 => some (14, some 6)
  | 12, 62 => some (14, some 532)
  | 12, 63 => some (16, some 2)
  | 12, 64 => some (14, some 2)
  | 12, 65 => some (14, some 2)
  | _, _ => none
/-! ===== shapes, ends, names ===== -/
theorem vp_in_lit {i : Int32} {n : Nat} (h : decide (0 ≤ i.toInt ∧ i.toInt < (n : Int)) = true) : vp_in i n := vp_in_iff.mpr (of_decide_eq_true h)
section JNAMES
variable {G : jG} {nL pc : Nat} {lv : List (Nat × Value)} {st : List Value} {Z : jZ} {I : jI} {L : jL} {k n : Nat}
theorem j_nmI (kk : ∀ I' : jI, I' = I → jJ G nL pc lv st Z I' L k n) : jJ G nL pc lv st Z I L k n := kk I rfl
theorem j_nmL (kk : ∀ L' : jL, L' = L → jJ G nL pc lv st Z I L' k n) : jJ G nL pc lv st Z I L k n := kk L rfl
theorem j_nmZ (kk : ∀ Z' : jZ, Z' = Z → jJ G nL pc lv st Z' I L k n) : jJ G nL pc lv st Z I L k n := kk Z rfl
end JNAMES
/-- what is known of cells goes on -/
abbrev jext (Z Z' : jZ) : Prop := ∀ a k, jk Z a k → jk Z' a k ∧ jlen Z' a = jlen Z a
theorem jext_rfl {Z : jZ} : jext Z Z := fun _ _ h => ⟨h, rfl⟩
theorem jext_trans {Z Z' Z'' : jZ} (h : jext Z Z') (h' : jext Z' Z'') : jext Z Z'' := fun a k q => ⟨(h' a k (h a k q).1).1, (h' a k (h a k q).1).2.trans (h a k q).2⟩
theorem jext_putr {Z : jZ} {a j : Nat} {v : Option Nat} : jext Z (jpR Z a j v) := fun _ _ h => ⟨h, rfl⟩
/-- the shape that objects have behind their constructors -/
def SH (Z : jZ) : Prop :=
  (∀ a c, jk Z a c → ∀ j k o, jsh c j = some (k, o) → ∃ b, jr Z a j = some b ∧ jk Z b k ∧ ∀ m, o = some m → jlen Z b = m)
  ∧ (∀ a, jk Z a 18 → ∀ i b, jr Z a i = some b → jk Z b 5)
  ∧ (∀ a, jk Z a 17 → ∀ i, i < jlen Z a → ∃ b, jr Z a i = some b ∧ jk Z b 2)
  ∧ (∀ a, jk Z a 19 → ∀ i, i < jlen Z a → ∃ b, jr Z a i = some b ∧ jk Z b 13 ∧ jlen Z b = 40)
theorem sh_f {Z : jZ} {a c j k m : Nat} (h : SH Z) (hk : jk Z a c) (hs : jsh c j = some (k, some m)) : ∃ b, jr Z a j = some b ∧ jk Z b k ∧ jlen Z b = m := by
  obtain ⟨b, h1, h2, h3⟩ := h.1 a c hk j k (some m) hs
  exact ⟨b, h1, h2, h3 m rfl⟩
theorem sh_o {Z : jZ} {a c j k : Nat} (h : SH Z) (hk : jk Z a c) (hs : jsh c j = some (k, none)) : ∃ b, jr Z a j = some b ∧ jk Z b k := by
  obtain ⟨b, h1, h2, -⟩ := h.1 a c hk j k none hs
  exact ⟨b, h1, h2⟩
theorem sh_p {Z : jZ} {a i b : Nat} (h : SH Z) (hk : jk Z a 18) (e : jr Z a i = some b) : jk Z b 5 := h.2.1 a hk i b e
theorem vp_lt {i : Int32} {n : Nat} (h : vp_in i n) : i.toNatClampNeg < n := Nat.not_le.mp fun q => h (Or.inr q)
theorem sh_k {Z : jZ} {a : Nat} {i : Int32} (h : SH Z) (hk : jk Z a 17) (hi : vp_in i (jlen Z a)) : ∃ b, jr Z a i.toNatClampNeg = some b ∧ jk Z b 2 := h.2.2.1 a hk _ (vp_lt hi)
theorem sh_b {Z : jZ} {a : Nat} {i : Int32} (h : SH Z) (hk : jk Z a 19) (hi : vp_in i (jlen Z a)) : ∃ b, jr Z a i.toNatClampNeg = some b ∧ jk Z b 13 ∧ jlen Z b = 40 := h.2.2.2 a hk _ (vp_lt hi)
/-- a reference without a shape of its own is put: the shape stays -/
theorem SH_putr {Z : jZ} {a c j : Nat} {v : Option Nat} (h : SH Z) (hk : jk Z a c) (hs : jsh c j = none) (hc : c < 13 := by decide) : SH (jpR Z a j v) := by
  have e : ∀ b i, ¬ (b = a ∧ i = j) → jr (jpR Z a j v) b i = jr Z b i := by
    intro b i hn
    show va_up Z.2.2.2 a (va_up (Z.2.2.2 a) j v) b i = Z.2.2.2 b i
    by_cases hb : b = a
    · subst hb
      rw [va_up_self, va_up_ne _ _ (fun q => hn ⟨rfl, q⟩)]
    · rw [va_up_ne _ _ hb]
  refine ⟨fun b c' hb i k o hi => ?_, fun b hb i x hx => ?_, fun b hb i hi => ?_, fun b hb i hi => ?_⟩
  · rw [e b i (fun q => by obtain ⟨rfl, rfl⟩ := q; have e2 : c' = c := hb.2.symm.trans hk.2; subst e2; rw [hs] at hi; cases hi)]
    exact h.1 b c' hb i k o hi
  · rw [e b i (fun q => by obtain ⟨rfl, rfl⟩ := q; have e2 : 18 = c := hb.2.symm.trans hk.2; omega)] at hx
    exact h.2.1 b hb i x hx
  · rw [e b i (fun q => by obtain ⟨rfl, rfl⟩ := q; have e2 : 17 = c := hb.2.symm.trans hk.2; omega)]
    exact h.2.2.1 b hb i hi
  · rw [e b i (fun q => by obtain ⟨rfl, rfl⟩ := q; have e2 : 19 = c := hb.2.symm.trans hk.2; omega)]
    exact h.2.2.2 b hb i hi
/-! the ends of methods: the shape is as it was (rt..), or another one (xrt..) -/
def rtV (Z : jZ) (Q : jI → jL → Prop) : jRt := fun v Z' I' L' => Z = Z' ∧ v = none ∧ Q I' L'
def rtI (Z : jZ) (Q : Int32 → jI → jL → Prop) : jRt := fun v Z' I' L' => Z = Z' ∧ ∃ r : Int32, v = some (.int r) ∧ Q r I' L'
def rtZ (Z : jZ) (Q : Int32 → jI → jL → Prop) : jRt := fun v Z' I' L' => Z = Z' ∧ ∃ r : Int32, v = some (.int r) ∧ (r = 0 ∨ r = 1) ∧ Q r I' L'
def rtL (Z : jZ) (Q : Int64 → jI → jL → Prop) : jRt := fun v Z' I' L' => Z = Z' ∧ ∃ r : Int64, v = some (.long r) ∧ Q r I' L'
def rtR (k : Nat) (Z : jZ) (Q : Option Nat → jI → jL → Prop) : jRt := fun v Z' I' L' => Z = Z' ∧ ∃ r : Option Nat, v = some (va_rf r) ∧ (∀ b, r = some b → jk Z b k) ∧ Q r I' L'
def xrtV (Z : jZ) (Q : jZ → jI → jL → Prop) : jRt := fun v Z' I' L' => jext Z Z' ∧ SH Z' ∧ v = none ∧ Q Z' I' L'
def xrtI (Z : jZ) (Q : Int32 → jZ → jI → jL → Prop) : jRt := fun v Z' I' L' => jext Z Z' ∧ SH Z' ∧ ∃ r : Int32, v = some (.int r) ∧ Q r Z' I' L'
def xrtZ (Z : jZ) (Q : Int32 → jZ → jI → jL → Prop) : jRt := fun v Z' I' L' => jext Z Z' ∧ SH Z' ∧ ∃ r : Int32, v = some (.int r) ∧ (r = 0 ∨ r = 1) ∧ Q r Z' I' L'
def xrtL (Z : jZ) (Q : Int64 → jZ → jI → jL → Prop) : jRt := fun v Z' I' L' => jext Z Z' ∧ SH Z' ∧ ∃ r : Int64, v = some (.long r) ∧ Q r Z' I' L'
section JMORE
variable {G : jG} {cc : ByteArray} {own : String} {Ts : List Cond} {nL : Nat} {ret : Option FieldType} {rm : Room} {Rt : jRt} {pc : Nat} {lv : List (Nat × Value)} {st : List Value} {Z : jZ} {I : jI} {L : jL} {k n : Nat}
/-- a reference put into a field that isn't final -/
theorem j_putr (E : jE G cc own Ts nL ret rm Rt) {i a : Nat} (c j : Nat) {C ref : String} {T : u_T} {N : Nat} {v : Nat} (hcl : vwCl[c]? = some (C, T, N)) (hN : N = jnum c) (hc : c < 13) (hj : j < N) (hin : ∀ w ∈ u_ws C T N, w ∈ Ts) (hty : ∀ k, k < N → parseFieldDescriptor (T k).2.2.1 = some (jty c k)) (hnm : ∀ a, a < N → ∀ b, b < N → a ≠ b → (T a).2.1 ≠ (T b).2.1) (ht : jref (jty c j) = true) (href : (T j).1 = ref) (hlk : Cond.fieldLink own i ref (T j).2.1 (T j).2.2.1 ∈ Ts) (hfin : (T j).2.2.2 = false) (hk : jk Z a c) (d : decode cc pc = .ok (.putfield i, 3)) (kk : jJ G nL (pc + 3) lv st (jpR Z a j (some v)) I L k n) : jJ G nL pc lv (.ref v :: .ref a :: st) Z I L k n := by
  intro H locs ls hl hP hD hS
  have hD0 := hD
  obtain ⟨q, hq⟩ := jw_get (X := gX G) (cy := gY G) (I := I) (L := L) hk.1
  have hq0 := hq
  rw [jf_obj hk.2 hc] at hq
  subst hN
  have hnf : narrow (jty c j) (.ref v) = .ref v ∧ fits (jty c j) (.ref v) = true := by
    generalize jty c j = t at ht
    cases t <;> first | exact ⟨rfl, rfl⟩ | cases ht
  refine va_put E.1.1 E.1.2.1 E.1.2.2.2.2 hin (jty c) hty hnm E.1.2.2.2.1 E.2.1 hP hD hS q hq hcl j hj (E.1.2.2.2.2 _ hlk) (by rw [href]; exact fun _ h => h) hfin (hty j hj) hnf.1 hnf.2 (by rw [jfs_len]; exact hj) d (fun H locs hP hD hS => ?_)
  rw [show (Value.ref v) = va_rf (some v) from rfl, jfs_setR hj ht] at hP hD
  have e := jw_set (X := gX G) (cy := gY G) (Z := Z) (Z' := jpR Z a j (some v)) (I := I) (I' := I) (L := L) (L' := L) (a := a) (q := q) (e := .inr (c, jfs c (I a) (L a) (va_up (Z.2.2.2 a) j (some v)))) hD0 hk.1 hq0 rfl (by rw [jf_obj (Z := jpR Z a j (some v)) hk.2 hc]; simp [jpR, va_up]) (fun b hb => jf_R_ne hb)
  rw [e] at hP hD
  exact kk H locs ls hl hP hD hS
/-- System.arraycopy of ints -/
theorem j_copyi (E : jE G cc own Ts nL ret rm Rt) {i a b : Nat} {sp dp m : Int32} (w1 : Cond.methodLink own i arraycopyName ∈ Ts) (w2 : Cond.native arraycopyName ∈ Ts) (w3 : Cond.static arraycopyName ∈ Ts) (w4 : Cond.initialized "java/lang/System" ∈ Ts) (hka : jk Z a 14) (hkb : jk Z b 14) (h1 : ¬ sp < 0) (h2 : ¬ dp < 0) (h3 : ¬ m < 0) (h4 : sp.toNatClampNeg + m.toNatClampNeg ≤ jlen Z a) (h5 : dp.toNatClampNeg + m.toNatClampNeg ≤ jlen Z b) (hf : 1 ≤ rm.frames) (hlo : (st.map fun v => v.category).sum + (nativeFrameWords "java/lang/System" "arraycopy" 5 + 11) ≤ rm.locals) (d : decode cc pc = .ok (.invokestatic i, 3)) (kk : jJ G nL (pc + 3) lv st Z (va_up I b (va_cpy (I a) (I b) sp.toNatClampNeg dp.toNatClampNeg m.toNatClampNeg)) L k n) : jJ G nL pc lv (.int m :: .int dp :: .ref b :: .int sp :: .ref a :: st) Z I L k n := by
  intro H locs ls hl hP hD hS
  have hD0 := hD
  have eR := E.2.2.2.2.2.2.1
  obtain ⟨qa, hqa⟩ := jw_get (X := gX G) (cy := gY G) (I := I) (L := L) hka.1
  obtain ⟨qb, hqb⟩ := jw_get (X := gX G) (cy := gY G) (I := I) (L := L) hkb.1
  have hq0 := hqb
  rw [jf_14 hka.2] at hqa
  rw [jf_14 hkb.2] at hqb
  refine va_copyi E.1.1 E.1.2.1 (by rw [E.1.2.2.1]; exact hl.1.symm) E.1.2.2.2.1 (E.1.2.2.2.2 _ w1) (E.1.2.2.2.2 _ w2) (E.1.2.2.2.2 _ w3) (E.1.2.2.2.2 _ w4) E.2.1 hP hD hS qa qb 1 1 hqa hqb rfl rfl rfl h1 h2 h3 h4 h5 (fun _ _ => rfl) (by rw [eR]; exact hf) (by rw [eR]; exact hlo) d (fun H locs hP hD hS => ?_)
  have e := jw_set (X := gX G) (cy := gY G) (Z := Z) (Z' := Z) (I := I) (I' := va_up I b (va_cpy (I a) (I b) sp.toNatClampNeg dp.toNatClampNeg m.toNatClampNeg)) (L := L) (L' := L) (a := b) (q := qb) hD0 hkb.1 hq0 rfl (by rw [jf_14 hkb.2]) (fun c hc => jf_I_ne hc)
  simp only [va_up_self] at e
  rw [e] at hP hD
  exact kk H locs ls hl hP hD hS
theorem j_aald19 (E : jE G cc own Ts nL ret rm Rt) {a : Nat} {i : Int32} (hk : jk Z a 19) (hi : vp_in i (jlen Z a)) (d : decode cc pc = .ok (.aaload, 1)) (kk : jJ G nL (pc + 1) lv (va_rf (jr Z a i.toNatClampNeg) :: st) Z I L k n) : jJ G nL pc lv (.int i :: .ref a :: st) Z I L k n := by
  intro H locs ls hl hP hD hS
  obtain ⟨q, hq⟩ := jw_get (X := gX G) (cy := gY G) (I := I) (L := L) hk.1
  rw [jf_19 hk.2] at hq
  have hlt : i.toNatClampNeg < jlen Z a := Nat.not_le.mp fun q => hi (Or.inr q)
  exact W.aald (v := va_rf (jr Z a i.toNatClampNeg)) (ty := .array .byte) E.1.1 E.1.2.1 (hP q _ hq) ((E.2.1.2 6 _ rfl).1 (jlen Z a) (fun j => va_rf (jr Z a j))) rfl (fun q => by cases q) (by show ¬ (i < 0 ∨ (arrV _ _ _).slots.size ≤ _); rw [arrV_size]; exact hi) (by show (arrV _ _ _).slots[_]? = _; rw [arrV_read _ _ hlt]) rfl rfl d (kk H locs ls hl hP hD hS)
end JMORE
def rtN (Z : jZ) (Q : jZ → jI → jL → Prop) : jRt := fun v Z' I' L' => jext Z Z' ∧ v = none ∧ Q Z' I' L'
end
section
def va_AOA (t : FieldType) (U : State) : Prop := (Cond.arrayOver (.array t)).before #[] U = true
theorem va_AOA.use {t : FieldType} {A : Array Value} {U : State} (h : va_AOA t U) : (Cond.arrayOver (.array t)).before A U = true := h
/-! ===== BEGIN new T[n][m]: the outer array a place, the inner ones among the pooled ===== -/
/-- f, but v at every address of l -/
def vr_up {α : Type} (f : Nat → α) (l : List Nat) (v : α) : Nat → α := fun a => if a ∈ l then v else f a
theorem vr_up_in {α : Type} {f : Nat → α} {l : List Nat} {v : α} {a : Nat} (h : a ∈ l) : vr_up f l v a = v := if_pos h
theorem vr_up_ne {α : Type} {f : Nat → α} {l : List Nat} {v : α} {a : Nat} (h : a ∉ l) : vr_up f l v a = f a := if_neg h
theorem vr_rows {L l : List Nat} {f : Nat → va_E} {e : va_E} (h : ∀ a, a ∈ l → a ∉ L) : va_pl L f ++ l.map (fun a => (a, e)) = va_pl (L ++ l) (vr_up f l e) := by
  unfold va_pl
  rw [List.map_append]
  congr 1
  · apply List.map_congr_left
    intro a ha
    rw [vr_up_ne (fun q => h a q ha)]
  · apply List.map_congr_left
    intro a ha
    rw [vr_up_in ha]
theorem vr_lay {X rows : va_W} {x : Nat × va_E} {pl : va_W} {D : va_G} {cl : List vw_C} {H : Heap} (hP : va_P D cl (((X ++ pl) ++ [x]) ++ rows) H) : va_P D cl ((X ++ [x]) ++ (pl ++ rows)) H := by
  rw [List.append_assoc (X ++ pl)] at hP
  have h := va_P.swap hP
  rw [← List.append_assoc X] at h
  have h2 := va_P.swap h
  rw [List.append_assoc (X ++ [x])] at h2
  exact h2
theorem vr_layD {X rows : va_W} {x : Nat × va_E} {pl : va_W} {A : Nat → Prop} (hD : va_D A (((X ++ pl) ++ [x]) ++ rows)) : va_D A ((X ++ [x]) ++ (pl ++ rows)) := by
  rw [List.append_assoc (X ++ pl)] at hD
  have h := va_D.swap hD
  rw [← List.append_assoc X] at h
  have h2 := va_D.swap h
  rw [List.append_assoc (X ++ [x])] at h2
  exact h2
theorem vr_outer (c : ClassId) (N h0 : Nat) : ∀ i : Nat, Jvm.Free.Multi.outerC c N h0 i = arrV c N (fun j => va_rf (if j < i then some (h0 + 1 + j) else none))
  | 0 => by
    show ({ cls := c, slots := Array.replicate N .null, vm := .none } : Cell) = _
    rw [arrV_new]
    refine congrArg (arrV c N) (funext fun j => ?_)
    simp [va_rf]
  | i + 1 => by
    show (Jvm.Free.Multi.outerC c N h0 i).setSlot i (.ref (h0 + 1 + i)) = _
    rw [vr_outer c N h0 i, arrV_store]
    refine congrArg (arrV c N) (funext fun j => ?_)
    by_cases e : j = i
    · subst e
      simp [updV, va_rf]
    · by_cases h : j < i
      · simp [updV, e, h, Nat.lt_succ_of_lt h]
      · simp [updV, e, h, show ¬ j < i + 1 by omega]
section VGM
variable {p : Program} {l : Launch} {e : Env} {R : Room} {s : State} {m : MethodId} {args : Array Value} {below : List Frame} {meth : Method} {c : Code} {H : Heap} {locs : List Loc} {cells slots : Nat} {Q : State → Prop}
variable {cc : ByteArray} {pc : Nat} {ls : Array Slot} {rest : List Value} {D : va_G} {cl : List vw_C} {A : Nat → Prop} {a : Nat} {tys : List (ClassId × FieldType)} {ws : va_W} {H0 : Heap}
theorem va_mna {X : va_W} {L : List Nat} {f : Nat → va_E} {cc : ByteArray} (hexec : p.tables.exec = Jvm.exec) (hb : c.code = cc) {own : String} {index : Nat} {ty : FieldType} {cy : ClassId} (hown : s.vm.findClass own = some m.cls) (hclink : (Cond.classLink own index ("[" ++ (FieldType.array ty).toString)).before args s = true) (hover : va_AOA ty s) (harr : (Cond.arrayClass ty).before args s = true) (hcy : s.vm.findClass (FieldType.array ty).toString = some cy)
    (hK : va_K D cl tys s) (hP : va_P D cl (X ++ va_pl L f) H) (hD : va_D A (X ++ va_pl L f)) (hS : va_S A H0 H locs) (hA : ∀ q, H0.size ≤ q → A q) {n k : Int32} {N' K' : Nat} {z : vp_A} (hn : ¬ n < 0) (hk : ¬ k < 0) (hN : n.toNatClampNeg = N') (hM : k.toNatClampNeg = K')
    (hb1 : N' * 4 ≤ 536870912) (hb2 : K' * componentBytes ty ≤ 536870912) (hb3 : K' ≤ 536870912) (hdf : fits ty (defaultValue ty) = true) (hdd : (defaultValue ty).isDefault = true) (hcells : cells + (1 + N') ≤ R.cells) (hslots : slots + (N' + N' * K') ≤ R.slots) (hz : ∀ c : ClassId, Jvm.Free.Multi.innerC c K' (defaultValue ty) = vp_cell c z) (hdg : decode cc pc = .ok (.multianewarray index 2, 4))
    (kk : ∀ (q : Nat) (r : Nat → Nat) (cA : ClassId) (H1 : Heap), (∀ i j : Nat, i < N' → j < N' → r i = r j → i = j) → (∀ i : Nat, i < N' → r i ∉ L) → va_K D cl (tys ++ [(cA, .array ty)]) s →
      va_P D cl ((X ++ [(q, .inl (cA, N', .inr (.inr (.inr (.inr (fun i => if i < N' then some (r i) else none))))))]) ++ va_pl (L ++ (List.range N').map r) (vr_up f ((List.range N').map r) (.inl (cy, z)))) H1 → va_D A ((X ++ [(q, .inl (cA, N', .inr (.inr (.inr (.inr (fun i => if i < N' then some (r i) else none))))))]) ++ va_pl (L ++ (List.range N').map r) (vr_up f ((List.range N').map r) (.inl (cy, z)))) → va_S A H0 H1 locs →
      W p l e R s m args below meth c H1 locs (cells + 1 + N') (slots + N' + N' * K') Q (F0 m (pc + 4) ls (.ref q :: rest))) : W p l e R s m args below meth c H locs cells slots Q (F0 m pc ls (.int k :: .int n :: rest)) := by
  subst hN
  subst hM
  intro T hT Xs
  obtain ⟨vm₁, cA, comp, -, fA, fC, hO, -, X', step⟩ := Xs.multianewarray2F hexec hown hclink (va_AOA.use hover) harr (g := F0 m pc ls (.int k :: .int n :: rest)) rfl (by rw [hb]; exact hdg) rfl hn hk hb1 hb2 hb3 hdf hdd hcells hslots
  have ec : some cy = some comp := hcy.symm.trans fC
  cases ec
  generalize hF : Jvm.Free.Multi.fill (T.setVm vm₁) cA cy n.toNatClampNeg k.toNatClampNeg (defaultValue ty) n.toNatClampNeg = F at X' step
  have hTh : (T.setVm vm₁).heap = H := hT
  obtain ⟨f1, f2, -, -⟩ := Jvm.Free.Multi.fill_facts (T.setVm vm₁) cA cy n.toNatClampNeg k.toNatClampNeg (defaultValue ty) n.toNatClampNeg
  rw [hF, hTh] at f1 f2
  have hold : ∀ x : Nat, x < H.size → F.heap[x]? = H[x]? := fun x hx => by
    have := Jvm.Free.Multi.fill_old (T.setVm vm₁) cA cy n.toNatClampNeg k.toNatClampNeg (defaultValue ty) (a := x) (by rw [hTh]; exact hx) n.toNatClampNeg
    rw [hF, hTh] at this
    exact this
  have hrow : ∀ j : Nat, j < n.toNatClampNeg → F.heap[H.size + 1 + j]? = some (vp_cell cy z) := fun j hj => by
    have := Jvm.Free.Multi.fill_inner (T.setVm vm₁) cA cy n.toNatClampNeg k.toNatClampNeg (defaultValue ty) n.toNatClampNeg j hj
    rw [hF, hTh, hz] at this
    exact this
  have hout : Jvm.Free.Multi.outerC cA n.toNatClampNeg H.size n.toNatClampNeg = vp_cell cA (n.toNatClampNeg, .inr (.inr (.inr (.inr (fun i => if i < n.toNatClampNeg then some (H.size + 1 + i) else none))))) := by
    rw [vp_cell_q]
    exact vr_outer cA n.toNatClampNeg H.size n.toNatClampNeg
  rw [hout] at f2
  have hlt : ∀ a, a ∈ L → a < H.size := fun a ha => by
    obtain ⟨k9, hk9⟩ := va_pl_get (X := X) (f := f) ha
    exact (hP k9 _ hk9).lt
  have hnl : ∀ i : Nat, i < n.toNatClampNeg → H.size + 1 + i ∉ L := fun i _ h => by
    have := hlt _ h
    omega
  have hnm : ∀ a, a ∈ (List.range n.toNatClampNeg).map (fun i => H.size + 1 + i) → a ∉ L := fun a ha h => by
    obtain ⟨i, -, rfl⟩ := List.mem_map.mp ha
    have := hlt _ h
    omega
  have hP0 : va_P D cl (X ++ va_pl L f) F.heap := hP.kept (fun k9 x hx => hold x.1 ((hP k9 x hx).lt))
  have hP1 : va_P D cl ((X ++ va_pl L f) ++ [(H.size, .inl (cA, n.toNatClampNeg, .inr (.inr (.inr (.inr (fun i => if i < n.toNatClampNeg then some (H.size + 1 + i) else none))))))]) F.heap := hP0.app (fun k9 x hx => by
    have h0 : k9 < 1 := (List.getElem?_eq_some_iff.mp hx).1
    rw [show k9 = 0 by omega] at hx
    cases hx
    exact f2)
  have hP2 : va_P D cl (((X ++ va_pl L f) ++ [(H.size, .inl (cA, n.toNatClampNeg, .inr (.inr (.inr (.inr (fun i => if i < n.toNatClampNeg then some (H.size + 1 + i) else none))))))]) ++ ((List.range n.toNatClampNeg).map (fun i => H.size + 1 + i)).map (fun a => (a, .inl (cy, z)))) F.heap := hP1.app (fun k9 x hx => by
    obtain ⟨a, ha, rfl⟩ := List.mem_map.mp (List.mem_of_getElem? hx)
    obtain ⟨i, hi, rfl⟩ := List.mem_map.mp ha
    exact hrow i (List.mem_range.mp hi))
  have hD2 : va_D A (((X ++ va_pl L f) ++ [(H.size, .inl (cA, n.toNatClampNeg, .inr (.inr (.inr (.inr (fun i => if i < n.toNatClampNeg then some (H.size + 1 + i) else none))))))]) ++ ((List.range n.toNatClampNeg).map (fun i => H.size + 1 + i)).map (fun a => (a, .inl (cy, z)))) := by
    have hD1 := hD.push (e := .inl (cA, n.toNatClampNeg, .inr (.inr (.inr (.inr (fun i => if i < n.toNatClampNeg then some (H.size + 1 + i) else none)))))) hP rfl (hA _ hS.1)
    generalize hW1 : (X ++ va_pl L f) ++ [(H.size, .inl (cA, n.toNatClampNeg, .inr (.inr (.inr (.inr (fun i => if i < n.toNatClampNeg then some (H.size + 1 + i) else none))))))] = W1 at hD1 hP1 ⊢
    have hle : ∀ (k9 : Nat) (x : Nat × va_E), W1[k9]? = some x → x.1 ≤ H.size := fun k9 x hx => by
      rw [← hW1] at hx
      by_cases hl : k9 < (X ++ va_pl L f).length
      · rw [List.getElem?_append_left hl] at hx
        exact Nat.le_of_lt ((hP k9 x hx).lt)
      · rw [List.getElem?_append_right (by omega)] at hx
        have h0 : k9 - (X ++ va_pl L f).length < 1 := (List.getElem?_eq_some_iff.mp hx).1
        rw [show k9 - (X ++ va_pl L f).length = 0 by omega] at hx
        cases hx
        exact Nat.le_refl _
    have hr : ∀ (k9 : Nat) (x : Nat × va_E), (((List.range n.toNatClampNeg).map (fun i => H.size + 1 + i)).map (fun a => ((a, .inl (cy, z)) : Nat × va_E)))[k9]? = some x → x.1 = H.size + 1 + k9 := fun k9 x hx => by
      rw [List.getElem?_map, List.getElem?_map] at hx
      by_cases h9 : k9 < n.toNatClampNeg
      · rw [List.getElem?_range h9] at hx
        cases hx
        rfl
      · have hn0 : (List.range n.toNatClampNeg)[k9]? = none := List.getElem?_eq_none (by rw [List.length_range]; omega)
        rw [hn0] at hx
        cases hx
    refine ⟨fun i j x y hi hj hxy => ?_, fun k9 x hx => ?_⟩
    · by_cases h1 : i < W1.length <;> by_cases h2 : j < W1.length
      · rw [List.getElem?_append_left h1] at hi
        rw [List.getElem?_append_left h2] at hj
        exact hD1.1 i j x y hi hj hxy
      · rw [List.getElem?_append_left h1] at hi
        rw [List.getElem?_append_right (by omega)] at hj
        have := hle _ _ hi
        have := hr _ _ hj
        omega
      · rw [List.getElem?_append_right (by omega)] at hi
        rw [List.getElem?_append_left h2] at hj
        have := hle _ _ hj
        have := hr _ _ hi
        omega
      · rw [List.getElem?_append_right (by omega)] at hi hj
        have := hr _ _ hi
        have := hr _ _ hj
        omega
    · by_cases h1 : k9 < W1.length
      · rw [List.getElem?_append_left h1] at hx
        exact hD1.2 k9 x hx
      · rw [List.getElem?_append_right (by omega)] at hx
        have := hr _ _ hx
        exact hA _ (by have := hS.1; omega)
  have hAr : ArrOfT s cA (.array ty) := fun N9 z9 => by
    obtain ⟨-, k9, hk9, cm9, hkk9⟩ := (hO 0 0 0).1
    exact ⟨(fun q hq => by cases hq), k9, hk9, cm9, hkk9⟩
  have hK2 : va_K D cl (tys ++ [(cA, .array ty)]) s := ⟨hK.1, fun k9 x hx => by
    by_cases hl : k9 < tys.length
    · rw [List.getElem?_append_left hl] at hx
      exact hK.2 k9 x hx
    · rw [List.getElem?_append_right (by omega)] at hx
      have h0 : k9 - tys.length < 1 := (List.getElem?_eq_some_iff.mp hx).1
      rw [show k9 - tys.length = 0 by omega] at hx
      cases hx
      exact ⟨hAr, fA⟩⟩
  obtain ⟨t, a1, b1⟩ := kk H.size (fun i => H.size + 1 + i) cA F.heap (fun i j _ _ h => by have h9 : H.size + 1 + i = H.size + 1 + j := h; omega) hnl hK2 (by rw [← vr_rows hnm]; exact vr_lay hP2) (by rw [← vr_rows hnm]; exact vr_layD hD2) ⟨by rw [f1]; have := hS.1; omega, fun x h1 h2 => (hold x (Nat.lt_of_lt_of_le h1 hS.1)).trans (hS.2.1 x h1 h2), hS.2.2⟩ F rfl X'
  refine ⟨t, step t ?_, b1⟩
  have e : T.heap.size = H.size := by rw [hT]
  rw [e]
  exact a1
end VGM
/-! ===== END ===== -/
/-! ===== making cells ===== -/
abbrev jnw (Z : jZ) (q k m : Nat) : jZ := (Z.1 ++ [q], va_up Z.2.1 q k, va_up Z.2.2.1 q m, va_up Z.2.2.2 q (fun _ => none))
abbrev jz0 (I : jI) (q : Nat) : jI := va_up I q (fun _ => 0)
abbrev jzL (L : jL) (q : Nat) : jL := va_up L q (fun _ => 0)
theorem jext_nw {Z : jZ} {q k m : Nat} (h : q ∉ Z.1) : jext Z (jnw Z q k m) := by
  intro a c ha
  have hne : a ≠ q := fun e => h (e ▸ ha.1)
  refine ⟨⟨List.mem_append_left _ ha.1, ?_⟩, ?_⟩
  · show va_up Z.2.1 q k a = c
    rw [va_up_ne _ _ hne]; exact ha.2
  · show va_up Z.2.2.1 q m a = Z.2.2.1 a
    rw [va_up_ne _ _ hne]
theorem jk_nw {Z : jZ} {q k m : Nat} : jk (jnw Z q k m) q k := ⟨List.mem_append_right _ List.mem_cons_self, va_up_self _ _ _⟩
theorem jlen_nw {Z : jZ} {q k m : Nat} : jlen (jnw Z q k m) q = m := va_up_self _ _ _
theorem j_fresh {A : Nat → Prop} {X : va_W} {cy : jC} {Z : jZ} {I : jI} {L : jL} {q : Nat} {e : va_E} (hD : va_D A ((X ++ jw cy Z I L) ++ [(q, e)])) : q ∉ Z.1 := by
  intro hq
  obtain ⟨k, hk⟩ := jw_get (X := X) (cy := cy) (I := I) (L := L) hq
  have hl := (List.getElem?_eq_some_iff.mp hk).1
  have h1 : ((X ++ jw cy Z I L) ++ [(q, e)])[k]? = some (q, jf cy Z I L q) := by rw [List.getElem?_append_left hl]; exact hk
  have h2 : ((X ++ jw cy Z I L) ++ [(q, e)])[(X ++ jw cy Z I L).length]? = some (q, e) := by rw [List.getElem?_append_right (Nat.le_refl _), Nat.sub_self]; rfl
  have := hD.1 _ _ _ _ h1 h2 rfl
  omega
theorem jw_push {X : va_W} {cy : jC} {Z : jZ} {I : jI} {L : jL} {q k m : Nat} {e : va_E} (hq : q ∉ Z.1) (he : jf cy (jnw Z q k m) (jz0 I q) (jzL L q) q = e) : (X ++ jw cy Z I L) ++ [(q, e)] = X ++ jw cy (jnw Z q k m) (jz0 I q) (jzL L q) := by
  unfold jw
  rw [List.append_assoc, va_pl_push hq]
  congr 1
  apply va_pl_congr
  intro b
  by_cases hb : b = q
  · subst hb
    rw [va_up_self, he]
  · rw [va_up_ne _ _ hb]
    simp [jf, jnw, jz0, jzL, va_up_ne _ _ hb]
theorem jdefv {ty : FieldType} (h : ty ≠ .float ∧ ty ≠ .double) : defaultValue ty = jval ty 0 0 none := by
  cases ty <;> first | rfl | exact absurd rfl h.1 | exact absurd rfl h.2
theorem j_cyeq {D : va_G} {cl : List vw_C} {tys : List (ClassId × FieldType)} {s : State} {cA cB : ClassId} {ty : FieldType} {t0 : Nat} (hK : va_K D cl (tys ++ [(cA, ty)]) s) (ht : tys[t0]? = some (cB, ty)) (hty : ∀ C, ty ≠ .object C) : cA = cB := by
  have h1 := (hK.2 tys.length (cA, ty) (by rw [List.getElem?_append_right (Nat.le_refl _), Nat.sub_self]; rfl)).2
  have h2 := (hK.2 t0 (cB, ty) (by rw [List.getElem?_append_left (List.getElem?_eq_some_iff.mp ht).1]; exact ht)).2
  cases ty <;> first | exact absurd rfl (hty _) | exact Option.some.inj (Eq.trans (Eq.symm h1) h2)
theorem j_cyeqO {D : va_G} {cl : List vw_C} {tys : List (ClassId × FieldType)} {s : State} {cA cB : ClassId} {C : String} {t0 : Nat} (hK : va_K D cl (tys ++ [(cA, .object C)]) s) (ht : tys[t0]? = some (cB, .object C)) : cA = cB := by
  obtain ⟨-, -, -, -, -, h1⟩ := (hK.2 tys.length (cA, .object C) (by rw [List.getElem?_append_right (Nat.le_refl _), Nat.sub_self]; rfl)).2
  obtain ⟨-, -, -, -, -, h2⟩ := (hK.2 t0 (cB, .object C) (by rw [List.getElem?_append_left (List.getElem?_eq_some_iff.mp ht).1]; exact ht)).2
  exact Option.some.inj (h1.symm.trans h2)
section JNEW
variable {G : jG} {cc : ByteArray} {own : String} {Ts : List Cond} {nL : Nat} {ret : Option FieldType} {rm : Room} {Rt : jRt} {pc : Nat} {lv : List (Nat × Value)} {st : List Value} {Z : jZ} {I : jI} {L : jL} {k n : Nat}
theorem j_new (E : jE G cc own Ts nL ret rm Rt) {i : Nat} (c : Nat) {C : String} {T : u_T} {N : Nat} (hcl : vwCl[c]? = some (C, T, N)) (hN : N = jnum c) (hc : c < 13) (hin : ∀ w ∈ u_ws C T N, w ∈ Ts) (hty : ∀ k, k < N → parseFieldDescriptor (T k).2.2.1 = some (jty c k)) (hdef : ∀ j, j < N → jty c j ≠ .float ∧ jty c j ≠ .double) (w1 : Cond.classLink own i C ∈ Ts) (w2 : Cond.instantiable C N ∈ Ts) (w3 : Cond.initialized C ∈ Ts) (h1 : k + 1 ≤ rm.cells) (h2 : n + N ≤ rm.slots) (d : decode cc pc = .ok (.new i, 3)) (kk : ∀ q, q ∉ Z.1 → jJ G nL (pc + 3) lv (.ref q :: st) (jnw Z q c 0) (jz0 I q) (jzL L q) (k + 1) (n + N)) : jJ G nL pc lv st Z I L k n := by
  intro H locs ls hl hP hD hS
  have eR := E.2.2.2.2.2.2.1
  refine va_new (fs := jfs c (fun _ => 0) (fun _ => 0) (fun _ => none)) E.1.1 E.1.2.1 E.1.2.2.2.2 hin (jty c) hty E.1.2.2.2.1 (E.1.2.2.2.2 _ w1) (E.1.2.2.2.2 _ w2) (E.1.2.2.2.2 _ w3) E.2.1 hP hD hS E.2.2.1 hcl (fun j hj => by subst hN; rw [jdefv (hdef j hj)]; simp [vp_V, List.getD, jfs_get hj]) (by rw [eR]; exact h1) (by rw [eR]; exact h2) d (fun q H1 hP hD hS => ?_)
  have hq := j_fresh hD
  have e := jw_push (X := gX G) (cy := gY G) (Z := Z) (I := I) (L := L) (q := q) (k := c) (m := 0) hq (jf_obj (cy := gY G) (Z := jnw Z q c 0) (I := jz0 I q) (L := jzL L q) (va_up_self _ _ _) hc)
  simp only [jz0, jzL, va_up_self] at e
  rw [e] at hP hD
  exact kk q hq H1 locs ls hl hP hD hS
theorem j_newaI (E : jE G cc own Ts nL ret rm Rt) {m : Int32} (N : Nat) (hm : ¬ m < 0) (hN : m.toNatClampNeg = N) (hb : N * componentBytes .int ≤ 536870912) (w1 : Cond.arrayClass .int ∈ Ts) (h1 : k + 1 ≤ rm.cells) (h2 : n + N ≤ rm.slots) (d : decode cc pc = .ok (.newarray .int, 2)) (kk : ∀ q, q ∉ Z.1 → jJ G nL (pc + 2) lv (.ref q :: st) (jnw Z q 14 N) (jz0 I q) (jzL L q) (k + 1) (n + N)) : jJ G nL pc lv (.int m :: st) Z I L k n := by
  intro H locs ls hl hP hD hS
  have eR := E.2.2.2.2.2.2.1
  refine va_newa (atype := .int) (ty := .int) (a0 := (N, .inl (fun _ => 0))) E.1.1 E.1.2.1 (E.1.2.2.2.2 _ w1) rfl E.2.1 hP hD hS E.2.2.1 (fun _ => rfl) hm hN hb (by rw [eR]; exact h1) (by rw [eR]; exact h2) d (fun q cA H1 hK1 hP hD hS => ?_)
  have hq := j_fresh hD
  have ecy := j_cyeq (t0 := 1) hK1 rfl (fun C h => by cases h)
  subst ecy
  have e := jw_push (X := gX G) (cy := gY G) (Z := Z) (I := I) (L := L) (q := q) (k := 14) (m := N) hq (jf_14 (cy := gY G) (Z := jnw Z q 14 N) (I := jz0 I q) (L := jzL L q) (va_up_self _ _ _))
  simp only [jz0, jzL, jnw, va_up_self] at e
  rw [e] at hP hD
  exact kk q hq H1 locs ls hl hP hD hS
theorem j_newaB (E : jE G cc own Ts nL ret rm Rt) {m : Int32} (N : Nat) (hm : ¬ m < 0) (hN : m.toNatClampNeg = N) (hb : N * componentBytes .byte ≤ 536870912) (w1 : Cond.arrayClass .byte ∈ Ts) (h1 : k + 1 ≤ rm.cells) (h2 : n + N ≤ rm.slots) (d : decode cc pc = .ok (.newarray .byte, 2)) (kk : ∀ q, q ∉ Z.1 → jJ G nL (pc + 2) lv (.ref q :: st) (jnw Z q 13 N) (jz0 I q) (jzL L q) (k + 1) (n + N)) : jJ G nL pc lv (.int m :: st) Z I L k n := by
  intro H locs ls hl hP hD hS
  have eR := E.2.2.2.2.2.2.1
  refine va_newa (atype := .byte) (ty := .byte) (a0 := (N, .inl (fun _ => 0))) E.1.1 E.1.2.1 (E.1.2.2.2.2 _ w1) rfl E.2.1 hP hD hS E.2.2.1 (fun _ => rfl) hm hN hb (by rw [eR]; exact h1) (by rw [eR]; exact h2) d (fun q cA H1 hK1 hP hD hS => ?_)
  have hq := j_fresh hD
  have ecy := j_cyeq (t0 := 0) hK1 rfl (fun C h => by cases h)
  subst ecy
  have e := jw_push (X := gX G) (cy := gY G) (Z := Z) (I := I) (L := L) (q := q) (k := 13) (m := N) hq (jf_13 (cy := gY G) (Z := jnw Z q 13 N) (I := jz0 I q) (L := jzL L q) (va_up_self _ _ _))
  simp only [jz0, jzL, jnw, va_up_self] at e
  rw [e] at hP hD
  exact kk q hq H1 locs ls hl hP hD hS
theorem j_newaJ (E : jE G cc own Ts nL ret rm Rt) {m : Int32} (N : Nat) (hm : ¬ m < 0) (hN : m.toNatClampNeg = N) (hb : N * componentBytes .long ≤ 536870912) (w1 : Cond.arrayClass .long ∈ Ts) (h1 : k + 1 ≤ rm.cells) (h2 : n + N ≤ rm.slots) (d : decode cc pc = .ok (.newarray .long, 2)) (kk : ∀ q, q ∉ Z.1 → jJ G nL (pc + 2) lv (.ref q :: st) (jnw Z q 15 N) (jz0 I q) (jzL L q) (k + 1) (n + N)) : jJ G nL pc lv (.int m :: st) Z I L k n := by
  intro H locs ls hl hP hD hS
  have eR := E.2.2.2.2.2.2.1
  refine va_newa (atype := .long) (ty := .long) (a0 := (N, .inr (.inl (fun _ => 0)))) E.1.1 E.1.2.1 (E.1.2.2.2.2 _ w1) rfl E.2.1 hP hD hS E.2.2.1 (fun _ => rfl) hm hN hb (by rw [eR]; exact h1) (by rw [eR]; exact h2) d (fun q cA H1 hK1 hP hD hS => ?_)
  have hq := j_fresh hD
  have ecy := j_cyeq (t0 := 2) hK1 rfl (fun C h => by cases h)
  subst ecy
  have e := jw_push (X := gX G) (cy := gY G) (Z := Z) (I := I) (L := L) (q := q) (k := 15) (m := N) hq (jf_15 (cy := gY G) (Z := jnw Z q 15 N) (I := jz0 I q) (L := jzL L q) (va_up_self _ _ _))
  simp only [jz0, jzL, jnw, va_up_self] at e
  rw [e] at hP hD
  exact kk q hq H1 locs ls hl hP hD hS
theorem j_newaZ (E : jE G cc own Ts nL ret rm Rt) {m : Int32} (N : Nat) (hm : ¬ m < 0) (hN : m.toNatClampNeg = N) (hb : N * componentBytes .boolean ≤ 536870912) (w1 : Cond.arrayClass .boolean ∈ Ts) (h1 : k + 1 ≤ rm.cells) (h2 : n + N ≤ rm.slots) (d : decode cc pc = .ok (.newarray .boolean, 2)) (kk : ∀ q, q ∉ Z.1 → jJ G nL (pc + 2) lv (.ref q :: st) (jnw Z q 16 N) (jz0 I q) (jzL L q) (k + 1) (n + N)) : jJ G nL pc lv (.int m :: st) Z I L k n := by
  intro H locs ls hl hP hD hS
  have eR := E.2.2.2.2.2.2.1
  refine va_newa (atype := .boolean) (ty := .boolean) (a0 := (N, .inl (fun _ => 0))) E.1.1 E.1.2.1 (E.1.2.2.2.2 _ w1) rfl E.2.1 hP hD hS E.2.2.1 (fun _ => rfl) hm hN hb (by rw [eR]; exact h1) (by rw [eR]; exact h2) d (fun q cA H1 hK1 hP hD hS => ?_)
  have hq := j_fresh hD
  have ecy := j_cyeq (t0 := 3) hK1 rfl (fun C h => by cases h)
  subst ecy
  have e := jw_push (X := gX G) (cy := gY G) (Z := Z) (I := I) (L := L) (q := q) (k := 16) (m := N) hq (jf_16 (cy := gY G) (Z := jnw Z q 16 N) (I := jz0 I q) (L := jzL L q) (va_up_self _ _ _))
  simp only [jz0, jzL, jnw, va_up_self] at e
  rw [e] at hP hD
  exact kk q hq H1 locs ls hl hP hD hS
theorem j_newqK (E : jE G cc own Ts nL ret rm Rt) {m : Int32} {i : Nat} (N : Nat) (hm : ¬ m < 0) (hN : m.toNatClampNeg = N) (hb : N * 4 ≤ 536870912) (w1 : Cond.classLink own i RX2 ∈ Ts) (h1 : k + 1 ≤ rm.cells) (h2 : n + N ≤ rm.slots) (d : decode cc pc = .ok (.anewarray i, 3)) (kk : ∀ q, q ∉ Z.1 → jJ G nL (pc + 3) lv (.ref q :: st) (jnw Z q 17 N) (jz0 I q) (jzL L q) (k + 1) (n + N)) : jJ G nL pc lv (.int m :: st) Z I L k n := by
  intro H locs ls hl hP hD hS
  have eR := E.2.2.2.2.2.2.1
  refine va_newq E.1.1 E.1.2.1 E.1.2.2.2.1 (E.1.2.2.2.2 _ w1) E.2.2.2.1.2.2.1 E.2.1 hP hD hS E.2.2.1 hm hN hb (by rw [eR]; exact h1) (by rw [eR]; exact h2) d (fun q cA H1 hK1 hP hD hS => ?_)
  have hq := j_fresh hD
  have ecy := j_cyeqO (t0 := 4) hK1 rfl
  subst ecy
  have e := jw_push (X := gX G) (cy := gY G) (Z := Z) (I := I) (L := L) (q := q) (k := 17) (m := N) hq (jf_17 (cy := gY G) (Z := jnw Z q 17 N) (I := jz0 I q) (L := jzL L q) (va_up_self _ _ _))
  simp only [jnw, va_up_self] at e
  rw [e] at hP hD
  exact kk q hq H1 locs ls hl hP hD hS
theorem j_newqP (E : jE G cc own Ts nL ret rm Rt) {m : Int32} {i : Nat} (N : Nat) (hm : ¬ m < 0) (hN : m.toNatClampNeg = N) (hb : N * 4 ≤ 536870912) (w1 : Cond.classLink own i RX5 ∈ Ts) (h1 : k + 1 ≤ rm.cells) (h2 : n + N ≤ rm.slots) (d : decode cc pc = .ok (.anewarray i, 3)) (kk : ∀ q, q ∉ Z.1 → jJ G nL (pc + 3) lv (.ref q :: st) (jnw Z q 18 N) (jz0 I q) (jzL L q) (k + 1) (n + N)) : jJ G nL pc lv (.int m :: st) Z I L k n := by
  intro H locs ls hl hP hD hS
  have eR := E.2.2.2.2.2.2.1
  refine va_newq E.1.1 E.1.2.1 E.1.2.2.2.1 (E.1.2.2.2.2 _ w1) E.2.2.2.1.2.1 E.2.1 hP hD hS E.2.2.1 hm hN hb (by rw [eR]; exact h1) (by rw [eR]; exact h2) d (fun q cA H1 hK1 hP hD hS => ?_)
  have hq := j_fresh hD
  have ecy := j_cyeqO (t0 := 5) hK1 rfl
  subst ecy
  have e := jw_push (X := gX G) (cy := gY G) (Z := Z) (I := I) (L := L) (q := q) (k := 18) (m := N) hq (jf_18 (cy := gY G) (Z := jnw Z q 18 N) (I := jz0 I q) (L := jzL L q) (va_up_self _ _ _))
  simp only [jnw, va_up_self] at e
  rw [e] at hP hD
  exact kk q hq H1 locs ls hl hP hD hS
theorem j_putrF (E : jE G cc own Ts nL ret rm Rt) (hini : (gH G).name = "<init>") {i a : Nat} (c j : Nat) {C ref : String} {T : u_T} {N : Nat} {v : Nat} (hcl : vwCl[c]? = some (C, T, N)) (hN : N = jnum c) (hc : c < 13) (hj : j < N) (hin : ∀ w ∈ u_ws C T N, w ∈ Ts) (hty : ∀ k, k < N → parseFieldDescriptor (T k).2.2.1 = some (jty c k)) (hnm : ∀ a, a < N → ∀ b, b < N → a ≠ b → (T a).2.1 ≠ (T b).2.1) (ht : jref (jty c j) = true) (href : (T j).1 = ref) (hlk : Cond.fieldLink own i ref (T j).2.1 (T j).2.2.1 ∈ Ts) (hfin : (T j).2.2.2 = true) (hdecl : (T j).1 = own) (hk : jk Z a c) (d : decode cc pc = .ok (.putfield i, 3)) (kk : jJ G nL (pc + 3) lv st (jpR Z a j (some v)) I L k n) : jJ G nL pc lv (.ref v :: .ref a :: st) Z I L k n := by
  intro H locs ls hl hP hD hS
  have hD0 := hD
  obtain ⟨q, hq⟩ := jw_get (X := gX G) (cy := gY G) (I := I) (L := L) hk.1
  have hq0 := hq
  rw [jf_obj hk.2 hc] at hq
  subst hN
  have hnf : narrow (jty c j) (.ref v) = .ref v ∧ fits (jty c j) (.ref v) = true := by
    generalize jty c j = t at ht
    cases t <;> first | exact ⟨rfl, rfl⟩ | cases ht
  refine va_putF E.1.1 E.1.2.1 E.1.2.2.2.2 hin (jty c) hty hnm E.1.2.2.2.1 E.2.1 hP hD hS q hq hcl j hj (E.1.2.2.2.2 _ hlk) (by rw [href]; exact fun _ h => h) hfin hini hdecl (hty j hj) hnf.1 hnf.2 (by rw [jfs_len]; exact hj) d (fun H locs hP hD hS => ?_)
  rw [show (Value.ref v) = va_rf (some v) from rfl, jfs_setR hj ht] at hP hD
  have e := jw_set (X := gX G) (cy := gY G) (Z := Z) (Z' := jpR Z a j (some v)) (I := I) (I' := I) (L := L) (L' := L) (a := a) (q := q) (e := .inr (c, jfs c (I a) (L a) (va_up (Z.2.2.2 a) j (some v)))) hD0 hk.1 hq0 rfl (by rw [jf_obj (Z := jpR Z a j (some v)) hk.2 hc]; simp [jpR, va_up]) (fun b hb => jf_R_ne hb)
  rw [e] at hP hD
  exact kk H locs ls hl hP hD hS
theorem j_putiF (E : jE G cc own Ts nL ret rm Rt) (hini : (gH G).name = "<init>") {i a : Nat} (c j : Nat) {C ref : String} {T : u_T} {N : Nat} {v : Int32} (hcl : vwCl[c]? = some (C, T, N)) (hN : N = jnum c) (hc : c < 13) (hj : j < N) (hin : ∀ w ∈ u_ws C T N, w ∈ Ts) (hty : ∀ k, k < N → parseFieldDescriptor (T k).2.2.1 = some (jty c k)) (hnm : ∀ a, a < N → ∀ b, b < N → a ≠ b → (T a).2.1 ≠ (T b).2.1) (ht : jint (jty c j) = true) (href : (T j).1 = ref) (hlk : Cond.fieldLink own i ref (T j).2.1 (T j).2.2.1 ∈ Ts) (hfin : (T j).2.2.2 = true) (hdecl : (T j).1 = own) (hnar : narrow (jty c j) (.int v) = .int v) (hfit : fits (jty c j) (.int v) = true) (hk : jk Z a c) (d : decode cc pc = .ok (.putfield i, 3)) (kk : jJ G nL (pc + 3) lv st Z (jpI I a j v) L k n) : jJ G nL pc lv (.int v :: .ref a :: st) Z I L k n := by
  intro H locs ls hl hP hD hS
  have hD0 := hD
  obtain ⟨q, hq⟩ := jw_get (X := gX G) (cy := gY G) (I := I) (L := L) hk.1
  have hq0 := hq
  rw [jf_obj hk.2 hc] at hq
  subst hN
  refine va_putF E.1.1 E.1.2.1 E.1.2.2.2.2 hin (jty c) hty hnm E.1.2.2.2.1 E.2.1 hP hD hS q hq hcl j hj (E.1.2.2.2.2 _ hlk) (by rw [href]; exact fun _ h => h) hfin hini hdecl (hty j hj) hnar hfit (by rw [jfs_len]; exact hj) d (fun H locs hP hD hS => ?_)
  rw [jfs_setI hj ht] at hP hD
  have e := jw_set (X := gX G) (cy := gY G) (Z := Z) (Z' := Z) (I := I) (I' := jpI I a j v) (L := L) (L' := L) (a := a) (q := q) (e := .inr (c, jfs c (upd (I a) j v) (L a) (Z.2.2.2 a))) hD0 hk.1 hq0 rfl (by rw [jf_obj hk.2 hc]; simp [jpI, va_up]) (fun b hb => jf_I_ne hb)
  rw [e] at hP hD
  exact kk H locs ls hl hP hD hS
/-- a reference goes into an array of references -/
theorem j_aastK (E : jE G cc own Ts nL ret rm Rt) {a v : Nat} {i : Int32} (hk : jk Z a 17) (hi : vp_in i (jlen Z a)) (hv : jk Z v 2) (d : decode cc pc = .ok (.aastore, 1)) (kk : jJ G nL (pc + 1) lv st (jpR Z a i.toNatClampNeg (some v)) I L k n) : jJ G nL pc lv (.ref v :: .int i :: .ref a :: st) Z I L k n := by
  intro H locs ls hl hP hD hS
  have hD0 := hD
  obtain ⟨q, hq⟩ := jw_get (X := gX G) (cy := gY G) (I := I) (L := L) hk.1
  obtain ⟨qv, hqv⟩ := jw_get (X := gX G) (cy := gY G) (I := I) (L := L) hv.1
  have hq0 := hq
  rw [jf_17 hk.2] at hq
  rw [jf_obj hv.2 (by decide)] at hqv
  refine va_astq E.1.1 E.1.2.1 E.2.1 hP hD hS q 4 qv 2 (r := (RX2, TX2, jnum 2)) hq rfl hqv rfl hi d (fun H locs hP hD hS => ?_)
  have e := jw_set (X := gX G) (cy := gY G) (Z := Z) (Z' := jpR Z a i.toNatClampNeg (some v)) (I := I) (I' := I) (L := L) (L' := L) (a := a) (q := q) hD0 hk.1 hq0 rfl (by rw [jf_17 (Z := jpR Z a i.toNatClampNeg (some v)) hk.2]) (fun b hb => jf_R_ne hb)
  simp only [jpR, va_up_self] at e
  rw [e] at hP hD
  exact kk H locs ls hl hP hD hS
theorem j_aastP (E : jE G cc own Ts nL ret rm Rt) {a v : Nat} {i : Int32} (hk : jk Z a 18) (hi : vp_in i (jlen Z a)) (hv : jk Z v 5) (d : decode cc pc = .ok (.aastore, 1)) (kk : jJ G nL (pc + 1) lv st (jpR Z a i.toNatClampNeg (some v)) I L k n) : jJ G nL pc lv (.ref v :: .int i :: .ref a :: st) Z I L k n := by
  intro H locs ls hl hP hD hS
  have hD0 := hD
  obtain ⟨q, hq⟩ := jw_get (X := gX G) (cy := gY G) (I := I) (L := L) hk.1
  obtain ⟨qv, hqv⟩ := jw_get (X := gX G) (cy := gY G) (I := I) (L := L) hv.1
  have hq0 := hq
  rw [jf_18 hk.2] at hq
  rw [jf_obj hv.2 (by decide)] at hqv
  refine va_astq E.1.1 E.1.2.1 E.2.1 hP hD hS q 5 qv 5 (r := (RX5, TX5, jnum 5)) hq rfl hqv rfl hi d (fun H locs hP hD hS => ?_)
  have e := jw_set (X := gX G) (cy := gY G) (Z := Z) (Z' := jpR Z a i.toNatClampNeg (some v)) (I := I) (I' := I) (L := L) (L' := L) (a := a) (q := q) hD0 hk.1 hq0 rfl (by rw [jf_18 (Z := jpR Z a i.toNatClampNeg (some v)) hk.2]) (fun b hb => jf_R_ne hb)
  simp only [jpR, va_up_self] at e
  rw [e] at hP hD
  exact kk H locs ls hl hP hD hS
theorem j_objinit (E : jE G cc own Ts nL ret rm Rt) {i a : Nat} (w1 : Cond.methodLink own i Lib.objectInit ∈ Ts) (w2 : Cond.instanceMethod Lib.objectInit ∈ Ts) (w3 : Cond.code Lib.objectInit ⟨#[0xb1]⟩ 1 none ∈ Ts) (h1 : 1 ≤ rm.frames) (h2 : (st.map fun v => v.category).sum + 12 ≤ rm.locals) (d : decode cc pc = .ok (.invokespecial i, 3)) (kk : jJ G nL (pc + 3) lv st Z I L k n) : jJ G nL pc lv (.ref a :: st) Z I L k n := by
  intro H locs ls hl hP hD hS
  have eR := E.2.2.2.2.2.2.1
  refine W.objInit E.1.1 E.1.2.1 E.1.2.2.2.1 (E.1.2.2.2.2 _ w1) (E.1.2.2.2.2 _ w2) (E.1.2.2.2.2 _ w3) rfl (by rw [E.1.2.2.1]; exact hl.1) rfl d (by rw [eR]; exact h1) (by rw [eR]; show 2 * 0 + _ + 12 ≤ _; omega) (kk H locs ls hl hP hD hS)
theorem j_callI (E : jE G cc own Ts nL ret rm Rt) {y : MethodName} {ws ws' : List Cond} {rm' : Room} {bytes : ByteArray} {maxL : Nat} {i b na : Nat} {Rt' : jRt} (As rest : List Value)
    (hM : jCt (gL G) y ws rm' (gD G) (gY G) (.ref b :: As) Z I L Rt') (hg : GoodIn Ts ws) (hw : ws = Cond.code y bytes maxL none :: ws') (hini : Cond.initialized y.cls ∈ Ts) (hlk : Cond.methodLink own i y ∈ Ts) (hinst : Cond.instanceMethod y ∈ Ts) (hy1 : y.name = "<init>")
    (hd : y.cls ≠ "java/lang/invoke/MethodHandle" ∧ y.cls ≠ "java/lang/invoke/VarHandle" ∧ (parseMethodDescriptor y.desc).map (fun d => d.parameters.length) = some na)
    (hR : rm'.frames + 1 ≤ rm.frames ∧ 8 + (maxL + 11) + rm'.locals ≤ rm.locals) (hn : As.length = na) (hst : st = As.reverse ++ .ref b :: rest) (hcat : (rest.map fun v => v.category).sum ≤ 8)
    (hf : k + rm'.cells ≤ rm.cells ∧ n + rm'.slots ≤ rm.slots) (d : decode cc pc = .ok (.invokespecial i, 3))
    (kk : ∀ v Z' I' L', Rt' v Z' I' L' → jJ G nL (pc + 3) lv (v.toList ++ rest) Z' I' L' (k + rm'.cells) (n + rm'.slots)) : jJ G nL pc lv st Z I L k n := by
  intro H locs ls hl hP hD hS
  have eR := E.2.2.2.2.2.2.1
  have hrun := va_runI (p := gP G) (l := gL G) (e := gE G) (R := gR G) (s := gS G) (m := gM G) (args := gV G) (below := gB G) (meth := gH G) (c := gC G) (H := H) (locs := locs) (cells := k) (slots := n) (g := F0 (gM G) pc ls st) (As := As) (rest := rest) E.1 (hM H.size) (cwI na E.1.2.2.2.2 hg hw rfl rfl (E.1.2.2.2.2 _ hini) (E.1.2.2.2.2 _ hlk) (E.1.2.2.2.2 _ hinst) hy1 hd (by rw [eR]; exact hR))
    ⟨jP_blind, fun U hU hW => ⟨rfl, by rw [hU], by rw [hU]; exact j_cutP hP, va_K.moved hW.alike E.2.1, (j_cutD hD).weaken (fun _ _ _ _ => trivial), jN_warm hW E.2.2.2.1⟩⟩ rfl hn hl.1 hst (lv_room hcat) d (by rw [eR]; exact hf)
  exact j_back E hrun hl hP hD hS kk
theorem j_callIN (E : jE G cc own Ts nL ret rm Rt) {y : MethodName} {ws ws' : List Cond} {rm' : Room} {bytes : ByteArray} {maxL : Nat} {host : String} {i b na : Nat} {Rt' : jRt} (As rest : List Value)
    (hM : jCt (gL G) y ws rm' (gD G) (gY G) (.ref b :: As) Z I L Rt') (hg : GoodIn Ts ws) (hw : ws = Cond.code y bytes maxL none :: ws') (hlk : Cond.methodLinkNest own i y host ∈ jnest) (hini : Cond.initialized y.cls ∈ Ts) (hinst : Cond.instanceMethod y ∈ Ts) (hy1 : y.name = "<init>")
    (hd : y.cls ≠ "java/lang/invoke/MethodHandle" ∧ y.cls ≠ "java/lang/invoke/VarHandle" ∧ (parseMethodDescriptor y.desc).map (fun d => d.parameters.length) = some na)
    (hR : rm'.frames + 1 ≤ rm.frames ∧ 8 + (maxL + 11) + rm'.locals ≤ rm.locals) (hn : As.length = na) (hst : st = As.reverse ++ .ref b :: rest) (hcat : (rest.map fun v => v.category).sum ≤ 8)
    (hf : k + rm'.cells ≤ rm.cells ∧ n + rm'.slots ≤ rm.slots) (d : decode cc pc = .ok (.invokespecial i, 3))
    (kk : ∀ v Z' I' L', Rt' v Z' I' L' → jJ G nL (pc + 3) lv (v.toList ++ rest) Z' I' L' (k + rm'.cells) (n + rm'.slots)) : jJ G nL pc lv st Z I L k n := by
  intro H locs ls hl hP hD hS
  have eR := E.2.2.2.2.2.2.1
  have hrun := va_runIN (p := gP G) (l := gL G) (e := gE G) (R := gR G) (s := gS G) (m := gM G) (args := gV G) (below := gB G) (meth := gH G) (c := gC G) (H := H) (locs := locs) (cells := k) (slots := n) (g := F0 (gM G) pc ls st) (As := As) (rest := rest) E.1 (hM H.size) ⟨va_cnB na E.1.2.2.2.2 hg hw rfl rfl (E.2.2.2.1.1 _ hlk) (E.1.2.2.2.2 _ hini) hd (by rw [eR]; exact hR), hy1, E.1.2.2.2.2 _ hinst⟩
    ⟨jP_blind, fun U hU hW => ⟨rfl, by rw [hU], by rw [hU]; exact j_cutP hP, va_K.moved hW.alike E.2.1, (j_cutD hD).weaken (fun _ _ _ _ => trivial), jN_warm hW E.2.2.2.1⟩⟩ rfl hn hl.1 hst (lv_room hcat) d (by rw [eR]; exact hf)
  exact j_back E hrun hl hP hD hS kk
/-- a constructor's contract, from the walk of its body -/
theorem jCt_ofI {l : Launch} {y : MethodName} {ws ws' : List Cond} {rm : Room} {D : va_G} {cy : jC} {as : List Value} {Rt : jRt} {cc : ByteArray} {maxL : Nat} {ret : Option FieldType} (hy : plainName y.cls = true) (hw : ws = Cond.code y cc maxL ret :: ws') (hlen : (lg_sl as).length ≤ maxL)
    (h : ∀ G : jG, gD G = D → gY G = cy → gL G = l → (gH G).name = y.name → jE G cc y.cls ws maxL ret rm Rt → jJ G maxL 0 (lv_args 0 as) [] Z I L 0 0) : jCt l y ws rm D cy as Z I L Rt := by
  intro sz
  refine Met.ofW (cc := cc) (maxL := maxL) (ret := ret) hy hw ?_
  intro p e s m args below meth c s₁ B hml hv
  obtain ⟨rfl, hsz, hP, hK, hD0, hN⟩ := hv
  subst hsz
  have hD := hD0.self (sz := s.heap.size)
  have hown : s.vm.findClass y.cls = some m.cls := findClass_of_methodNamed B.named
  have hl := lv_entry as (n := maxL) hlen
  rw [lg_entry_eq]
  generalize (lg_sl as ++ List.replicate (maxL - (lg_sl as).length) Slot.unset).toArray = ls at hl ⊢
  have key := h ((p, l, e, (headSpec ws rm).room, s, m, as.toArray, below, meth, c), D, cy, [], va_A (jw cy Z I L) s.heap.size, MQ below (jQ D cy Rt (va_A (jw cy Z I L) s.heap.size)) as.toArray s rm.cells rm.slots (va_A (jw cy Z I L) s.heap.size)) rfl rfl rfl (name_of_methodNamed B.named B.method).1
    ⟨⟨B.exec, B.bytes, hml, hown, atoms_spec (ws := ws) B.pre⟩, hK, fun q h => Or.inr h, hN, B.returns, B.notSynchronized, rfl, fun _ h => h⟩
  exact key s.heap [] ls hl hP hD va_S.rf
end JNEW
/-! ===== new byte[2][40] ===== -/
theorem jw_pushG {X : va_W} {cy : jC} {Z Z' : jZ} {I I' : jI} {L L' : jL} {q : Nat} {e : va_E} (hq : q ∉ Z.1) (h1 : Z'.1 = Z.1 ++ [q]) (he : jf cy Z' I' L' q = e) (ho : ∀ b, b ≠ q → jf cy Z' I' L' b = jf cy Z I L b) : (X ++ jw cy Z I L) ++ [(q, e)] = X ++ jw cy Z' I' L' := by
  unfold jw
  rw [List.append_assoc, va_pl_push hq, h1]
  congr 1
  apply va_pl_congr
  intro b
  by_cases hb : b = q
  · subst hb
    rw [va_up_self, he]
  · rw [va_up_ne _ _ hb, ho b hb]
section JMNA
variable {G : jG} {cc : ByteArray} {own : String} {Ts : List Cond} {nL : Nat} {ret : Option FieldType} {rm : Room} {Rt : jRt} {pc : Nat} {lv : List (Nat × Value)} {st : List Value} {Z : jZ} {I : jI} {L : jL} {k n : Nat}
/-- the two rows, the row of rows, and what it holds -/
abbrev jnw2 (Z : jZ) (r0 r1 q : Nat) : jZ := jpR (jpR (jnw (jnw (jnw Z r0 13 40) r1 13 40) q 19 2) q 0 (some r0)) q 1 (some r1)
abbrev jz2 (I : jI) (r0 r1 q : Nat) : jI := jz0 (jz0 (jz0 I r0) r1) q
abbrev jzL2 (L : jL) (r0 r1 q : Nat) : jL := jzL (jzL (jzL L r0) r1) q
theorem j_mna (E : jE G cc own Ts nL ret rm Rt) {i : Nat} (w1 : Cond.classLink own i "[[B" ∈ Ts) (w2 : Cond.arrayClass .byte ∈ Ts) (h1 : k + 3 ≤ rm.cells) (h2 : n + 82 ≤ rm.slots) (d : decode cc pc = .ok (.multianewarray i 2, 4)) (kk : ∀ r0 r1 q, r0 ∉ Z.1 → r1 ∉ (jnw Z r0 13 40).1 → q ∉ (jnw (jnw Z r0 13 40) r1 13 40).1 → jJ G nL (pc + 4) lv (.ref q :: st) (jnw2 Z r0 r1 q) (jz2 I r0 r1 q) (jzL2 L r0 r1 q) (k + 1 + 2) (n + 2 + 2 * 40)) : jJ G nL pc lv (.int 40 :: .int 2 :: st) Z I L k n := by
  intro H locs ls hl hP hD hS
  have eR := E.2.2.2.2.2.2.1
  have hcy : (gS G).vm.findClass (FieldType.array .byte).toString = some (gY G).1 := (E.2.1.2 0 ((gY G).1, .byte) rfl).2
  refine va_mna (X := gX G) (L := Z.1) (f := jf (gY G) Z I L) (ty := .byte) (cy := (gY G).1) (N' := 2) (K' := 40) (z := (40, .inl (fun _ => 0))) E.1.1 E.1.2.1 E.1.2.2.2.1 (E.1.2.2.2.2 _ w1) E.2.2.2.1.2.2.2 (E.1.2.2.2.2 _ w2) hcy E.2.1 hP hD hS E.2.2.1 (by decide) (by decide) (by decide) (by decide) (by decide) (by decide) (by decide) (by decide) (by decide) (by rw [eR]; exact h1) (by rw [eR]; exact h2) ?_ d ?_
  · intro c
    rw [vp_cell_i]
    simp [Jvm.Free.Multi.innerC, arrV_new]
    rfl
  · intro q r cA H1 hinj hnew hK1 hP hD hS
    have hcA : cA = (gY G).2.2.2.2.2.2 := j_cyeq (t0 := 6) hK1 rfl (fun C h => by cases h)
    subst hcA
    have hr0 : r 0 ∉ Z.1 := hnew 0 (by decide)
    have hr1 : r 1 ∉ Z.1 := hnew 1 (by decide)
    have hne : r 1 ≠ r 0 := fun h => by have := hinj 1 0 (by decide) (by decide) h; omega
    have hP := va_P.swap hP
    have hD := va_D.swap hD
    have ew : va_pl (Z.1 ++ (List.range 2).map r) (vr_up (jf (gY G) Z I L) ((List.range 2).map r) (.inl ((gY G).1, 40, .inl (fun _ => 0)))) = jw (gY G) (jnw (jnw Z (r 0) 13 40) (r 1) 13 40) (jz0 (jz0 I (r 0)) (r 1)) (jzL (jzL L (r 0)) (r 1)) := by
      have e1 := jw_push (X := []) (cy := gY G) (Z := Z) (I := I) (L := L) (q := r 0) (k := 13) (m := 40) hr0 (jf_13 (va_up_self _ _ _))
      have e2 := jw_push (X := []) (cy := gY G) (Z := jnw Z (r 0) 13 40) (I := jz0 I (r 0)) (L := jzL L (r 0)) (q := r 1) (k := 13) (m := 40) (fun h => (List.mem_append.mp h).elim hr1 (fun h => hne (List.mem_singleton.mp h))) (jf_13 (va_up_self _ _ _))
      simp only [List.nil_append] at e1 e2
      rw [← e2, ← e1]
      simp only [jnw, jz0, va_up_self]
      show va_pl (Z.1 ++ [r 0, r 1]) _ = va_pl Z.1 _ ++ [_] ++ [_]
      rw [List.append_assoc, va_pl, List.map_append]
      congr 1
      · apply List.map_congr_left
        intro a ha
        rw [vr_up_ne]
        intro h
        rcases List.mem_cons.mp h with h | h
        · exact hr0 (h ▸ ha)
        · exact hr1 (List.mem_singleton.mp h ▸ ha)
      · show [(r 0, _), (r 1, _)] = [(r 0, _), (r 1, _)]
        rw [vr_up_in (show r 0 ∈ List.map r (List.range 2) from List.mem_map.mpr ⟨0, by decide, rfl⟩), vr_up_in (show r 1 ∈ List.map r (List.range 2) from List.mem_map.mpr ⟨1, by decide, rfl⟩)]
    rw [ew] at hP hD
    have hq := j_fresh hD
    have e3 := jw_pushG (X := gX G) (cy := gY G) (Z := jnw (jnw Z (r 0) 13 40) (r 1) 13 40) (Z' := jnw2 Z (r 0) (r 1) q) (I := jz0 (jz0 I (r 0)) (r 1)) (I' := jz2 I (r 0) (r 1) q) (L := jzL (jzL L (r 0)) (r 1)) (L' := jzL2 L (r 0) (r 1) q) (q := q) (e := .inl ((gY G).2.2.2.2.2.2, 2, .inr (.inr (.inr (.inr (fun i => if i < 2 then some (r i) else none)))))) hq rfl (by
        rw [jf_19 (Z := jnw2 Z (r 0) (r 1) q) (va_up_self _ _ _)]
        have e4 : (jnw2 Z (r 0) (r 1) q).2.2.2 q = fun i => if i < 2 then some (r i) else none := by
          funext j
          simp only [jnw2, jpR, va_up_self]
          rcases (show j = 0 ∨ j = 1 ∨ 2 ≤ j by omega) with rfl | rfl | hj
          · simp [va_up]
          · simp [va_up]
          · simp [va_up, show ¬ j < 2 by omega, show j ≠ 0 by omega, show j ≠ 1 by omega]
        rw [e4]
        simp only [jnw2, jpR, jnw, va_up_self]) (fun b hb => by simp [jf, jnw2, jpR, jnw, jz2, jzL2, jz0, jzL, va_up_ne _ _ hb])
    rw [e3] at hP hD
    exact kk (r 0) (r 1) q hr0 (fun h => (List.mem_append.mp h).elim hr1 (fun h => hne (List.mem_singleton.mp h))) hq H1 locs ls hl hP hD hS
end JMNA
end
section
/-! ===== throws of a class whose own constructor passes on by another link than the library's rows know ===== -/
section VY
variable {p : Program} {l : Launch} {e : Env} {R : Room} {s : State} {m : MethodId} {args : Array Value} {below : List Frame} {meth : Method} {c : Code} {H : Heap} {locs : List Loc} {cells slots : Nat} {Q : State → Prop}
set_option maxHeartbeats 1000000 in
/-- 'new X(msg)' is run and thrown: stack traces off, X's constructor by its own bytes -/
theorem vy_ctor {V : State} (X : Stand p l e R s m args below meth c V locs cells slots) (hexec : p.tables.exec = Jvm.exec) (htr : e.platform.stackTraces = false) {own cls : String} {names : List String} {ic ix : Nat} {rx : ByteArray}
    (x0 : decode rx 0 = .ok (.aload_n 0, 1)) (x1 : decode rx 1 = .ok (.aload_n 1, 1)) (x2 : decode rx 2 = .ok (.invokespecial ix, 3)) (x5 : decode rx 5 = .ok (.return_, 1))
    (hown : s.vm.findClass own = some m.cls) (hcls : Bundle.fit cls = true) (hnames : ∀ n ∈ names, Bundle.fit n = true) (h : ∀ a ∈ Bundle.ownAtomsX own ic cls ix rx names, a.before args s = true)
    (hlocs : ∀ x ∈ locs, ∀ cell, s.heap[x.base]? = some cell → cell.vm.isStatics = false)
    {a : Addr} {cX : ClassId} {kX : Class} (hfX : s.vm.findClass cls = some cX) (hkX : s.vm.classes[cX]? = some kX) (hcell : V.heap[a]? = some (freshCell cX kX)) (hnew : s.heap.size ≤ a) {msg : Value} (hmsg : msg.isRef = true)
    {g : JFrame} (hg : g.method = m) (hsize : g.locals.size = c.maxLocals) (hlk : g.locked = none) (hen : g.entered = []) {rest : List Value} (hstack : g.stack = msg :: .ref a :: .ref a :: rest)
    (hd6 : decode c.code g.pc = .ok (.invokespecial ic, 3)) (hd9 : decode c.code (g.pc + 3) = .ok (.athrow, 1)) (hout : ∀ x ∈ c.exceptionTable.toList, covers x (g.pc + 3) = false)
    (hRf : names.length + 3 < R.frames) (hRl : 2 * g.monitorRoom + ((Value.ref a :: rest).map fun v => v.category).sum + (13 * (names.length + 1) + 42) ≤ R.locals) (hlocks : meth.locks = false) :
    ∃ U : State, Steps p.tables e below (V.setTop g) U ∧ U.status = .running ∧ Ended U below (.threw a) ∧ s.WarmedH U.vm ∧ s.sameButNew ({ U with vm := s.vm } : State) locs cells slots ∧
      ∃ ce, U.heap[a]? = some ce ∧ ce.vm = .none ∧ s.vm.findClass cls = some ce.cls := by
  have hpf := X.admits.platform
  have hpl : e.platform.magicAccessors = ({} : Platform).magicAccessors := by rw [hpf]
  have hh : ∀ x, x ∈ Bundle.ownAtomsX own ic cls ix rx names → x.holds args s none s [] = true := fun x hx => h x hx
  obtain ⟨T, Z0, L, -, Y⟩ := ThrowableC.of_atoms (args := args) (by rw [hpf]) (by rw [hpf]) hpl (fun x hx => h x (by simp [Bundle.ownAtomsX, hx]))
  obtain ⟨Z, M, LZ, LM, hnZ⟩ := Init0T.ofS_atoms (args := args) hpl L Y (fun x hx => h x (by simp [Bundle.ownAtomsX, hx]))
  obtain ⟨P1, Ps, hlen, L1, hL, hP1, hk1, hk2⟩ := Bundle.chainSX (args := args) hpl hnZ x0 x1 x2 x5 names cls hcls hnames (fun x hx => h x (by simp [Bundle.ownAtomsX, hx]))
  have hfd : s.vm.findClass cls = some P1.m.cls := findClass_of_methodNamed hP1
  cases Option.some.inj (hfX.symm.trans hfd)
  obtain ⟨c1, k1, hc1, hk, hord, -⟩ := Cond.instantiable_spec (hh (.instantiable cls 6) (by simp [Bundle.ownAtomsX]))
  cases Option.some.inj (hc1.symm.trans hfd)
  cases Option.some.inj (hkX.symm.trans hk)
  have sel : ∀ (y : MethodName) (q : MethodId), Cond.selects cls y y ∈ Bundle.ownAtomsX own ic cls ix rx names → s.methodNamed? y = some q → s.methodFound? y.cls y.name y.desc = some q → selectMethod e.platform s.vm P1.m.cls q = .method q := by
    intro y q hy h1 h2
    obtain ⟨c2, r2, m2, q1, q2, q3, q4, -⟩ := Cond.selects_spec (hh _ hy)
    cases Option.some.inj (q1.symm.trans hfd)
    cases Option.some.inj (q2.symm.trans h2)
    cases Option.some.inj (q3.symm.trans h1)
    rw [Launch.admits_selectMethod X.admits]
    exact q4
  have hs0 := sel Bundle.tFill0 T.fill0 (by simp [Bundle.ownAtomsX]) Y.fill0 (State.methodFound?_of_named Y.fill0 (by decide))
  have hsF := sel Bundle.tFill T.fill (by simp [Bundle.ownAtomsX]) Y.fill (State.methodFound?_of_named Y.fill (by decide))
  obtain ⟨cS0, hcS0, hiss⟩ := Y.statics
  obtain ⟨u0, hu0⟩ := Cond.staticRefV Y.unassigned L.unassignedStatic L.statics hcS0 hiss (hh (.isRef (.static Bundle.tN "UNASSIGNED_STACK" Bundle.steD)) (by simp [Bundle.ownAtomsX]))
  obtain ⟨sen, hsen⟩ := Cond.staticRefV Y.sentinel L.sentinelStatic L.statics hcS0 hiss (hh (.isRef (.static Bundle.tN "SUPPRESSED_SENTINEL" Bundle.listD)) (by simp [Bundle.ownAtomsX]))
  obtain ⟨cb, ib, fB, hb1, hb2, hb3, hb4, -, hnB, htB, hffB⟩ := Cond.ownField (t := .object "java/lang/Object") Y.found L.cls (by decide +kernel) (hh (.fieldLink Bundle.tN 198 Bundle.tN "backtrace" "Ljava/lang/Object;") (by simp [Bundle.ownAtomsX])) (hh (.lays Bundle.tN Bundle.tN "backtrace" "Ljava/lang/Object;") (by simp [Bundle.ownAtomsX])) e.platform hpl
  obtain ⟨cS, hcS, heS, -, hkeep⟩ := X.same.2.2.2.2.2 T.aS cS0 hcS0
  have hcS' : V.heap[T.aS]? = some cS := hcS
  have hoff : ∀ i, (⟨T.aS, i⟩ : Loc) ∉ locs := fun i hm => by
    have := hlocs _ hm cS0 hcS0
    rw [hiss] at this
    cases this
  have hkn : cS.vm ≠ .unknown := by
    rw [heS]
    intro hu
    rw [show cS0.vm = .unknown from hu] at hiss
    cases hiss
  have hne : T.aS ≠ a := Nat.ne_of_lt (Nat.lt_of_lt_of_le (Array.getElem?_eq_some_iff.mp hcS0).1 hnew)
  obtain ⟨iM, hffM⟩ := Y.msg
  obtain ⟨tC, dC, hdC, nC⟩ := Cond.laysAt hfd hk Y.cause (hh (.lays cls Bundle.tN "cause" "Ljava/lang/Throwable;") (by simp [Bundle.ownAtomsX]))
  obtain ⟨tS, dS, hdS, nS⟩ := Cond.laysAt hfd hk Y.stack (hh (.lays cls Bundle.tN "stackTrace" Bundle.steD) (by simp [Bundle.ownAtomsX]))
  obtain ⟨tP, dP, hdP, nP⟩ := Cond.laysAt hfd hk Y.supp (hh (.lays cls Bundle.tN "suppressedExceptions" Bundle.listD) (by simp [Bundle.ownAtomsX]))
  obtain ⟨tM, dM, hdM, nM⟩ := Cond.laysAt hfd hk hffM (hh (.lays cls Bundle.tN "detailMessage" "Ljava/lang/String;") (by simp [Bundle.ownAtomsX]))
  obtain ⟨tB, dB, hdB, nB⟩ := Cond.laysAt hfd hk hffB (hh (.lays cls Bundle.tN "backtrace" "Ljava/lang/Object;") (by simp [Bundle.ownAtomsX]))
  have bC := Cond.laysApart hdB hdC nB nC (by rw [hnB, Y.causeName]; decide)
  have bS := Cond.laysApart hdB hdS nB nS (by rw [hnB, Y.stackName]; decide)
  have bP := Cond.laysApart hdB hdP nB nP (by rw [hnB, Y.suppName]; decide)
  have hskip : SkipFacts T e.platform s (fun u => u) u0 ((preparedCellV T.toThrowableT (freshCell P1.m.cls kX) a u0 sen).withEntry V.cur) := by
    refine ⟨{ ci198 := cb, i198 := ib, fBack := fB }, ⟨hb1, hb2, hb3, hb4⟩, ?_, fun _ _ => rfl⟩
    have := fresh_default (c := P1.m.cls) tB
    rw [htB] at this
    simpa [preparedCellV, Cell.setSlot, Cell.withEntry, Array.getElem?_setIfInBounds, bC, bS, bP, bC.symm, bS.symm, bP.symm, defaultValue] using this
  obtain ⟨tm, mC, cC, kC, vm₁, hnC, -, -, -, -, -, -, -, hW₁, st1⟩ := Steps.initColdS (tb := p.tables) (e := e) (below := below) (s := s) (U := V) X.here hexec X.warmed hpl hown (t := Bundle.initS cls) rfl rfl (Bundle.fit_spec hcls).2
    (hh (.methodLink own ic (Bundle.initS cls)) (by simp [Bundle.ownAtomsX])) (h (.instanceMethod (Bundle.initS cls)) (by cases names <;> simp [Bundle.ownAtomsX, Bundle.chainSAtomsX, Bundle.passSAtoms])) (bytes := rx) (maxL := 2) (h (.code (Bundle.initS cls) rx 2 none) (by cases names <;> simp [Bundle.ownAtomsX, Bundle.chainSAtomsX, Bundle.passSAtoms]))
    (f := g) hg (a := a) (msg := msg) (rest := .ref a :: rest) hstack hd6
  cases Option.some.inj (hnC.symm.trans hP1)
  have X₁ := X.noted hW₁
  obtain ⟨vm₂, X₂, st2⟩ := X₁.ctorMessageOffV hexec (g := { g with stack := .ref a :: rest }) hg hsize T L Z LZ M LM (P1 :: Ps)
    (fun P hP => by rcases List.mem_cons.mp hP with rfl | hP; exact L1; exact hL P hP) ⟨hk1, hk2⟩ (u0 := u0) (sen := sen) (self := a) hmsg (cell := freshCell P1.m.cls kX) (cellS := cS)
    hcell (fun _ => by simp) (by simp) rfl rfl hs0 hsF hcS' hne hkn (by rw [hkeep _ (hoff _)]; exact hu0) (by rw [hkeep _ (hoff _)]; exact hsen)
    (Takes.of_laid hk hord tC (by rw [Y.causeType]; rfl)) (Takes.of_laid hk hord tS (by rw [Y.stackType]; exact fits_refV_array _ u0)) (Takes.of_laid hk hord tP (by rw [Y.suppType]; exact fits_refV_object _ sen))
    (Takes.of_laid hk hord tM (by rw [Y.msgType]; exact fits_refV_object _ ⟨msg, hmsg⟩)) Y.objLocals hskip htr [] hd6
    (by simp only [List.length_cons, hlen]; omega) (by simp only [List.length_cons, hlen]; exact hRl)
  obtain ⟨hwalk, hrun, hend, hWU, hsame⟩ := X₂.athrowLeaves hexec (g := { g with stack := .ref a :: rest, pc := g.pc + 3 }) hg hlk hen hout (a := a) (rest := rest) rfl hd9
  have hlt : a < ((V.setVm vm₁).setVm vm₂).heap.size := (Array.getElem?_eq_some_iff.mp hcell).1
  have hU := heapAt_setCell_self (s := (V.setVm vm₁).setVm vm₂) (plainBareV T.toThrowableT (freshCell P1.m.cls kX) a u0 sen msg) hlt
  refine ⟨_, st1 _ (fun acts => ?_), hrun, hend, hWU, hsame.weaken (fun y hy hy' => ?_) (Nat.le_refl _) (Nat.le_refl _), _, hU, rfl, hfd⟩
  · rw [doInvoke_state]
    exact st2 _ hwalk
  · rcases List.mem_append.mp hy with h1 | h1
    · exact h1
    · have hb : y.base = a := by
        simp only [List.mem_cons, List.not_mem_nil, or_false] at h1
        rcases h1 with rfl | rfl | rfl | rfl | rfl <;> rfl
      rw [hb] at hy'
      exact absurd hy' (Nat.not_lt.mpr hnew)
/-- 'throw new X("text")' out of a body; the text by a short or a wide index -/
theorem vy_throw {Qc : Array Value → State → Outcome → State → Prop} {XC : String → State → State → Prop} {free : Addr → Prop} {ls : Array Slot} {rest : List Value} {cc : ByteArray} {pc w : Nat} (hexec : p.tables.exec = Jvm.exec) (hb : c.code = cc) (hl : l.stackTraces = false) {own cls text : String} {names : List String} {ik is ic ix mc ms sa : Nat} {rx : ByteArray} {A : Nat → Prop}
    (x0 : decode rx 0 = .ok (.aload_n 0, 1)) (x1 : decode rx 1 = .ok (.aload_n 1, 1)) (x2 : decode rx 2 = .ok (.invokespecial ix, 3)) (x5 : decode rx 5 = .ok (.return_, 1))
    (hown : s.vm.findClass own = some m.cls) (hcls : Bundle.fit cls = true) (hnames : ∀ n ∈ names, Bundle.fit n = true)
    (hk : (Cond.classLink own ik cls).before args s = true) (gk : vx_ot (Cond.classLink own ik cls) = true) (hini : (Cond.initialized cls).before args s = true) (gi : vx_ot (Cond.initialized cls) = true) (hstr : vk_R own is text sa s) (hat : ∀ w ∈ (Bundle.ownAtomsX own ic cls ix rx names).filter vx_no, w.before args s = true)
    (hgood : ∀ w ∈ (Bundle.ownAtomsX own ic cls ix rx names).filter vx_no, vx_ot w = true)
    (hU : vx_Zq Bundle.tN "UNASSIGNED_STACK" Bundle.steD A s s.heap) (hN : vx_Zq Bundle.tN "SUPPRESSED_SENTINEL" Bundle.listD A s s.heap) (hS : va_S A s.heap H locs) (hsize : ls.size = c.maxLocals)
    (d0 : decode cc pc = .ok (.new ik, 3)) (d3 : decode cc (pc + 3) = .ok (.dup, 1)) (d4 : (decode cc (pc + 4) = .ok (.ldc is, 2) ∧ w = 6) ∨ (decode cc (pc + 4) = .ok (.ldc_w is, 3) ∧ w = 7)) (d6 : decode cc (pc + w) = .ok (.invokespecial ic, 3)) (d9 : decode cc (pc + w + 3) = .ok (.athrow, 1))
    (hout : ∀ x ∈ c.exceptionTable.toList, covers x (pc + w + 3) = false)
    (hRf : names.length + 3 < R.frames) (hRl : (rest.map fun v => v.category).sum + (13 * (names.length + 1) + 43) ≤ R.locals) (hRc : cells + 1 ≤ R.cells) (hRs : slots + 6 ≤ R.slots) (hlocks : meth.locks = false)
    (hx : ∀ t : State, s.vm.Alike t.vm → H.size ≤ t.heap.size → (∀ q : Nat, q < H.size → t.heap[q]? = H[q]?) → XC cls s t)
    (hf : ∀ z ∈ locs, free z.base) (hc : cells + 1 ≤ mc) (hs : slots + 6 ≤ ms) :
    W p l e R s m args below meth c H locs cells slots (vx_MQ below Qc XC args s mc ms free) (F0 m pc ls rest) := by
  intro T hT X
  have htr : e.platform.stackTraces = false := (show e.platform.stackTraces = l.stackTraces by rw [X.admits.platform]).trans hl
  have Y := vx_rebase X (R' := { frames := R.frames, locals := R.locals, cells := 1, slots := 6 }) (Nat.le_refl _) (Nat.le_refl _) hRc hRs
  obtain ⟨s', hA⟩ : ∃ z, z = (T.setVm s.vm).setFrames (.invoking m args :: below) := ⟨_, rfl⟩
  rw [← hA] at Y
  have hvm : s'.vm = s.vm := by rw [hA]; rfl
  have hhp : s'.heap = H := by rw [hA]; exact hT
  have hW0 : s.WarmedH s'.vm := by rw [hvm]; exact State.WarmedH.refl s
  have hk' : (Cond.classLink own ik cls).before args s' = true := vx_ot_at hW0 hvm.symm gk hk
  have hini' : (Cond.initialized cls).before args s' = true := vx_ot_at hW0 hvm.symm gi hini
  have hU' : vx_Zq Bundle.tN "UNASSIGNED_STACK" Bundle.steD A s' s'.heap := by rw [hhp]; exact vx_Zq.moved hW0.alike (hU.kept hS.2.1)
  have hN' : vx_Zq Bundle.tN "SUPPRESSED_SENTINEL" Bundle.listD A s' s'.heap := by rw [hhp]; exact vx_Zq.moved hW0.alike (hN.kept hS.2.1)
  have h : ∀ w ∈ Bundle.ownAtomsX own ic cls ix rx names, w.before args s' = true := vx_own (fun w hw => vx_ot_at hW0 hvm.symm (hgood w hw) (hat w hw)) (vx_isRefq hU'.1) (vx_isRefq hN'.1) hU'.2.word hN'.2.word
  have hown' : s'.vm.findClass own = some m.cls := by rw [hvm]; exact hown
  have hins : (Cond.instantiable cls 6).before args s' = true := h _ (by simp [Bundle.ownAtomsX])
  obtain ⟨vm₁, cX, kX, hfX, hkX, -, -, X₁, st1⟩ := Y.newCold hexec (own := own) (C := cls) (index := ik) (n := 6) hown' hk' hins hini'
    (g := F0 m pc ls rest) rfl (by rw [hb]; exact d0) (Nat.le_refl _) (Nat.le_refl _)
  generalize hT1 : (T.setVm vm₁).pushCell { cls := cX, slots := kX.instanceTypes.map defaultValue, vm := .none } = T1 at X₁ st1
  have hcat : (Value.ref T.heap.size).category = 1 := rfl
  have hcellA : T1.heap[T.heap.size]? = some (freshCell cX kX) := by rw [← hT1]; exact State.heap_pushCell_size _ _
  have d3' : decode c.code (pc + 3) = .ok (.dup, 1) := by rw [hb]; exact d3
  have hstr' : vk_R own is text sa s' := vk_R.warm hW0 hstr
  obtain ⟨U, hsteps, hrun, hend, hW, hsame, ce, hce, hO, hcl⟩ := vy_ctor X₁ hexec htr (own := own) (cls := cls) (names := names) (ic := ic) x0 x1 x2 x5 hown' hcls hnames h (fun x hx => nomatch hx) hfX hkX hcellA (by rw [hhp, hT]; exact Nat.le_refl _) (msg := .ref sa) rfl
    (g := { method := m, pc := pc + w, locals := ls, stack := .ref sa :: .ref T.heap.size :: .ref T.heap.size :: rest, locked := none }) rfl hsize rfl rfl (rest := rest) rfl
    (by rw [hb]; exact d6) (by rw [hb]; exact d9) hout hRf (by simp only [List.map_cons, List.sum_cons, hcat]; omega) hlocks
  obtain ⟨f1, f2⟩ := vx_frame hsame
  rw [hhp] at f1 f2
  have hWs : s.WarmedH U.vm := State.WarmedH.trans hW0 hW
  rw [hvm] at hcl
  have hall : s.sameButNew ({ U with vm := s.vm } : State) locs mc ms := by
    subst hA
    obtain ⟨e1, e2⟩ := hsame
    rw [State.setFrames_setFrames] at e1
    have h2 : (T.setVm s.vm).sameButNew ({ U with vm := s.vm } : State) [] (0 + 1) (0 + 6) := ⟨e1, e2⟩
    have h3 := X.same.trans h2
    rw [List.append_nil] at h3
    exact h3.mono hc hs
  refine ⟨U, ?_, .threw T.heap.size, hrun, hend, Or.inr ⟨T.heap.size, rfl, cls, ce, locs, hx U hWs.alike f1 (fun q hq => f2 q hq (fun z hz => nomatch hz)), hce, hO, hcl, hWs, hall, hf⟩⟩
  refine st1 _ ?_
  show Steps p.tables e below (T1.setTop { method := m, pc := pc + 3, locals := ls, stack := .ref T.heap.size :: rest, locked := none }) _
  jvm_step X₁.here [X₁.here.top, hexec, d3', Value.category]
  rcases d4 with ⟨d4, rfl⟩ | ⟨d4, rfl⟩
  · exact X₁.ldcString hexec (own := own) (text := text) (index := is) (a := sa) hown' hstr'.1 hstr'.2
      (g := { method := m, pc := pc + 4, locals := ls, stack := .ref T.heap.size :: .ref T.heap.size :: rest, locked := none }) rfl (by rw [hb]; exact d4) _ hsteps
  · exact X₁.ldcStringW hexec (own := own) (text := text) (index := is) (a := sa) hown' hstr'.1 hstr'.2
      (g := { method := m, pc := pc + 4, locals := ls, stack := .ref T.heap.size :: .ref T.heap.size :: rest, locked := none }) rfl (by rw [hb]; exact d4) _ hsteps
end VY
/-! ===== J: methods that may throw NoSuchElementException ===== -/
abbrev vyE : String := "java/util/NoSuchElementException"
def vyL : List Cond := Bundle.ownAtomsX "StairsInSteps" 145 "java/util/NoSuchElementException" 13 prog_32_method_4_code ["java/lang/RuntimeException", "java/lang/Exception"]
theorem vy_in : ∀ w ∈ vyL.filter vx_no, w ∈ lw_tbl := by decide +kernel
theorem vy_ot : ∀ w ∈ vyL.filter vx_no, vx_ot w = true := by decide +kernel
/-- the words of a throw that aren't good, nor of the heap -/
def jthw : List Cond := [.declares (Bundle.initS "java/lang/RuntimeException"), .declares (Bundle.initS "java/lang/Exception"), .declares (Bundle.initS Bundle.tN), .castable "java/util/NoSuchElementException" "java/util/NoSuchElementException"]
theorem vy_hw : ∀ w ∈ (vyL.filter vx_no).filter (fun w => !goodWord w), w ∈ jthw := by decide +kernel
def jthk (w : Cond) : Bool := match w with
  | .declares _ => true
  | .castable _ _ => true
  | _ => false
theorem jthw_all : ∀ w ∈ jthw, jthk w = true := by decide +kernel
/-- the texts that are thrown -/
def jstr : List (Nat × String) := [(143, "no such step"), (170, "nothing such of a step"), (199, "no such pilgrim"), (222, "nothing such of a pilgrim"), (439, "no such number")]
/-- what a throw stands on, beside the pool -/
def jV (A : Nat → Prop) (U : State) (H : Heap) : Prop := (∀ w ∈ jthw, va_Nw w U) ∧ (∀ q ∈ jstr, ∃ sa : Nat, vk_R "StairsInSteps" q.1 q.2 sa U) ∧ vx_Zq Bundle.tN "UNASSIGNED_STACK" Bundle.steD A U H ∧ vx_Zq Bundle.tN "SUPPRESSED_SENTINEL" Bundle.listD A U H
theorem jV.warm {A : Nat → Prop} {s U : State} {H : Heap} (hW : s.WarmedH U.vm) (h : jV A s H) : jV A U H := by
  refine ⟨fun w hw => ?_, fun q hq => ?_, vx_Zq.moved hW.alike h.2.2.1, vx_Zq.moved hW.alike h.2.2.2⟩
  · have h1 := h.1 w hw
    have h2 := jthw_all w hw
    cases w with
    | declares x => exact va_Nw.warmD hW h1
    | castable a b => exact va_Nw.warmC hW h1
    | _ => cases h2
  · obtain ⟨sa, hsa⟩ := h.2.1 q hq
    exact ⟨sa, vk_R.warm hW hsa⟩
theorem jV.kept {A : Nat → Prop} {U : State} {H H1 : Heap} (h : jV A U H) (hq : ∀ a : Nat, a < H.size → ¬ A a → H1[a]? = H[a]?) : jV A U H1 := ⟨h.1, h.2.1, h.2.2.1.kept hq, h.2.2.2.kept hq⟩
theorem jV.narrow {A B : Nat → Prop} {U : State} {H : Heap} (h : jV A U H) (hAB : ∀ q, B q → A q) : jV B U H := ⟨h.1, h.2.1, h.2.2.1.narrow hAB, h.2.2.2.narrow hAB⟩
abbrev jRx : Type := jZ → jI → jL → Prop
def jX (D : va_G) (cy : jC) (Rx : jRx) (A : Nat → Prop) : String → State → State → Prop := fun E st t =>
  E = vyE ∧ (∃ (Z : jZ) (I : jI) (L : jL), Rx Z I L ∧ va_P D vwCl (jw cy Z I L) t.heap ∧ va_K D vwCl (jtys cy) t ∧ va_D A (jw cy Z I L)) ∧ va_F A st t
/-- the start of a contract whose body stands on jV -/
def jPV (D : va_G) (cy : jC) (as : List Value) (Z : jZ) (I : jI) (L : jL) (sz : Nat) : Array Value → State → Prop := va_Pc as (fun U => U.heap.size = sz ∧ va_P D vwCl (jw cy Z I L) U.heap ∧ va_K D vwCl (jtys cy) U ∧ va_D (fun _ => True) (jw cy Z I L) ∧ jN U ∧ jV (va_A (jw cy Z I L) sz) U U.heap)
theorem jPV_blind {as : List Value} {D : va_G} {cy : jC} {Z : jZ} {I : jI} {L : jL} {sz : Nat} : FrameBlind (jPV D cy as Z I L sz) := by
  intro a U g mk q
  obtain ⟨q0, q1, qP, qK, qD, qN, qV⟩ := q
  exact ⟨q0, q1, qP, va_K.moved (u := U) (U := U.calling g mk a) (Vm.Alike.refl U.vm) qK, qD, jN_same (s := U) rfl qN, jV.warm (s := U) (U := U.calling g mk a) (State.WarmedH.refl U) qV⟩
/-- a contract of a method that may throw -/
def jCtX (l : Launch) (y : MethodName) (ws : List Cond) (rm : Room) (D : va_G) (cy : jC) (as : List Value) (Z : jZ) (I : jI) (L : jL) (Rt : jRt) (Rx : jRx) : Prop :=
  ∀ sz : Nat, vx_Met l y ws rm (jPV D cy as Z I L sz) (jQ D cy Rt (va_A (jw cy Z I L) sz)) (jX D cy Rx (va_A (jw cy Z I L) sz)) rm.cells rm.slots (va_A (jw cy Z I L) sz)
/-- a contract of a method with handlers: it stands on jV, and returns -/
def jCtH (l : Launch) (y : MethodName) (ws : List Cond) (rm : Room) (D : va_G) (cy : jC) (as : List Value) (Z : jZ) (I : jI) (L : jL) (Rt : jRt) : Prop :=
  ∀ sz : Nat, Met l y ws rm (jPV D cy as Z I L sz) (jQ D cy Rt (va_A (jw cy Z I L) sz)) rm.cells rm.slots (va_A (jw cy Z I L) sz)
/-- what holds along a body that may throw -/
def jEX (G : jG) (rm : Room) (Rt : jRt) (Rx : jRx) : Prop :=
  (gL G).stackTraces = false ∧ jV (gA G) (gS G) (gS G).heap ∧ (∀ x ∈ (gC G).exceptionTable.toList, False) ∧ gQ G = vx_MQ (gB G) (jQ (gD G) (gY G) Rt (gA G)) (jX (gD G) (gY G) Rx (gA G)) (gV G) (gS G) rm.cells rm.slots (gA G)
theorem vy_x0 : decode prog_32_method_4_code 0 = .ok (.aload_n 0, 1) := by decide +kernel
theorem vy_x1 : decode prog_32_method_4_code 1 = .ok (.aload_n 1, 1) := by decide +kernel
theorem vy_x2 : decode prog_32_method_4_code 2 = .ok (.invokespecial 13, 3) := by decide +kernel
theorem vy_x5 : decode prog_32_method_4_code 5 = .ok (.return_, 1) := by decide +kernel
theorem vy_fit : Bundle.fit "java/util/NoSuchElementException" = true ∧ ∀ n ∈ ["java/lang/RuntimeException", "java/lang/Exception"], Bundle.fit n = true := by decide +kernel
section JTHROW
variable {G : jG} {cc : ByteArray} {own : String} {Ts : List Cond} {nL : Nat} {ret : Option FieldType} {rm : Room} {Rt : jRt} {Rx : jRx} {pc : Nat} {lv : List (Nat × Value)} {st : List Value} {Z : jZ} {I : jI} {L : jL} {k n : Nat}
/-- a body that may throw -/
theorem jCtX_of {l : Launch} (hl0 : l.stackTraces = false) {y : MethodName} {ws ws' : List Cond} {rm : Room} {D : va_G} {cy : jC} {as : List Value} {Rt : jRt} {Rx : jRx} {cc : ByteArray} {maxL : Nat} {ret : Option FieldType} (hy : plainName y.cls = true) (hw : ws = Cond.code y cc maxL ret :: ws') (hlen : (lg_sl as).length ≤ maxL)
    (h : ∀ G : jG, gD G = D → gY G = cy → gL G = l → jE G cc y.cls ws maxL ret rm Rt → jEX G rm Rt Rx → jJ G maxL 0 (lv_args 0 as) [] Z I L 0 0) : jCtX l y ws rm D cy as Z I L Rt Rx := by
  intro sz
  refine vx_ofW (cc := cc) (maxL := maxL) (ret := ret) hy hw ?_
  intro p e s m args below meth c s₁ B hml hx hv
  obtain ⟨rfl, hsz, hP, hK, hD0, hN, hV⟩ := hv
  subst hsz
  have hD := hD0.self (sz := s.heap.size)
  have hown : s.vm.findClass y.cls = some m.cls := findClass_of_methodNamed B.named
  have hl := lv_entry as (n := maxL) hlen
  rw [lg_entry_eq]
  generalize (lg_sl as ++ List.replicate (maxL - (lg_sl as).length) Slot.unset).toArray = ls at hl ⊢
  have key := h ((p, l, e, (headSpec ws rm).room, s, m, as.toArray, below, meth, c), D, cy, [], va_A (jw cy Z I L) s.heap.size, vx_MQ below (jQ D cy Rt (va_A (jw cy Z I L) s.heap.size)) (jX D cy Rx (va_A (jw cy Z I L) s.heap.size)) as.toArray s rm.cells rm.slots (va_A (jw cy Z I L) s.heap.size)) rfl rfl rfl
    ⟨⟨B.exec, B.bytes, hml, hown, atoms_spec (ws := ws) B.pre⟩, hK, fun q h => Or.inr h, hN, B.returns, B.notSynchronized, rfl, fun t h => by obtain ⟨o, b1, b2, b3, b4⟩ := h; exact ⟨o, b1, b2, Or.inl ⟨b3, b4⟩⟩⟩ ⟨hl0, hV, hx, rfl⟩
  exact key s.heap [] ls hl hP hD va_S.rf
/-- a body with handlers -/
theorem jCtH_of {l : Launch} {y : MethodName} {ws ws' : List Cond} {rm : Room} {D : va_G} {cy : jC} {as : List Value} {Rt : jRt} {cc : ByteArray} {maxL : Nat} {ret : Option FieldType} {hh : List (Nat × Nat × Nat × Nat)} (hy : plainName y.cls = true) (hw : ws = Cond.codeWith y cc maxL ret hh :: ws') (hlen : (lg_sl as).length ≤ maxL)
    (h : ∀ G : jG, gD G = D → gY G = cy → gL G = l → jE G cc y.cls ws maxL ret rm Rt → jV (gA G) (gS G) (gS G).heap → (gC G).exceptionTable.toList = tableOf hh → jJ G maxL 0 (lv_args 0 as) [] Z I L 0 0) : jCtH l y ws rm D cy as Z I L Rt := by
  intro sz
  refine va_MetW (cc := cc) (maxL := maxL) (ret := ret) (hh := hh) hy hw ?_
  intro p e s m args below meth c s₁ B hml hv
  obtain ⟨rfl, hsz, hP, hK, hD0, hN, hV⟩ := hv
  subst hsz
  have hD := hD0.self (sz := s.heap.size)
  have hown : s.vm.findClass y.cls = some m.cls := findClass_of_methodNamed B.named
  have hl := lv_entry as (n := maxL) hlen
  have htb : c.exceptionTable.toList = tableOf hh := vx_table (x := y) B (atoms_spec (ws := ws) B.pre _ (by rw [hw]; exact List.mem_cons_self))
  rw [lg_entry_eq]
  generalize (lg_sl as ++ List.replicate (maxL - (lg_sl as).length) Slot.unset).toArray = ls at hl ⊢
  have key := h ((p, l, e, (headSpec ws rm).room, s, m, as.toArray, below, meth, c), D, cy, [], va_A (jw cy Z I L) s.heap.size, MQ below (jQ D cy Rt (va_A (jw cy Z I L) s.heap.size)) as.toArray s rm.cells rm.slots (va_A (jw cy Z I L) s.heap.size)) rfl rfl rfl
    ⟨⟨B.exec, B.bytes, hml, hown, atoms_spec (ws := ws) B.pre⟩, hK, fun q h => Or.inr h, hN, B.returns, B.notSynchronized, rfl, fun _ h => h⟩ hV htb
  exact key s.heap [] ls hl hP hD va_S.rf
/-- the throw -/
theorem j_throw {cd : Cond} (E : jE G cc "StairsInSteps" (cd :: jT) nL ret rm Rt) (EX : jEX G rm Rt Rx) {w is : Nat} {text : String} (hs : (is, text) ∈ jstr) (hk : Cond.classLink "StairsInSteps" 141 "java/util/NoSuchElementException" ∈ jT) (hi : Cond.initialized "java/util/NoSuchElementException" ∈ jT)
    (hR : 5 < rm.frames ∧ 90 ≤ rm.locals) (hst : st = []) (h1 : k + 1 ≤ rm.cells) (h2 : n + 6 ≤ rm.slots) (h : Rx Z I L)
    (d0 : decode cc pc = .ok (.new 141, 3)) (d3 : decode cc (pc + 3) = .ok (.dup, 1)) (d4 : (decode cc (pc + 4) = .ok (.ldc is, 2) ∧ w = 6) ∨ (decode cc (pc + 4) = .ok (.ldc_w is, 3) ∧ w = 7)) (d6 : decode cc (pc + w) = .ok (.invokespecial 145, 3)) (d9 : decode cc (pc + w + 3) = .ok (.athrow, 1)) : jJ G nL pc lv st Z I L k n := by
  intro H locs ls hl hP hD hS
  subst hst
  have eR := E.2.2.2.2.2.2.1
  obtain ⟨e1, eV, e3, e4⟩ := EX
  obtain ⟨sa, hsa⟩ := eV.2.1 _ hs
  rw [e4]
  refine vy_throw (Qc := jQ (gD G) (gY G) Rt (gA G)) (A := gA G) (cls := vyE) (text := text) (ix := 13) (rx := prog_32_method_4_code) (names := ["java/lang/RuntimeException", "java/lang/Exception"]) E.1.1 E.1.2.1 e1 vy_x0 vy_x1 vy_x2 vy_x5 E.1.2.2.2.1 vy_fit.1 vy_fit.2
    (E.1.2.2.2.2 _ (tw hk)) (by decide +kernel) (E.1.2.2.2.2 _ (tw hi)) (by decide +kernel) hsa ?_ vy_ot eV.2.2.1 eV.2.2.2 hS (hl.1.trans E.1.2.2.1.symm) d0 d3 d4 d6 d9 (fun x hx => (e3 x hx).elim) (by rw [eR]; exact hR.1) (by rw [eR]; exact Nat.le_trans (show (82 : Nat) ≤ 90 by omega) hR.2) (by rw [eR]; exact h1) (by rw [eR]; exact h2) E.2.2.2.2.2.1 ?_ hS.2.2 h1 h2
  · refine vx_hat (B := jthw) (fun w hw => ?_) vy_hw (fun w hw => ?_)
    · have hw' := List.mem_filter.mp hw
      exact E.1.2.2.2.2 _ (tw (jT_mem (vy_in w hw'.1) hw'.2))
    · have h3 := eV.1 w hw
      have h4 := jthw_all w hw
      cases w with
      | declares x => exact va_Nw.use rfl h3
      | castable a b => exact va_Nw.use rfl h3
      | _ => cases h4
  · intro t hvm hz hq
    refine ⟨rfl, ⟨Z, I, L, h, (j_cutP hP).kept (fun k9 q9 h9 => hq _ (vx_lt (j_cutP hP) h9)), va_K.moved hvm E.2.1, j_cutD hD⟩, Nat.le_trans hS.1 hz, fun q h3 h4 => ?_⟩
    rw [hq q (Nat.lt_of_lt_of_le h3 hS.1)]
    exact hS.2.1 q h3 h4
/-- a call of a method that may throw, in a body whose table has one row, which catches it -/
theorem j_callVX (E : jE G cc own Ts nL ret rm Rt) (hV : jV (gA G) (gS G) (gS G).heap) {hh : Nat × Nat × Nat × Nat} (htb : (gC G).exceptionTable.toList = tableOf [hh]) (hcv : hh.1 ≤ pc ∧ pc < hh.2.1) (hct : hh.2.2.2 ≠ 0) (hlk : Cond.classLink own hh.2.2.2 "java/util/NoSuchElementException" ∈ Ts)
    {y : MethodName} {ws ws' : List Cond} {rm' : Room} {bytes : ByteArray} {maxL : Nat} {ret' : Option FieldType} {C : String} {T : u_T} {N i b c na : Nat} {Rt' : jRt} {Rx' : jRx} (As rest : List Value)
    (hM : jCtX (gL G) y ws rm' (gD G) (gY G) (.ref b :: As) Z I L Rt' Rx') (hg : GoodIn Ts (wsV own i C y ws)) (hw : ws = Cond.code y bytes maxL ret' :: ws')
    (hd : y.cls = C ∧ y.cls ≠ "java/lang/invoke/MethodHandle" ∧ y.cls ≠ "java/lang/invoke/VarHandle" ∧ (parseMethodDescriptor y.desc).map (fun d => d.parameters.length) = some na)
    (hR : rm'.frames + 1 ≤ rm.frames ∧ 8 + (maxL + 11) + rm'.locals ≤ rm.locals) (hcl : vwCl[c]? = some (C, T, N)) (hc : c < 13) (hk : jk Z b c) (hn : As.length = na) (hst : st = As.reverse ++ .ref b :: rest) (hcat : (rest.map fun v => v.category).sum ≤ 8)
    (hf : k + rm'.cells ≤ rm.cells ∧ n + rm'.slots ≤ rm.slots) (d : decode cc pc = .ok (.invokevirtual i, 3))
    (kk : ∀ v Z' I' L', Rt' v Z' I' L' → jJ G nL (pc + 3) lv (v.toList ++ rest) Z' I' L' (k + rm'.cells) (n + rm'.slots))
    (kx : ∀ q Z' I' L', Rx' Z' I' L' → jJ G nL hh.2.2.1 lv [.ref q] Z' I' L' (k + rm'.cells) (n + rm'.slots)) : jJ G nL pc lv st Z I L k n := by
  intro H locs ls hl hP hD hS
  have eR := E.2.2.2.2.2.2.1
  obtain ⟨q, hq⟩ := jw_get (X := gX G) (cy := gY G) (I := I) (L := L) hk.1
  rw [jf_obj hk.2 hc] at hq
  have hfr : ∀ q, va_A (jw (gY G) Z I L) H.size q → gA G q := by
    intro q hq
    rcases hq with ⟨k9, e9, h9⟩ | h9
    · exact (j_cutD hD).2 k9 _ h9
    · exact E.2.2.1 q (Nat.le_trans hS.1 h9)
  have hrun := vx_runV (p := gP G) (l := gL G) (e := gE G) (R := gR G) (s := gS G) (m := gM G) (args := gV G) (below := gB G) (meth := gH G) (c := gC G) (H := H) (locs := locs) (cells := k) (slots := n) (g := F0 (gM G) pc ls st) (As := As) (rest := rest) E.1 (hM H.size) (cwV na E.1.2.2.2.2 hg hw rfl rfl hd (by rw [eR]; exact hR))
    ⟨jPV_blind, va_recv E.2.1 hP hcl hq, fun U hU hW => ⟨rfl, by rw [hU], by rw [hU]; exact j_cutP hP, va_K.moved hW.alike E.2.1, (j_cutD hD).weaken (fun _ _ _ _ => trivial), jN_warm hW E.2.2.2.1, by rw [hU]; exact ((hV.kept hS.2.1).narrow hfr).warm hW⟩⟩ rfl hn hl.1 hst (lv_room hcat) d (by rw [eR]; exact hf)
  intro T9 hT X
  rcases hrun T9 hT X with ⟨v, st₀, t, T', Lw, h0, X', hL, e1, e2, ⟨⟨v2, Z', I', L', hv, hp, hP', hK', hD'⟩, hz, hk9⟩, sp⟩ | ⟨q9, st₀, t, T', Lw, E9, ce, h0, X', hL, e1, e2, ⟨rfl, ⟨Z', I', L', hp, hP', hK', hD'⟩, hz, hk9⟩, hce, hcv9, hcl9, sp⟩
  · cases hv
    rw [h0] at hz hk9
    have hS' : va_S (gA G) (gS G).heap T'.heap (locs ++ Lw) := ⟨Nat.le_trans hS.1 (by rw [e1]; exact hz), fun q h1 h2 => by rw [e1, hk9 q (Nat.lt_of_lt_of_le h1 hS.1) (fun z => h2 (hfr q z))]; exact hS.2.1 q h1 h2, fun q hq => (List.mem_append.mp hq).elim (hS.2.2 q) (fun h => hfr _ (hL q h))⟩
    obtain ⟨hPn, hDn⟩ := j_join hP hD (H1 := t.heap) hk9 hfr hP' hD'
    obtain ⟨t2, a1, b1⟩ := kk v Z' I' L' hp T'.heap (locs ++ Lw) ls hl (by rw [e1]; exact hPn) hDn hS' T' rfl X'
    exact ⟨t2, sp t2 a1, b1⟩
  · rw [h0] at hz hk9
    have hS' : va_S (gA G) (gS G).heap T'.heap (locs ++ Lw) := ⟨Nat.le_trans hS.1 (by rw [e1]; exact hz), fun q h1 h2 => by rw [e1, hk9 q (Nat.lt_of_lt_of_le h1 hS.1) (fun z => h2 (hfr q z))]; exact hS.2.1 q h1 h2, fun q hq => (List.mem_append.mp hq).elim (hS.2.2 q) (fun h => hfr _ (hL q h))⟩
    obtain ⟨hPn, hDn⟩ := j_join hP hD (H1 := t.heap) hk9 hfr hP' hD'
    have hcs : (Cond.castable vyE vyE).before (gV G) (gS G) = true := va_Nw.use rfl (hV.1 _ (by decide))
    obtain ⟨t2, a1, b1⟩ := vx_catch (p := gP G) (l := gL G) (e := gE G) (R := gR G) (s := gS G) (m := gM G) (args := gV G) (below := gB G) (meth := gH G) (c := gC G) (H := T'.heap) (locs := locs ++ Lw) (cells := k + rm'.cells) (slots := n + rm'.slots) (Q := gQ G) (pc := pc) (ls := ls) (rest := rest) (own := own) (name := vyE) (E := vyE) (ce := ce) (q := q9) E.1.2.2.2.1 [] { startPc := hh.1, endPc := hh.2.1, handlerPc := hh.2.2.1, catchType := hh.2.2.2 } [] (by rw [htb]; rfl) (fun z hz => nomatch hz) (by simp [covers, hcv.1, hcv.2]) hct (E.1.2.2.2.2 _ hlk) hcs (by rw [e1]; exact hce) hcv9 hcl9
      (kx q9 Z' I' L' hp T'.heap (locs ++ Lw) ls hl (by rw [e1]; exact hPn) hDn hS') T' rfl X'
    exact ⟨t2, sp.trans a1, b1⟩
/-- a static call of a method with handlers -/
theorem j_callSH (E : jE G cc own Ts nL ret rm Rt) (hV : jV (gA G) (gS G) (gS G).heap) {y : MethodName} {ws ws' : List Cond} {rm' : Room} {bytes : ByteArray} {maxL : Nat} {ret' : Option FieldType} {hh : List (Nat × Nat × Nat × Nat)} {i na : Nat} {Rt' : jRt} (As rest : List Value)
    (hM : jCtH (gL G) y ws rm' (gD G) (gY G) As Z I L Rt') (hg : GoodIn Ts (va_wsS own i y ws)) (hw : ws = Cond.codeWith y bytes maxL ret' hh :: ws')
    (hd : y.cls ≠ "java/lang/invoke/MethodHandle" ∧ y.cls ≠ "java/lang/invoke/VarHandle" ∧ (parseMethodDescriptor y.desc).map (fun d => d.parameters.length) = some na)
    (hR : rm'.frames + 1 ≤ rm.frames ∧ 8 + (maxL + 11) + rm'.locals ≤ rm.locals) (hn : As.length = na) (hst : st = As.reverse ++ rest) (hcat : (rest.map fun v => v.category).sum ≤ 8)
    (hf : k + rm'.cells ≤ rm.cells ∧ n + rm'.slots ≤ rm.slots) (d : decode cc pc = .ok (.invokestatic i, 3))
    (kk : ∀ v Z' I' L', Rt' v Z' I' L' → jJ G nL (pc + 3) lv (v.toList ++ rest) Z' I' L' (k + rm'.cells) (n + rm'.slots)) : jJ G nL pc lv st Z I L k n := by
  intro H locs ls hl hP hD hS
  have eR := E.2.2.2.2.2.2.1
  have hfr : ∀ q, va_A (jw (gY G) Z I L) H.size q → gA G q := by
    intro q hq
    rcases hq with ⟨k9, e9, h9⟩ | h9
    · exact (j_cutD hD).2 k9 _ h9
    · exact E.2.2.1 q (Nat.le_trans hS.1 h9)
  have hrun := vx_runSW (p := gP G) (l := gL G) (e := gE G) (R := gR G) (s := gS G) (m := gM G) (args := gV G) (below := gB G) (meth := gH G) (c := gC G) (H := H) (locs := locs) (cells := k) (slots := n) (g := F0 (gM G) pc ls st) (As := As) (rest := rest) E.1 (hM H.size) (vx_cwSW na E.1.2.2.2.2 hg hw rfl rfl hd (by rw [eR]; exact hR))
    ⟨jPV_blind, fun U hU hW => ⟨rfl, by rw [hU], by rw [hU]; exact j_cutP hP, va_K.moved hW.alike E.2.1, (j_cutD hD).weaken (fun _ _ _ _ => trivial), jN_warm hW E.2.2.2.1, by rw [hU]; exact ((hV.kept hS.2.1).narrow hfr).warm hW⟩⟩ rfl hn hl.1 hst (lv_room hcat) d (by rw [eR]; exact hf)
  exact j_back E hrun hl hP hD hS kk
end JTHROW
end
section
/-! ===== methods that make as many cells as they need: the pool tells how many ===== -/
def jcz (Z : jZ) : Nat := Z.1.length
def jcs (k m : Nat) : Nat := if k < 13 then jnum k else m
def jsz (Z : jZ) : Nat := (Z.1.map (fun a => jcs (Z.2.1 a) (Z.2.2.1 a))).sum
/-- more cells, more slots -/
def jle (Z Z' : jZ) : Prop := jcz Z ≤ jcz Z' ∧ jsz Z ≤ jsz Z'
/-- within the bounds -/
def jin (B : Nat × Nat) (Z : jZ) : Prop := jcz Z ≤ B.1 ∧ jsz Z ≤ B.2
theorem jle_rfl {Z : jZ} : jle Z Z := ⟨Nat.le_refl _, Nat.le_refl _⟩
theorem jle_trans {Z Z' Z'' : jZ} (h : jle Z Z') (h' : jle Z' Z'') : jle Z Z'' := ⟨Nat.le_trans h.1 h'.1, Nat.le_trans h.2 h'.2⟩
theorem jcz_nw {Z : jZ} {q k m : Nat} : jcz (jnw Z q k m) = jcz Z + 1 := by simp [jcz, jnw]
theorem jsz_nw {Z : jZ} {q k m : Nat} (hq : q ∉ Z.1) : jsz (jnw Z q k m) = jsz Z + jcs k m := by
  have e : ∀ a ∈ Z.1, jcs (va_up Z.2.1 q k a) (va_up Z.2.2.1 q m a) = jcs (Z.2.1 a) (Z.2.2.1 a) := fun a ha => by
    have hne : a ≠ q := fun e => hq (e ▸ ha)
    rw [va_up_ne _ _ hne, va_up_ne _ _ hne]
  show (List.map (fun a => jcs (va_up Z.2.1 q k a) (va_up Z.2.2.1 q m a)) (Z.1 ++ [q])).sum = _
  rw [List.map_append, List.sum_append, List.map_congr_left e]
  simp [jsz, va_up_self]
theorem jle_nw {Z : jZ} {q k m : Nat} (hq : q ∉ Z.1) : jle Z (jnw Z q k m) := ⟨by rw [jcz_nw]; omega, by rw [jsz_nw hq]; omega⟩
theorem jin_nw {B : Nat × Nat} {Z : jZ} {q m : Nat} (hq : q ∉ Z.1) (h1 : jcz Z + 1 ≤ B.1) (h2 : jsz Z + m ≤ B.2) : jin B (jnw Z q 15 m) := ⟨by rw [jcz_nw]; exact h1, by rw [jsz_nw hq]; exact h2⟩
/-- the slots of a heap -/
def jhs (H : Heap) : Nat := H.foldl (fun n c => n + c.slots.size) 0
theorem book_hs {s : State} (h : s.slotsTrue = true) : s.slotsUsed = jhs s.heap := by
  unfold State.slotsTrue at h
  exact eq_of_beq h
section USTAND
variable {p : Program} {l : Launch} {e : Env} {R : Room} {s : State} {m : MethodId} {args : Array Value} {below : List Frame} {meth : Method} {c : Code} {T : State} {locs : List Loc} {cells slots : Nat}
theorem stand_hs0 (X : Stand p l e R s m args below meth c T locs cells slots) : s.slotsUsed = jhs s.heap := by
  have h := X.room
  simp only [State.hasRoom, Bool.and_eq_true] at h
  exact book_hs h.2
theorem stand_hs (X : Stand p l e R s m args below meth c T locs cells slots) : T.slotsUsed = jhs T.heap := book_hs X.book
theorem stand_hsle (X : Stand p l e R s m args below meth c T locs cells slots) : jhs T.heap ≤ jhs s.heap + slots := by
  rw [← stand_hs X, ← stand_hs0 X]
  exact X.used
/-- no more than was really made -/
theorem stand_tight {k n : Nat} (X : Stand p l e R s m args below meth c T locs cells slots) (h1 : T.heap.size ≤ s.heap.size + k) (h2 : jhs T.heap ≤ jhs s.heap + n) : Stand p l e R s m args below meth c T locs k n := by
  have e0 := stand_hs0 X
  have e1 := stand_hs X
  obtain ⟨a1, a2, a3, a4, a5, a6⟩ := X.same
  have a4' : T.slotsUsed = s.slotsUsed + ((T.heap.toList.drop s.heap.size).map (·.slots.size)).sum := a4
  refine { X with same := ⟨a1, a2, h1, a4, ?_, a6⟩ }
  show ((T.heap.toList.drop s.heap.size).map (·.slots.size)).sum ≤ n
  omega
end USTAND
/-- a method's end, with what was made -/
def jQU (D : va_G) (cy : jC) (Rt : jRt) (A : Nat → Prop) (Z0 : jZ) : Array Value → State → Outcome → State → Prop := fun _ st oc t =>
  (∃ (v : Option Value) (Z : jZ) (I : jI) (L : jL), oc = .returned v ∧ (Rt v Z I L ∧ jle Z0 Z) ∧ va_P D vwCl (jw cy Z I L) t.heap ∧ va_K D vwCl (jtys cy) t ∧ va_D A (jw cy Z I L) ∧ t.heap.size + jcz Z0 ≤ st.heap.size + jcz Z ∧ jhs t.heap + jsz Z0 ≤ jhs st.heap + jsz Z) ∧ va_F A st t
abbrev jrm (B : Nat × Nat) (f lo : Nat) (Z : jZ) : Room := { frames := f, cells := B.1 - jcz Z, slots := B.2 - jsz Z, locals := lo }
/-- a contract within bounds -/
def jCtU (l : Launch) (y : MethodName) (ws : List Cond) (B : Nat × Nat) (f lo : Nat) (D : va_G) (cy : jC) (as : List Value) (Z : jZ) (I : jI) (L : jL) (Rt : jRt) : Prop :=
  ∀ sz : Nat, Met l y ws (jrm B f lo Z) (va_Pc as (fun U => U.heap.size = sz ∧ va_P D vwCl (jw cy Z I L) U.heap ∧ va_K D vwCl (jtys cy) U ∧ va_D (fun _ => True) (jw cy Z I L) ∧ jN U)) (jQU D cy Rt (va_A (jw cy Z I L) sz) Z) (B.1 - jcz Z) (B.2 - jsz Z) (va_A (jw cy Z I L) sz)
/-- where a method that makes cells ends -/
def jEU (G : jG) (B : Nat × Nat) (Z0 : jZ) (Rt : jRt) : Prop := ∀ t : State, MQ (gB G) (jQU (gD G) (gY G) Rt (gA G) Z0) (gV G) (gS G) (B.1 - jcz Z0) (B.2 - jsz Z0) (gA G) t → gQ G t
def jRF : jRt := fun _ _ _ _ => False
section JU
variable {G : jG} {cc : ByteArray} {own : String} {Ts : List Cond} {nL : Nat} {ret : Option FieldType} {rm : Room} {Rt : jRt} {pc : Nat} {lv : List (Nat × Value)} {st : List Value} {Z Z0 : jZ} {I : jI} {L : jL} {k n f lo : Nat} {B : Nat × Nat}
theorem ju_k (hb : jin B Z) : jcz Z - jcz Z0 ≤ B.1 - jcz Z0 := Nat.sub_le_sub_right hb.1 _
theorem ju_n (hb : jin B Z) : jsz Z - jsz Z0 ≤ B.2 - jsz Z0 := Nat.sub_le_sub_right hb.2 _
theorem ju_kn (hb : jin B Z) : jcz Z - jcz Z0 + 0 ≤ B.1 - jcz Z0 ∧ jsz Z - jsz Z0 + 0 ≤ B.2 - jsz Z0 := ⟨ju_k hb, ju_n hb⟩
theorem j_kn {k' n' : Nat} (h1 : k = k') (h2 : n = n') (kk : jJ G nL pc lv st Z I L k' n') : jJ G nL pc lv st Z I L k n := by
  subst h1; subst h2; exact kk
/-- the facts at a return -/
theorem ju_end {H : Heap} {T : State} {locs : List Loc} (hc : jle Z0 Z) (hT : T.heap = H) (X : Stand (gP G) (gL G) (gE G) (gR G) (gS G) (gM G) (gV G) (gB G) (gH G) (gC G) T locs (jcz Z - jcz Z0) (jsz Z - jsz Z0)) : H.size + jcz Z0 ≤ (gS G).heap.size + jcz Z ∧ jhs H + jsz Z0 ≤ jhs (gS G).heap + jsz Z := by
  have h1 := X.heapSize
  have h2 := stand_hsle X
  rw [hT] at h1 h2
  have := hc.1
  have := hc.2
  constructor <;> omega
theorem ju_ireturn (E : jE G cc own Ts nL (some .int) (jrm B f lo Z0) jRF) (EU : jEU G B Z0 Rt) (hc : jle Z0 Z) (hb : jin B Z) {v : Int32} (h : Rt (some (.int v)) Z I L) (d : decode cc pc = .ok (.ireturn, 1)) : jJ G nL pc lv [.int v] Z I L (jcz Z - jcz Z0) (jsz Z - jsz Z0) := by
  intro H locs ls hl hP hD hS T hT X
  have hE := ju_end hc hT X
  exact (W.mono EU (W.widen (ju_k hb) (ju_n hb) (W.iret E.1.1 E.1.2.1 E.2.2.2.2.1 (fun t ht hW => ⟨⟨_, Z, I, L, rfl, ⟨h, hc⟩, by rw [ht]; exact j_cutP hP, va_K.moved hW.alike E.2.1, j_cutD hD, by rw [ht]; exact hE.1, by rw [ht]; exact hE.2⟩, hS.F ht⟩) hS.2.2 d E.2.2.2.2.2.1))) T hT X
theorem ju_zreturn (E : jE G cc own Ts nL (some .boolean) (jrm B f lo Z0) jRF) (EU : jEU G B Z0 Rt) (hc : jle Z0 Z) (hb : jin B Z) {v : Int32} (hv : v = 0 ∨ v = 1) (h : Rt (some (.int v)) Z I L) (d : decode cc pc = .ok (.ireturn, 1)) : jJ G nL pc lv [.int v] Z I L (jcz Z - jcz Z0) (jsz Z - jsz Z0) := by
  intro H locs ls hl hP hD hS T hT X
  have hE := ju_end hc hT X
  exact (W.mono EU (W.widen (ju_k hb) (ju_n hb) (W.zret E.1.1 E.1.2.1 E.2.2.2.2.1 (by rcases hv with rfl | rfl <;> rfl) (fun t ht hW => ⟨⟨_, Z, I, L, rfl, ⟨h, hc⟩, by rw [ht]; exact j_cutP hP, va_K.moved hW.alike E.2.1, j_cutD hD, by rw [ht]; exact hE.1, by rw [ht]; exact hE.2⟩, hS.F ht⟩) hS.2.2 d E.2.2.2.2.2.1))) T hT X
theorem ju_lreturn (E : jE G cc own Ts nL (some .long) (jrm B f lo Z0) jRF) (EU : jEU G B Z0 Rt) (hc : jle Z0 Z) (hb : jin B Z) {v : Int64} (h : Rt (some (.long v)) Z I L) (d : decode cc pc = .ok (.lreturn, 1)) : jJ G nL pc lv [.long v] Z I L (jcz Z - jcz Z0) (jsz Z - jsz Z0) := by
  intro H locs ls hl hP hD hS T hT X
  have hE := ju_end hc hT X
  exact (W.mono EU (W.widen (ju_k hb) (ju_n hb) (W.lret E.1.1 E.1.2.1 E.2.2.2.2.1 (fun t ht hW => ⟨⟨_, Z, I, L, rfl, ⟨h, hc⟩, by rw [ht]; exact j_cutP hP, va_K.moved hW.alike E.2.1, j_cutD hD, by rw [ht]; exact hE.1, by rw [ht]; exact hE.2⟩, hS.F ht⟩) hS.2.2 d E.2.2.2.2.2.1))) T hT X
theorem ju_return (E : jE G cc own Ts nL none (jrm B f lo Z0) jRF) (EU : jEU G B Z0 Rt) (hc : jle Z0 Z) (hb : jin B Z) (h : Rt none Z I L) (d : decode cc pc = .ok (.return_, 1)) : jJ G nL pc lv [] Z I L (jcz Z - jcz Z0) (jsz Z - jsz Z0) := by
  intro H locs ls hl hP hD hS T hT X
  have hE := ju_end hc hT X
  exact (W.mono EU (W.widen (ju_k hb) (ju_n hb) (W.vret E.1.1 E.1.2.1 E.2.2.2.2.1 (fun t ht hW => ⟨⟨_, Z, I, L, rfl, ⟨h, hc⟩, by rw [ht]; exact j_cutP hP, va_K.moved hW.alike E.2.1, j_cutD hD, by rw [ht]; exact hE.1, by rw [ht]; exact hE.2⟩, hS.F ht⟩) hS.2.2 d E.2.2.2.2.2.1))) T hT X
theorem ju_areturn {rt : FieldType} (E : jE G cc own Ts nL (some rt) (jrm B f lo Z0) jRF) (EU : jEU G B Z0 Rt) (hc : jle Z0 Z) (hb : jin B Z) (hrt : (∃ n, rt = .object n) ∨ ∃ t, rt = .array t) (r : Option Nat) {v : Value} (hv : v = va_rf r) (h : Rt (some (va_rf r)) Z I L) (d : decode cc pc = .ok (.areturn, 1)) : jJ G nL pc lv [v] Z I L (jcz Z - jcz Z0) (jsz Z - jsz Z0) := by
  intro H locs ls hl hP hD hS T hT X
  subst hv
  have hE := ju_end hc hT X
  exact (W.mono EU (W.widen (ju_k hb) (ju_n hb) (W.aret E.1.1 E.1.2.1 E.2.2.2.2.1 hrt (va_rf_or r) (fun t ht hW => ⟨⟨_, Z, I, L, rfl, ⟨h, hc⟩, by rw [ht]; exact j_cutP hP, va_K.moved hW.alike E.2.1, j_cutD hD, by rw [ht]; exact hE.1, by rw [ht]; exact hE.2⟩, hS.F ht⟩) hS.2.2 d E.2.2.2.2.2.1))) T hT X
/-- behind a call that made cells -/
theorem ju_back (E : jE G cc own Ts nL ret rm Rt) {st0 rest : List Value} {a : Array Value} {H : Heap} {locs : List Loc} {ls : Array Slot} {mc ms : Nat} {Rt' : jRt}
    (hr : va_Run (gP G) (gL G) (gE G) (gR G) (gS G) (gM G) (gV G) (gB G) (gH G) (gC G) H locs k n mc ms (F0 (gM G) pc ls st0) rest (jQU (gD G) (gY G) Rt' (va_A (jw (gY G) Z I L) H.size) Z a) (va_A (jw (gY G) Z I L) H.size))
    (hl : lv_has ls nL lv) (hP : va_P (gD G) vwCl (gX G ++ jw (gY G) Z I L) H) (hD : va_D (gA G) (gX G ++ jw (gY G) Z I L)) (hS : va_S (gA G) (gS G).heap H locs)
    (kk : ∀ v Z' I' L', Rt' v Z' I' L' → jle Z Z' → jJ G nL (pc + 3) lv (v.toList ++ rest) Z' I' L' (k + (jcz Z' - jcz Z)) (n + (jsz Z' - jsz Z))) : W (gP G) (gL G) (gE G) (gR G) (gS G) (gM G) (gV G) (gB G) (gH G) (gC G) H locs k n (gQ G) (F0 (gM G) pc ls st0) := by
  intro T hT X
  obtain ⟨v, st₀, t, T', Lw, h0, X', hL, e1, e2, ⟨⟨v2, Z', I', L', hv, ⟨hp, hjl⟩, hP', hK', hD', hz1, hz2⟩, hz, hk⟩, st⟩ := hr T hT X
  cases hv
  rw [h0] at hz hk hz1 hz2
  have hfr : ∀ q, va_A (jw (gY G) Z I L) H.size q → gA G q := by
    intro q hq
    rcases hq with ⟨k9, e9, h9⟩ | h9
    · exact (j_cutD hD).2 k9 _ h9
    · exact E.2.2.1 q (Nat.le_trans hS.1 h9)
  have hS' : va_S (gA G) (gS G).heap T'.heap (locs ++ Lw) := ⟨Nat.le_trans hS.1 (by rw [e1]; exact hz), fun q h1 h2 => by rw [e1, hk q (Nat.lt_of_lt_of_le h1 hS.1) (fun z => h2 (hfr q z))]; exact hS.2.1 q h1 h2, fun q hq => by
      rcases List.mem_append.mp hq with h | h
      · exact hS.2.2 q h
      · exact hfr _ (hL q h)⟩
  obtain ⟨hPj, hDj⟩ := j_join hP hD (H1 := T'.heap) (fun q h1 h2 => by rw [e1]; exact hk q h1 h2) hfr (by rw [e1]; exact hP') hD'
  have b1 := X.heapSize
  have b2 := stand_hsle X
  rw [hT] at b1 b2
  have g1 := hjl.1
  have g2 := hjl.2
  have X'' := stand_tight (k := k + (jcz Z' - jcz Z)) (n := n + (jsz Z' - jsz Z)) X' (by rw [e1]; omega) (by rw [e1]; omega)
  obtain ⟨t2, a1, b1⟩ := kk v Z' I' L' hp hjl T'.heap (locs ++ Lw) ls hl hPj hDj hS' T' rfl X''
  exact ⟨t2, st t2 a1, b1⟩
theorem ju_callV (E : jE G cc own Ts nL ret rm Rt) {y : MethodName} {ws ws' : List Cond} {f' lo' : Nat} {bytes : ByteArray} {maxL : Nat} {ret' : Option FieldType} {C : String} {T : u_T} {N i b c na : Nat} {Rt' : jRt} (As rest : List Value)
    (hM : jCtU (gL G) y ws B f' lo' (gD G) (gY G) (.ref b :: As) Z I L Rt') (hg : GoodIn Ts (wsV own i C y ws)) (hw : ws = Cond.code y bytes maxL ret' :: ws')
    (hd : y.cls = C ∧ y.cls ≠ "java/lang/invoke/MethodHandle" ∧ y.cls ≠ "java/lang/invoke/VarHandle" ∧ (parseMethodDescriptor y.desc).map (fun d => d.parameters.length) = some na)
    (hR : f' + 1 ≤ rm.frames ∧ 8 + (maxL + 11) + lo' ≤ rm.locals) (hcl : vwCl[c]? = some (C, T, N)) (hc : c < 13) (hk : jk Z b c) (hn : As.length = na) (hst : st = As.reverse ++ .ref b :: rest) (hcat : (rest.map fun v => v.category).sum ≤ 8)
    (hf : k + (B.1 - jcz Z) ≤ rm.cells ∧ n + (B.2 - jsz Z) ≤ rm.slots) (d : decode cc pc = .ok (.invokevirtual i, 3))
    (kk : ∀ v Z' I' L', Rt' v Z' I' L' → jle Z Z' → jJ G nL (pc + 3) lv (v.toList ++ rest) Z' I' L' (k + (jcz Z' - jcz Z)) (n + (jsz Z' - jsz Z))) : jJ G nL pc lv st Z I L k n := by
  intro H locs ls hl hP hD hS
  have eR := E.2.2.2.2.2.2.1
  obtain ⟨q, hq⟩ := jw_get (X := gX G) (cy := gY G) (I := I) (L := L) hk.1
  rw [jf_obj hk.2 hc] at hq
  have hrun := va_runV (p := gP G) (l := gL G) (e := gE G) (R := gR G) (s := gS G) (m := gM G) (args := gV G) (below := gB G) (meth := gH G) (c := gC G) (H := H) (locs := locs) (cells := k) (slots := n) (g := F0 (gM G) pc ls st) (As := As) (rest := rest) E.1 (hM H.size) (cwV na E.1.2.2.2.2 hg hw rfl rfl hd (by rw [eR]; exact hR))
    ⟨jP_blind, va_recv E.2.1 hP hcl hq, fun U hU hW => ⟨rfl, by rw [hU], by rw [hU]; exact j_cutP hP, va_K.moved hW.alike E.2.1, (j_cutD hD).weaken (fun _ _ _ _ => trivial), jN_warm hW E.2.2.2.1⟩⟩ rfl hn hl.1 hst (lv_room hcat) d (by rw [eR]; exact hf)
  exact ju_back E hrun hl hP hD hS kk
theorem ju_callVN (E : jE G cc own Ts nL ret rm Rt) {y : MethodName} {ws ws' : List Cond} {f' lo' : Nat} {bytes : ByteArray} {maxL : Nat} {ret' : Option FieldType} {C host : String} {T : u_T} {N i b c na : Nat} {Rt' : jRt} (As rest : List Value)
    (hM : jCtU (gL G) y ws B f' lo' (gD G) (gY G) (.ref b :: As) Z I L Rt') (hg : GoodIn Ts ws) (hw : ws = Cond.code y bytes maxL ret' :: ws')
    (hlk : Cond.methodLinkNest own i y host ∈ jnest) (hini : Cond.initialized y.cls ∈ Ts) (hinst : Cond.instanceMethod y ∈ Ts) (hsel : Cond.selects C y y ∈ Ts)
    (hd : y.cls ≠ "java/lang/invoke/MethodHandle" ∧ y.cls ≠ "java/lang/invoke/VarHandle" ∧ (parseMethodDescriptor y.desc).map (fun d => d.parameters.length) = some na)
    (hR : f' + 1 ≤ rm.frames ∧ 8 + (maxL + 11) + lo' ≤ rm.locals) (hcl : vwCl[c]? = some (C, T, N)) (hc : c < 13) (hk : jk Z b c) (hn : As.length = na) (hst : st = As.reverse ++ .ref b :: rest) (hcat : (rest.map fun v => v.category).sum ≤ 8)
    (hf : k + (B.1 - jcz Z) ≤ rm.cells ∧ n + (B.2 - jsz Z) ≤ rm.slots) (d : decode cc pc = .ok (.invokevirtual i, 3))
    (kk : ∀ v Z' I' L', Rt' v Z' I' L' → jle Z Z' → jJ G nL (pc + 3) lv (v.toList ++ rest) Z' I' L' (k + (jcz Z' - jcz Z)) (n + (jsz Z' - jsz Z))) : jJ G nL pc lv st Z I L k n := by
  intro H locs ls hl hP hD hS
  have eR := E.2.2.2.2.2.2.1
  obtain ⟨q, hq⟩ := jw_get (X := gX G) (cy := gY G) (I := I) (L := L) hk.1
  rw [jf_obj hk.2 hc] at hq
  have hrun := va_runVN (p := gP G) (l := gL G) (e := gE G) (R := gR G) (s := gS G) (m := gM G) (args := gV G) (below := gB G) (meth := gH G) (c := gC G) (H := H) (locs := locs) (cells := k) (slots := n) (g := F0 (gM G) pc ls st) (As := As) (rest := rest) E.1 (hM H.size) ⟨va_cnB na E.1.2.2.2.2 hg hw rfl rfl (E.2.2.2.1.1 _ hlk) (E.1.2.2.2.2 _ hini) hd (by rw [eR]; exact hR), E.1.2.2.2.2 _ hinst, E.1.2.2.2.2 _ hsel⟩
    ⟨jP_blind, va_recv E.2.1 hP hcl hq, fun U hU hW => ⟨rfl, by rw [hU], by rw [hU]; exact j_cutP hP, va_K.moved hW.alike E.2.1, (j_cutD hD).weaken (fun _ _ _ _ => trivial), jN_warm hW E.2.2.2.1⟩⟩ rfl hn hl.1 hst (lv_room hcat) d (by rw [eR]; exact hf)
  exact ju_back E hrun hl hP hD hS kk
theorem ju_callS (E : jE G cc own Ts nL ret rm Rt) {y : MethodName} {ws ws' : List Cond} {f' lo' : Nat} {bytes : ByteArray} {maxL : Nat} {ret' : Option FieldType} {i na : Nat} {Rt' : jRt} (As rest : List Value)
    (hM : jCtU (gL G) y ws B f' lo' (gD G) (gY G) As Z I L Rt') (hg : GoodIn Ts (va_wsS own i y ws)) (hw : ws = Cond.code y bytes maxL ret' :: ws')
    (hd : y.cls ≠ "java/lang/invoke/MethodHandle" ∧ y.cls ≠ "java/lang/invoke/VarHandle" ∧ (parseMethodDescriptor y.desc).map (fun d => d.parameters.length) = some na)
    (hR : f' + 1 ≤ rm.frames ∧ 8 + (maxL + 11) + lo' ≤ rm.locals) (hn : As.length = na) (hst : st = As.reverse ++ rest) (hcat : (rest.map fun v => v.category).sum ≤ 8)
    (hf : k + (B.1 - jcz Z) ≤ rm.cells ∧ n + (B.2 - jsz Z) ≤ rm.slots) (d : decode cc pc = .ok (.invokestatic i, 3))
    (kk : ∀ v Z' I' L', Rt' v Z' I' L' → jle Z Z' → jJ G nL (pc + 3) lv (v.toList ++ rest) Z' I' L' (k + (jcz Z' - jcz Z)) (n + (jsz Z' - jsz Z))) : jJ G nL pc lv st Z I L k n := by
  intro H locs ls hl hP hD hS
  have eR := E.2.2.2.2.2.2.1
  have hrun := va_runS (p := gP G) (l := gL G) (e := gE G) (R := gR G) (s := gS G) (m := gM G) (args := gV G) (below := gB G) (meth := gH G) (c := gC G) (H := H) (locs := locs) (cells := k) (slots := n) (g := F0 (gM G) pc ls st) (As := As) (rest := rest) E.1 (hM H.size) (va_cwS na E.1.2.2.2.2 hg hw rfl rfl hd (by rw [eR]; exact hR))
    ⟨jP_blind, fun U hU hW => ⟨rfl, by rw [hU], by rw [hU]; exact j_cutP hP, va_K.moved hW.alike E.2.1, (j_cutD hD).weaken (fun _ _ _ _ => trivial), jN_warm hW E.2.2.2.1⟩⟩ rfl hn hl.1 hst (lv_room hcat) d (by rw [eR]; exact hf)
  exact ju_back E hrun hl hP hD hS kk
/-- the counts behind a call, in a method that makes cells itself -/
theorem ju_next (hc : jle Z0 Z) {Z' : jZ} (h : jle Z Z') (kk : jJ G nL pc lv st Z' I L (jcz Z' - jcz Z0) (jsz Z' - jsz Z0)) : jJ G nL pc lv st Z' I L (jcz Z - jcz Z0 + (jcz Z' - jcz Z)) (jsz Z - jsz Z0 + (jsz Z' - jsz Z)) := by
  have h1 := hc.1
  have h2 := hc.2
  have h3 := h.1
  have h4 := h.2
  exact j_kn (by omega) (by omega) kk
theorem ju_f (hc : jle Z0 Z) (hb : jin B Z) : jcz Z - jcz Z0 + (B.1 - jcz Z) ≤ B.1 - jcz Z0 ∧ jsz Z - jsz Z0 + (B.2 - jsz Z) ≤ B.2 - jsz Z0 := by
  have h1 := hc.1
  have h2 := hc.2
  have h3 := hb.1
  have h4 := hb.2
  constructor <;> omega
/-- a new array of longs, of any length -/
theorem ju_newaJ (E : jE G cc own Ts nL ret (jrm B f lo Z0) Rt) (hc : jle Z0 Z) {m : Int32} (hm : ¬ m < 0) (hb : m.toNatClampNeg ≤ 67108864) (w1 : Cond.arrayClass .long ∈ Ts) (h1 : jcz Z + 1 ≤ B.1) (h2 : jsz Z + m.toNatClampNeg ≤ B.2) (d : decode cc pc = .ok (.newarray .long, 2))
    (kk : ∀ q, q ∉ Z.1 → jJ G nL (pc + 2) lv (.ref q :: st) (jnw Z q 15 m.toNatClampNeg) (jz0 I q) (jzL L q) (jcz (jnw Z q 15 m.toNatClampNeg) - jcz Z0) (jsz (jnw Z q 15 m.toNatClampNeg) - jsz Z0)) : jJ G nL pc lv (.int m :: st) Z I L (jcz Z - jcz Z0) (jsz Z - jsz Z0) := by
  have g1 := hc.1
  have g2 := hc.2
  refine j_newaJ E m.toNatClampNeg hm rfl (by show m.toNatClampNeg * 8 ≤ 536870912; omega) w1 (by show _ ≤ B.1 - jcz Z0; omega) (by show _ ≤ B.2 - jsz Z0; omega) d (fun q hq => ?_)
  refine j_kn ?_ ?_ (kk q hq)
  · rw [jcz_nw]
    omega
  · rw [jsz_nw hq, show jcs 15 m.toNatClampNeg = m.toNatClampNeg from rfl]
    omega
/-- System.arraycopy of longs -/
theorem j_copyl (E : jE G cc own Ts nL ret rm Rt) {i a b : Nat} {sp dp m : Int32} (w1 : Cond.methodLink own i arraycopyName ∈ Ts) (w2 : Cond.native arraycopyName ∈ Ts) (w3 : Cond.static arraycopyName ∈ Ts) (w4 : Cond.initialized "java/lang/System" ∈ Ts) (hka : jk Z a 15) (hkb : jk Z b 15) (h1 : ¬ sp < 0) (h2 : ¬ dp < 0) (h3 : ¬ m < 0) (h4 : sp.toNatClampNeg + m.toNatClampNeg ≤ jlen Z a) (h5 : dp.toNatClampNeg + m.toNatClampNeg ≤ jlen Z b) (hf : 1 ≤ rm.frames) (hlo : (st.map fun v => v.category).sum + (nativeFrameWords "java/lang/System" "arraycopy" 5 + 11) ≤ rm.locals) (d : decode cc pc = .ok (.invokestatic i, 3)) (kk : jJ G nL (pc + 3) lv st Z I (va_up L b (va_cpy (L a) (L b) sp.toNatClampNeg dp.toNatClampNeg m.toNatClampNeg)) k n) : jJ G nL pc lv (.int m :: .int dp :: .ref b :: .int sp :: .ref a :: st) Z I L k n := by
  intro H locs ls hl hP hD hS
  have hD0 := hD
  have eR := E.2.2.2.2.2.2.1
  obtain ⟨qa, hqa⟩ := jw_get (X := gX G) (cy := gY G) (I := I) (L := L) hka.1
  obtain ⟨qb, hqb⟩ := jw_get (X := gX G) (cy := gY G) (I := I) (L := L) hkb.1
  have hq0 := hqb
  rw [jf_15 hka.2] at hqa
  rw [jf_15 hkb.2] at hqb
  refine va_copyl E.1.1 E.1.2.1 (by rw [E.1.2.2.1]; exact hl.1.symm) E.1.2.2.2.1 (E.1.2.2.2.2 _ w1) (E.1.2.2.2.2 _ w2) (E.1.2.2.2.2 _ w3) (E.1.2.2.2.2 _ w4) E.2.1 hP hD hS qa qb 2 2 hqa hqb rfl rfl rfl h1 h2 h3 h4 h5 (fun _ _ => rfl) (by rw [eR]; exact hf) (by rw [eR]; exact hlo) d (fun H locs hP hD hS => ?_)
  have e := jw_set (X := gX G) (cy := gY G) (Z := Z) (Z' := Z) (I := I) (I' := I) (L := L) (L' := va_up L b (va_cpy (L a) (L b) sp.toNatClampNeg dp.toNatClampNeg m.toNatClampNeg)) (a := b) (q := qb) hD0 hkb.1 hq0 rfl (by rw [jf_15 hkb.2]) (fun c hc => jf_L_ne hc)
  simp only [va_up_self] at e
  rw [e] at hP hD
  exact kk H locs ls hl hP hD hS
/-- a contract within bounds, from the walk of the body -/
theorem jCtU_of {l : Launch} {y : MethodName} {ws ws' : List Cond} {D : va_G} {cy : jC} {as : List Value} {Rt : jRt} {cc : ByteArray} {maxL : Nat} {ret : Option FieldType} (hy : plainName y.cls = true) (hw : ws = Cond.code y cc maxL ret :: ws') (hlen : (lg_sl as).length ≤ maxL)
    (h : ∀ G : jG, gD G = D → gY G = cy → gL G = l → jE G cc y.cls ws maxL ret (jrm B f lo Z) jRF → jEU G B Z Rt → jJ G maxL 0 (lv_args 0 as) [] Z I L (jcz Z - jcz Z) (jsz Z - jsz Z)) : jCtU l y ws B f lo D cy as Z I L Rt := by
  intro sz
  refine Met.ofW (cc := cc) (maxL := maxL) (ret := ret) hy hw ?_
  intro p e s m args below meth c s₁ Bd hml hv
  obtain ⟨rfl, hsz, hP, hK, hD0, hN⟩ := hv
  subst hsz
  have hD := hD0.self (sz := s.heap.size)
  have hown : s.vm.findClass y.cls = some m.cls := findClass_of_methodNamed Bd.named
  have hl := lv_entry as (n := maxL) hlen
  rw [lg_entry_eq]
  generalize (lg_sl as ++ List.replicate (maxL - (lg_sl as).length) Slot.unset).toArray = ls at hl ⊢
  have key := h ((p, l, e, (headSpec ws (jrm B f lo Z)).room, s, m, as.toArray, below, meth, c), D, cy, [], va_A (jw cy Z I L) s.heap.size, MQ below (jQU D cy Rt (va_A (jw cy Z I L) s.heap.size) Z) as.toArray s (B.1 - jcz Z) (B.2 - jsz Z) (va_A (jw cy Z I L) s.heap.size)) rfl rfl rfl
    ⟨⟨Bd.exec, Bd.bytes, hml, hown, atoms_spec (ws := ws) Bd.pre⟩, hK, fun q h => Or.inr h, hN, Bd.returns, Bd.notSynchronized, rfl, fun t h => by
      obtain ⟨o, h1, h2, ⟨⟨v, Z, I, L, h3, h4, -⟩, -⟩, -⟩ := h
      exact h4.elim⟩ (fun _ h => h)
  rw [Nat.sub_self, Nat.sub_self] at key
  exact key s.heap [] ls hl hP hD va_S.rf
end JU
/-! the ends of methods that make cells -/
def urtV (B : Nat × Nat) (Z : jZ) (Q : jZ → jI → jL → Prop) : jRt := fun v Z' I' L' => jext Z Z' ∧ SH Z' ∧ jin B Z' ∧ v = none ∧ Q Z' I' L'
def urtI (B : Nat × Nat) (Z : jZ) (Q : Int32 → jZ → jI → jL → Prop) : jRt := fun v Z' I' L' => jext Z Z' ∧ SH Z' ∧ jin B Z' ∧ ∃ r : Int32, v = some (.int r) ∧ Q r Z' I' L'
def urtZ (B : Nat × Nat) (Z : jZ) (Q : Int32 → jZ → jI → jL → Prop) : jRt := fun v Z' I' L' => jext Z Z' ∧ SH Z' ∧ jin B Z' ∧ ∃ r : Int32, v = some (.int r) ∧ (r = 0 ∨ r = 1) ∧ Q r Z' I' L'
def urtL (B : Nat × Nat) (Z : jZ) (Q : Int64 → jZ → jI → jL → Prop) : jRt := fun v Z' I' L' => jext Z Z' ∧ SH Z' ∧ jin B Z' ∧ ∃ r : Int64, v = some (.long r) ∧ Q r Z' I' L'
def urtR (k : Nat) (B : Nat × Nat) (Z : jZ) (Q : Option Nat → jZ → jI → jL → Prop) : jRt := fun v Z' I' L' => jext Z Z' ∧ SH Z' ∧ jin B Z' ∧ ∃ r : Option Nat, v = some (va_rf r) ∧ (∀ b, r = some b → jk Z' b k) ∧ Q r Z' I' L'
/-- a new array of numbers: the shape stays -/
theorem SH_nwa {Z : jZ} {q k m : Nat} (h : SH Z) (hq : q ∉ Z.1) (h1 : 13 ≤ k) (h2 : k ≤ 16) : SH (jnw Z q k m) := by
  have hx : jext Z (jnw Z q k m) := jext_nw hq
  have old : ∀ a c, jk (jnw Z q k m) a c → a ≠ q → jk Z a c := fun a c ha hne => by
    refine ⟨?_, ?_⟩
    · rcases List.mem_append.mp ha.1 with h1 | h1
      · exact h1
      · exact absurd (List.mem_singleton.mp h1) hne
    · have h2 : va_up Z.2.1 q k a = c := ha.2
      rw [va_up_ne _ _ hne] at h2
      exact h2
  have er : ∀ a i, a ≠ q → jr (jnw Z q k m) a i = jr Z a i := fun a i hne => congrFun (va_up_ne _ _ hne) i
  have kq : ∀ c, jk (jnw Z q k m) q c → c = k := fun c hc => hc.2.symm.trans (va_up_self _ _ _)
  have js : ∀ j, jsh k j = none := fun j => by
    rcases (show k = 13 ∨ k = 14 ∨ k = 15 ∨ k = 16 by omega) with rfl | rfl | rfl | rfl <;> rfl
  refine ⟨fun a c ha j k' o e => ?_, fun a ha i b e => ?_, fun a ha i hi => ?_, fun a ha i hi => ?_⟩
  · by_cases hne : a = q
    · subst hne
      rw [kq c ha, js j] at e
      cases e
    · obtain ⟨b, h1, h2, h3⟩ := h.1 a c (old a c ha hne) j k' o e
      exact ⟨b, (er a j hne).trans h1, (hx b k' h2).1, fun m' hm => (hx b k' h2).2.trans (h3 m' hm)⟩
  · by_cases hne : a = q
    · subst hne
      have := kq 18 ha
      omega
    · rw [er a i hne] at e
      exact (hx _ _ (h.2.1 a (old a 18 ha hne) i b e)).1
  · by_cases hne : a = q
    · subst hne
      have := kq 17 ha
      omega
    · have ha' := old a 17 ha hne
      rw [(hx a 17 ha').2] at hi
      obtain ⟨b, h1, h2⟩ := h.2.2.1 a ha' i hi
      exact ⟨b, (er a i hne).trans h1, (hx _ _ h2).1⟩
  · by_cases hne : a = q
    · subst hne
      have := kq 19 ha
      omega
    · have ha' := old a 19 ha hne
      rw [(hx a 19 ha').2] at hi
      obtain ⟨b, h1, h2, h3⟩ := h.2.2.2 a ha' i hi
      exact ⟨b, (er a i hne).trans h1, (hx _ _ h2).1, (hx _ _ h2).2.trans h3⟩
/-- Rows.keys is put -/
theorem SH_keys {Z : jZ} {a b : Nat} (h : SH Z) (ha : jk Z a 7) (hb : jk Z b 15) : SH (jpR Z a 0 (some b)) := by
  have e : ∀ x j, ¬ (x = a ∧ j = 0) → jr (jpR Z a 0 (some b)) x j = jr Z x j := by
    intro x j hn
    show va_up Z.2.2.2 a (va_up (Z.2.2.2 a) 0 (some b)) x j = Z.2.2.2 x j
    by_cases hx : x = a
    · subst hx
      rw [va_up_self, va_up_ne _ _ (fun q => hn ⟨rfl, q⟩)]
    · rw [va_up_ne _ _ hx]
  refine ⟨fun x c hx j k o he => ?_, fun x hx j y hy => ?_, fun x hx j hj => ?_, fun x hx j hj => ?_⟩
  · by_cases q : x = a ∧ j = 0
    · obtain ⟨rfl, rfl⟩ := q
      have ec : c = 7 := hx.2.symm.trans ha.2
      subst ec
      have he : some (15, none) = some (k, o) := he
      cases he
      exact ⟨b, by show va_up Z.2.2.2 x (va_up (Z.2.2.2 x) 0 (some b)) x 0 = some b; rw [va_up_self, va_up_self], hb, fun m hm => by cases hm⟩
    · rw [e x j q]
      exact h.1 x c hx j k o he
  · rw [e x j (fun q => by obtain ⟨rfl, rfl⟩ := q; have e2 : 18 = 7 := hx.2.symm.trans ha.2; omega)] at hy
    exact h.2.1 x hx j y hy
  · rw [e x j (fun q => by obtain ⟨rfl, rfl⟩ := q; have e2 : 17 = 7 := hx.2.symm.trans ha.2; omega)]
    exact h.2.2.1 x hx j hj
  · rw [e x j (fun q => by obtain ⟨rfl, rfl⟩ := q; have e2 : 19 = 7 := hx.2.symm.trans ha.2; omega)]
    exact h.2.2.2 x hx j hj
section JMINL
variable {G : jG} {cc : ByteArray} {own : String} {Ts : List Cond} {nL : Nat} {ret : Option FieldType} {rm : Room} {Rt : jRt} {pc : Nat} {lv : List (Nat × Value)} {st : List Value} {Z : jZ} {I : jI} {L : jL} {k n : Nat}
/-- Math.min of longs -/
theorem j_minl (E : jE G cc own Ts nL ret rm Rt) {i : Nat} {x y : Int64} (w1 : Cond.methodLink own i Lib.MathLoose.min_long.x ∈ Ts) (w2 : Cond.static Lib.MathLoose.min_long.x ∈ Ts) (w3 : Cond.initialized "java/lang/Math" ∈ Ts) (w4 : Cond.code Lib.MathLoose.min_long.x Lib.MathLoose.min_long.code 4 (some .long) ∈ Ts) (h1 : 1 ≤ rm.frames) (h2 : (st.map fun v => v.category).sum + 15 ≤ rm.locals) (h3 : k ≤ rm.cells) (h4 : n ≤ rm.slots) (d : decode cc pc = .ok (.invokestatic i, 3)) (kk : jJ G nL (pc + 3) lv (.long (if y < x then y else x) :: st) Z I L k n) : jJ G nL pc lv (.long y :: .long x :: st) Z I L k n := by
  intro H locs ls hl hP hD hS
  have eR := E.2.2.2.2.2.2.1
  exact va_mmin_long E.1.1 E.1.2.1 (by rw [E.1.2.2.1]; exact hl.1.symm) E.1.2.2.2.1 (E.1.2.2.2.2 _ w1) (E.1.2.2.2.2 _ w2) (E.1.2.2.2.2 _ w3) (E.1.2.2.2.2 _ w4) (by rw [eR]; exact h1) (by rw [eR]; exact h2) (by rw [eR]; exact h3) (by rw [eR]; exact h4) d (kk H locs ls hl hP hD hS)
end JMINL
end
