/-! ===== J: the machine over one pool of cells, in few words ===== -/
abbrev jC : Type := ClassId × ClassId × ClassId × ClassId × ClassId × ClassId × ClassId
/-- the shape: addresses, kind of each, length, references -/
abbrev jZ : Type := List Nat × (Nat → Nat) × (Nat → Nat) × (Nat → Nat → Option Nat)
abbrev jI : Type := Nat → Nat → Int32
abbrev jL : Type := Nat → Nat → Int64
def jnum : Nat → Nat := fun c => match c with
  | 0 => 3
  | 1 => 10
  | 2 => 9
  | 3 => 9
  | 4 => 5
  | 5 => 9
  | 6 => 16
  | 7 => 10
  | 8 => 10
  | 9 => 9
  | 10 => 2
  | 11 => 17
  | 12 => 67
  | _ => 0
def jty : Nat → Nat → FieldType := fun c => match c with
  | 0 => tyX0
  | 1 => tyX1
  | 2 => tyX2
  | 3 => tyX3
  | 4 => tyX4
  | 5 => tyX5
  | 6 => tyX6
  | 7 => tyX7
  | 8 => tyX8
  | 9 => tyX9
  | 10 => tyX10
  | 11 => tyX11
  | 12 => tyX12
  | _ => fun _ => .int
def jval (ty : FieldType) (i : Int32) (j : Int64) (r : Option Nat) : Value := match ty with
  | .long => .long j
  | .object _ => va_rf r
  | .array _ => va_rf r
  | _ => .int i
def jint (ty : FieldType) : Bool := match ty with
  | .int => true
  | .boolean => true
  | _ => false
def jref (ty : FieldType) : Bool := match ty with
  | .object _ => true
  | .array _ => true
  | _ => false
def jfs (c : Nat) (I : Nat → Int32) (L : Nat → Int64) (R : Nat → Option Nat) : List Value := (List.range (jnum c)).map (fun k => jval (jty c k) (I k) (L k) (R k))
def jf (cy : jC) (Z : jZ) (I : jI) (L : jL) (a : Nat) : va_E :=
  if Z.2.1 a < 13 then .inr (Z.2.1 a, jfs (Z.2.1 a) (I a) (L a) (Z.2.2.2 a))
  else if Z.2.1 a = 13 then .inl (cy.1, Z.2.2.1 a, .inl (I a))
  else if Z.2.1 a = 14 then .inl (cy.2.1, Z.2.2.1 a, .inl (I a))
  else if Z.2.1 a = 15 then .inl (cy.2.2.1, Z.2.2.1 a, .inr (.inl (L a)))
  else if Z.2.1 a = 16 then .inl (cy.2.2.2.1, Z.2.2.1 a, .inl (I a))
  else if Z.2.1 a = 17 then .inl (cy.2.2.2.2.1, Z.2.2.1 a, .inr (.inr (.inr (.inr (Z.2.2.2 a)))))
  else if Z.2.1 a = 18 then .inl (cy.2.2.2.2.2.1, Z.2.2.1 a, .inr (.inr (.inr (.inr (Z.2.2.2 a)))))
  else .inl (cy.2.2.2.2.2.2, Z.2.2.1 a, .inr (.inr (.inr (.inr (Z.2.2.2 a)))))
def jw (cy : jC) (Z : jZ) (I : jI) (L : jL) : va_W := va_pl Z.1 (jf cy Z I L)
def jtys (cy : jC) : List (ClassId × FieldType) := [(cy.1, .byte), (cy.2.1, .int), (cy.2.2.1, .long), (cy.2.2.2.1, .boolean), (cy.2.2.2.2.1, .object RX2), (cy.2.2.2.2.2.1, .object RX5), (cy.2.2.2.2.2.2, .array .byte)]
/-- a is a cell of kind k -/
abbrev jk (Z : jZ) (a k : Nat) : Prop := a ∈ Z.1 ∧ Z.2.1 a = k
abbrev jlen (Z : jZ) (a : Nat) : Nat := Z.2.2.1 a
abbrev jr (Z : jZ) (a k : Nat) : Option Nat := Z.2.2.2 a k
/-- the words of nest mates, and of arrays over classes: they hold in every state -/
def jnest : List Cond := [
  .fieldLinkNest "StairsInSteps" 94 "StairsInSteps$Text" "size" "I" "StairsInSteps",
  .fieldLinkNest "StairsInSteps$StairsReader" 40 "StairsInSteps$Text" "size" "I" "StairsInSteps",
  .fieldLinkNest "StairsInSteps$Law" 44 "StairsInSteps$Text" "size" "I" "StairsInSteps",
  .fieldLinkNest "StairsInSteps$Stairs" 54 "StairsInSteps$StairsReader" "rise" "[I" "StairsInSteps",
  .fieldLinkNest "StairsInSteps$Stairs" 61 "StairsInSteps$StairsReader" "state" "[I" "StairsInSteps",
  .fieldLinkNest "StairsInSteps$Stairs" 62 "StairsInSteps$StairsReader" "asks" "[I" "StairsInSteps",
  .fieldLinkNest "StairsInSteps$Stairs" 63 "StairsInSteps$StairsReader" "widow" "[I" "StairsInSteps",
  .fieldLinkNest "StairsInSteps$Stairs" 64 "StairsInSteps$StairsReader" "owner" "[I" "StairsInSteps",
  .fieldLinkNest "StairsInSteps$Stairs" 51 "StairsInSteps$StairsReader" "size" "I" "StairsInSteps",
  .fieldLinkNest "StairsInSteps$Kept" 59 "StairsInSteps$Parts" "owned" "[I" "StairsInSteps",
  .fieldLinkNest "StairsInSteps" 369 "StairsInSteps$Parts" "sales" "I" "StairsInSteps",
  .fieldLinkNest "StairsInSteps" 148 "StairsInSteps$Stairs" "rise" "[I" "StairsInSteps",
  .fieldLinkNest "StairsInSteps$Kept" 41 "StairsInSteps$Stairs" "state" "[I" "StairsInSteps",
  .fieldLinkNest "StairsInSteps" 151 "StairsInSteps$Stairs" "state" "[I" "StairsInSteps",
  .fieldLinkNest "StairsInSteps$Kept" 52 "StairsInSteps$Stairs" "asks" "[I" "StairsInSteps",
  .fieldLinkNest "StairsInSteps" 154 "StairsInSteps$Stairs" "asks" "[I" "StairsInSteps",
  .fieldLinkNest "StairsInSteps$Routes" 188 "StairsInSteps$Stairs" "asks" "[I" "StairsInSteps",
  .fieldLinkNest "StairsInSteps" 157 "StairsInSteps$Stairs" "widow" "[I" "StairsInSteps",
  .fieldLinkNest "StairsInSteps$Kept" 55 "StairsInSteps$Stairs" "shares" "LStairsInSteps$Parts;" "StairsInSteps",
  .fieldLinkNest "StairsInSteps$Routes" 79 "StairsInSteps$Stairs" "shares" "LStairsInSteps$Parts;" "StairsInSteps",
  .fieldLinkNest "StairsInSteps" 160 "StairsInSteps$Stairs" "shares" "LStairsInSteps$Parts;" "StairsInSteps",
  .fieldLinkNest "StairsInSteps" 128 "StairsInSteps$Stairs" "treading" "LStairsInSteps$Law;" "StairsInSteps",
  .fieldLinkNest "StairsInSteps" 135 "StairsInSteps$Stairs" "leaping" "LStairsInSteps$Law;" "StairsInSteps",
  .fieldLinkNest "StairsInSteps$Routes" 68 "StairsInSteps$Stairs" "size" "I" "StairsInSteps",
  .fieldLinkNest "StairsInSteps" 172 "StairsInSteps$Stairs" "size" "I" "StairsInSteps",
  .fieldLinkNest "StairsInSteps" 416 "StairsInSteps$Kept" "earnings" "[I" "StairsInSteps",
  .fieldLinkNest "StairsInSteps" 419 "StairsInSteps$Kept" "size" "I" "StairsInSteps",
  .fieldLinkNest "StairsInSteps" 124 "StairsInSteps$Kept" "holds" "Z" "StairsInSteps",
  .fieldLinkNest "StairsInSteps$ByCost" 86 "StairsInSteps$Rows" "waiting" "I" "StairsInSteps",
  .fieldLinkNest "StairsInSteps" 305 "StairsInSteps$ByCost" "easiestWays" "J" "StairsInSteps",
  .fieldLinkNest "StairsInSteps" 400 "StairsInSteps$Feast" "waited" "[I" "StairsInSteps",
  .fieldLinkNest "StairsInSteps" 409 "StairsInSteps$Feast" "waitedFor" "[I" "StairsInSteps",
  .fieldLinkNest "StairsInSteps" 406 "StairsInSteps$Feast" "minutes" "I" "StairsInSteps",
  .fieldLinkNest "StairsInSteps" 403 "StairsInSteps$Feast" "crowd" "I" "StairsInSteps",
  .fieldLinkNest "StairsInSteps$ByCost" 65 "StairsInSteps$Routes" "knees" "I" "StairsInSteps",
  .fieldLinkNest "StairsInSteps$ByCost" 48 "StairsInSteps$Routes" "purse" "I" "StairsInSteps",
  .fieldLinkNest "StairsInSteps$ByCost" 109 "StairsInSteps$Routes" "leap" "I" "StairsInSteps",
  .fieldLinkNest "StairsInSteps$ByCost" 116 "StairsInSteps$Routes" "cost" "[I" "StairsInSteps",
  .fieldLinkNest "StairsInSteps$ByCost" 112 "StairsInSteps$Routes" "open" "[Z" "StairsInSteps",
  .fieldLinkNest "StairsInSteps$ByCost" 44 "StairsInSteps$Routes" "leastUp" "[I" "StairsInSteps",
  .fieldLinkNest "StairsInSteps$ByCost" 32 "StairsInSteps$Routes" "top" "I" "StairsInSteps",
  .fieldLinkNest "StairsInSteps" 216 "StairsInSteps$Pilgrim" "knees" "I" "StairsInSteps",
  .fieldLinkNest "StairsInSteps" 219 "StairsInSteps$Pilgrim" "purse" "I" "StairsInSteps",
  .fieldLinkNest "StairsInSteps" 210 "StairsInSteps$Pilgrim" "leap" "I" "StairsInSteps",
  .fieldLinkNest "StairsInSteps" 213 "StairsInSteps$Pilgrim" "load" "I" "StairsInSteps",
  .fieldLinkNest "StairsInSteps" 196 "StairsInSteps$Pilgrim" "vow" "I" "StairsInSteps",
  .fieldLinkNest "StairsInSteps$Kept" 66 "StairsInSteps$Pilgrim" "at" "I" "StairsInSteps",
  .fieldLinkNest "StairsInSteps" 201 "StairsInSteps$Pilgrim" "at" "I" "StairsInSteps",
  .fieldLinkNest "StairsInSteps$Kept" 70 "StairsInSteps$Pilgrim" "kneesLeft" "I" "StairsInSteps",
  .fieldLinkNest "StairsInSteps" 204 "StairsInSteps$Pilgrim" "kneesLeft" "I" "StairsInSteps",
  .fieldLinkNest "StairsInSteps$Kept" 72 "StairsInSteps$Pilgrim" "purseLeft" "I" "StairsInSteps",
  .fieldLinkNest "StairsInSteps" 207 "StairsInSteps$Pilgrim" "purseLeft" "I" "StairsInSteps",
  .fieldLinkNest "StairsInSteps" 263 "StairsInSteps$Pilgrim" "routes" "LStairsInSteps$Routes;" "StairsInSteps",
  .methodLinkNest "StairsInSteps" 11 ⟨"StairsInSteps$Text", "<init>", "()V"⟩ "StairsInSteps",
  .methodLinkNest "StairsInSteps" 18 ⟨"StairsInSteps$StairsReader", "<init>", "()V"⟩ "StairsInSteps",
  .methodLinkNest "StairsInSteps" 25 ⟨"StairsInSteps$Stairs", "<init>", "()V"⟩ "StairsInSteps",
  .methodLinkNest "StairsInSteps$Stairs" 26 ⟨"StairsInSteps$Parts", "<init>", "()V"⟩ "StairsInSteps",
  .methodLinkNest "StairsInSteps$Stairs" 36 ⟨"StairsInSteps$Law", "<init>", "()V"⟩ "StairsInSteps",
  .methodLinkNest "StairsInSteps" 52 ⟨"StairsInSteps$Kept", "<init>", "()V"⟩ "StairsInSteps",
  .methodLinkNest "StairsInSteps" 59 ⟨"StairsInSteps$ByCost", "<init>", "()V"⟩ "StairsInSteps",
  .methodLinkNest "StairsInSteps$ByCost" 11 ⟨"StairsInSteps$Rows", "<init>", "()V"⟩ "StairsInSteps",
  .methodLinkNest "StairsInSteps" 66 ⟨"StairsInSteps$Feast", "<init>", "()V"⟩ "StairsInSteps",
  .methodLinkNest "StairsInSteps$StairsReader" 75 ⟨"StairsInSteps", "isFamily", "(I)Z"⟩ "StairsInSteps",
  .methodLinkNest "StairsInSteps$Parts" 34 ⟨"StairsInSteps", "isFamily", "(I)Z"⟩ "StairsInSteps",
  .methodLinkNest "StairsInSteps$Stairs" 71 ⟨"StairsInSteps", "isFamily", "(I)Z"⟩ "StairsInSteps",
  .methodLinkNest "StairsInSteps$Routes" 30 ⟨"StairsInSteps$Rows", "<init>", "()V"⟩ "StairsInSteps",
  .methodLinkNest "StairsInSteps$Routes" 111 ⟨"StairsInSteps", "bitOf", "(I)J"⟩ "StairsInSteps",
  .methodLinkNest "StairsInSteps$Rows" 89 ⟨"StairsInSteps", "costIn", "(J)I"⟩ "StairsInSteps",
  .methodLinkNest "StairsInSteps$Rows" 75 ⟨"StairsInSteps", "effortIn", "(J)I"⟩ "StairsInSteps",
  .methodLinkNest "StairsInSteps$ByCost" 119 ⟨"StairsInSteps$Routes", "moveTo", "(II)I"⟩ "StairsInSteps",
  .methodLinkNest "StairsInSteps$ByCost" 71 ⟨"StairsInSteps", "costIn", "(J)I"⟩ "StairsInSteps",
  .methodLinkNest "StairsInSteps$ByCost" 93 ⟨"StairsInSteps", "effortIn", "(J)I"⟩ "StairsInSteps",
  .methodLinkNest "StairsInSteps$Routes" 191 ⟨"StairsInSteps", "isAsked", "(I)Z"⟩ "StairsInSteps",
  .methodLinkNest "StairsInSteps$Routes" 172 ⟨"StairsInSteps", "costIn", "(J)I"⟩ "StairsInSteps",
  .methodLinkNest "StairsInSteps$Feast" 68 ⟨"StairsInSteps", "treads", "(JI)Z"⟩ "StairsInSteps"]
/-- arrays of arrays of bytes can be made -/
def jAA (U : State) : Prop := (Cond.arrayOver (.array .byte)).before #[] U = true
def jN (U : State) : Prop := (∀ w ∈ jnest, va_Nw w U) ∧ va_AO RX5 U ∧ va_AO RX2 U ∧ jAA U
def jnestw (w : Cond) : Bool := match w with
  | .fieldLinkNest _ _ _ _ _ _ => true
  | .methodLinkNest _ _ _ _ => true

  | _ => false
theorem jnest_all : ∀ w ∈ jnest, jnestw w = true := by decide +kernel
/-! the words: those of the tables that are good -/
def jT : List Cond := lw_tbl.filter goodWord
theorem jT_mem {w : Cond} (h : w ∈ lw_tbl) (g : goodWord w = true) : w ∈ jT := List.mem_filter.mpr ⟨h, g⟩
theorem jT_good {w : Cond} (h : w ∈ jT) : goodWord w = true := (List.mem_filter.mp h).2
theorem tw {c w : Cond} (h : w ∈ jT) : w ∈ c :: jT := List.mem_cons_of_mem _ h
theorem iw {c : Cond} {A : List Cond} (h : ∀ w ∈ A, w ∈ jT) : ∀ w ∈ A, w ∈ c :: jT := fun w hw => List.mem_cons_of_mem _ (h w hw)
theorem gwN {c cd : Cond} (h : cd ∈ jT) : GoodIn (c :: jT) (cd :: jT) := fun w hw => (List.mem_cons.mp hw).elim (fun e => by subst e; exact ⟨tw h, good_of_word (jT_good h)⟩) (fun e => ⟨tw e, good_of_word (jT_good e)⟩)
theorem gwA {c : Cond} {A ws : List Cond} (h : ∀ w ∈ A, w ∈ jT) (hw : GoodIn (c :: jT) ws) : GoodIn (c :: jT) (A ++ ws) := fun w q => (List.mem_append.mp q).elim (fun e => ⟨tw (h w e), good_of_word (jT_good (h w e))⟩) (hw w)
theorem gwV {c cd : Cond} {own C : String} {i : Nat} {y : MethodName} (h1 : Cond.methodLink own i y ∈ jT) (h2 : Cond.instanceMethod y ∈ jT) (h3 : Cond.selects C y y ∈ jT) (h4 : Cond.initialized C ∈ jT) (h5 : cd ∈ jT) : GoodIn (c :: jT) (wsV own i C y (cd :: jT)) := by
  refine gwA (fun w hw => ?_) (gwN h5)
  rcases List.mem_cons.mp hw with rfl | hw
  · exact h1
  rcases List.mem_cons.mp hw with rfl | hw
  · exact h2
  rcases List.mem_cons.mp hw with rfl | hw
  · exact h3
  rcases List.mem_cons.mp hw with rfl | hw
  · exact h4
  · exact absurd hw List.not_mem_nil
theorem gwS {c cd : Cond} {own : String} {i : Nat} {y : MethodName} (h1 : Cond.methodLink own i y ∈ jT) (h2 : Cond.static y ∈ jT) (h4 : Cond.initialized y.cls ∈ jT) (h5 : cd ∈ jT) : GoodIn (c :: jT) (va_wsS own i y (cd :: jT)) := by
  refine gwA (fun w hw => ?_) (gwN h5)
  rcases List.mem_cons.mp hw with rfl | hw
  · exact h1
  rcases List.mem_cons.mp hw with rfl | hw
  · exact h2
  rcases List.mem_cons.mp hw with rfl | hw
  · exact h4
  · exact absurd hw List.not_mem_nil
theorem jAA_moved {u U : State} (hvm : u.vm.Alike U.vm) (h : jAA u) : jAA U := by
  unfold jAA Cond.before at h ⊢
  simp only [Cond.holds, Cond.value, beq_iff_eq] at h ⊢
  cases hc : u.vm.findClass (FieldType.array .byte).toString with
  | none => simp [hc] at h
  | some comp =>
    simp only [hc, Option.bind_some, Option.bind_eq_some_iff, Option.map_eq_some_iff] at h
    obtain ⟨c, hi, k, hk, hb⟩ := h
    obtain ⟨k', hk', he⟩ := hvm.2.2 _ _ hk
    have hbe : U.vm.bare = u.vm.bare := by first | exact hvm.bare_eq | exact hvm.bare_eq.symm
    have e1 := va_idx_bare U.vm comp
    have e2 := va_idx_bare u.vm comp
    rw [hbe] at e1
    have hi' := e1.symm.trans (e2.trans hi)
    rw [hvm.findClass, hc]
    simp only [Option.bind_some, Option.bind_eq_some_iff, Option.map_eq_some_iff]
    refine ⟨c, hi', k', hk', ?_⟩
    have ek : k'.kind = k.kind := by rw [he]
    rw [ek, hvm.findClass]
    exact hb
theorem jN_alike {s U : State} (hvm : s.vm.Alike U.vm) (h : va_AO RX5 s ∧ va_AO RX2 s ∧ jAA s) : va_AO RX5 U ∧ va_AO RX2 U ∧ jAA U := ⟨va_AO.moved hvm h.1, va_AO.moved hvm h.2.1, jAA_moved hvm h.2.2⟩
theorem jN_warm {s U : State} (hW : s.WarmedH U.vm) (h : jN s) : jN U := by
  refine ⟨fun w hw => ?_, jN_alike hW.alike h.2⟩
  have h1 := h.1 w hw
  have h2 := jnest_all w hw
  cases w with
  | fieldLinkNest a i b n d hh => exact va_Nw.warmF hW h1
  | methodLinkNest a i x hh => exact va_Nw.warmM hW h1
  | _ => cases h2
theorem jN_same {s U : State} (e : s.vm = U.vm) (h : jN s) : jN U := by
  refine ⟨fun w hw => ?_, jN_alike (by rw [e]; exact Vm.Alike.refl U.vm) h.2⟩
  have h1 := h.1 w hw
  have h2 := jnest_all w hw
  cases w with
  | fieldLinkNest a i b n d hh => exact va_Nw.same rfl e h1
  | methodLinkNest a i x hh => exact va_Nw.same rfl e h1
  | _ => cases h2
/-- what a method answers, and leaves -/
abbrev jRt : Type := Option Value → jZ → jI → jL → Prop
abbrev jG : Type := (Program × Launch × Env × Room × State × MethodId × Array Value × List Frame × Method × Code) × va_G × jC × va_W × (Nat → Prop) × (State → Prop)
abbrev gP (G : jG) : Program := G.1.1
abbrev gL (G : jG) : Launch := G.1.2.1
abbrev gE (G : jG) : Env := G.1.2.2.1
abbrev gR (G : jG) : Room := G.1.2.2.2.1
abbrev gS (G : jG) : State := G.1.2.2.2.2.1
abbrev gM (G : jG) : MethodId := G.1.2.2.2.2.2.1
abbrev gV (G : jG) : Array Value := G.1.2.2.2.2.2.2.1
abbrev gB (G : jG) : List Frame := G.1.2.2.2.2.2.2.2.1
abbrev gH (G : jG) : Method := G.1.2.2.2.2.2.2.2.2.1
abbrev gC (G : jG) : Code := G.1.2.2.2.2.2.2.2.2.2
abbrev gD (G : jG) : va_G := G.2.1
abbrev gY (G : jG) : jC := G.2.2.1
/-- cells beside the pool, that stay -/
abbrev gX (G : jG) : va_W := G.2.2.2.1
abbrev gA (G : jG) : Nat → Prop := G.2.2.2.2.1
abbrev gQ (G : jG) : State → Prop := G.2.2.2.2.2
/-- the machine, at pc with these locals, this stack and this pool, comes to its end -/
def jJ (G : jG) (nL pc : Nat) (lv : List (Nat × Value)) (st : List Value) (Z : jZ) (I : jI) (L : jL) (k n : Nat) : Prop :=
  ∀ (H : Heap) (locs : List Loc) (ls : Array Slot), lv_has ls nL lv → va_P (gD G) vwCl (gX G ++ jw (gY G) Z I L) H → va_D (gA G) (gX G ++ jw (gY G) Z I L) → va_S (gA G) (gS G).heap H locs → W (gP G) (gL G) (gE G) (gR G) (gS G) (gM G) (gV G) (gB G) (gH G) (gC G) H locs k n (gQ G) (F0 (gM G) pc ls st)
/-- a method's end: what it answers and leaves -/
def jQ (D : va_G) (cy : jC) (Rt : jRt) (A : Nat → Prop) : Array Value → State → Outcome → State → Prop := fun _ st oc t =>
  (∃ (v : Option Value) (Z : jZ) (I : jI) (L : jL), oc = .returned v ∧ Rt v Z I L ∧ va_P D vwCl (jw cy Z I L) t.heap ∧ va_K D vwCl (jtys cy) t ∧ va_D A (jw cy Z I L)) ∧ va_F A st t
/-- a method's contract: from this pool it returns, and what it answers and leaves keeps Rt -/
def jCt (l : Launch) (y : MethodName) (ws : List Cond) (rm : Room) (D : va_G) (cy : jC) (as : List Value) (Z : jZ) (I : jI) (L : jL) (Rt : jRt) : Prop :=
  ∀ sz : Nat, Met l y ws rm (va_Pc as (fun U => U.heap.size = sz ∧ va_P D vwCl (jw cy Z I L) U.heap ∧ va_K D vwCl (jtys cy) U ∧ va_D (fun _ => True) (jw cy Z I L) ∧ jN U)) (jQ D cy Rt (va_A (jw cy Z I L) sz)) rm.cells rm.slots (va_A (jw cy Z I L) sz)
theorem W.mono {p : Program} {l : Launch} {e : Env} {R : Room} {s : State} {m : MethodId} {args : Array Value} {below : List Frame} {meth : Method} {c : Code} {H : Heap} {locs : List Loc} {cells slots : Nat} {Q Q' : State → Prop} {g : JFrame} (h : ∀ t, Q t → Q' t) (k : W p l e R s m args below meth c H locs cells slots Q g) : W p l e R s m args below meth c H locs cells slots Q' g := by
  intro T hT X
  obtain ⟨t, a, b⟩ := k T hT X
  exact ⟨t, a, h t b⟩
/-- what holds all along a method's body -/
def jE (G : jG) (cc : ByteArray) (own : String) (Ts : List Cond) (nL : Nat) (ret : Option FieldType) (rm : Room) (Rt : jRt) : Prop :=
  CallFix (gP G) (gM G) (gC G) cc nL (gS G) (gV G) Ts own ∧ va_K (gD G) vwCl (jtys (gY G)) (gS G) ∧ (∀ q, (gS G).heap.size ≤ q → gA G q) ∧ jN (gS G) ∧ (gH G).sig.returnType = ret ∧ (gH G).locks = false ∧ gR G = rm ∧ ∀ t : State, MQ (gB G) (jQ (gD G) (gY G) Rt (gA G)) (gV G) (gS G) rm.cells rm.slots (gA G) t → gQ G t
/-! the pool under puts -/
theorem jfs_get {c k : Nat} {I : Nat → Int32} {L : Nat → Int64} {R : Nat → Option Nat} (hk : k < jnum c) : (jfs c I L R)[k]? = some (jval (jty c k) (I k) (L k) (R k)) := by
  simp [jfs, hk]
theorem jfs_len {c : Nat} {I : Nat → Int32} {L : Nat → Int64} {R : Nat → Option Nat} : (jfs c I L R).length = jnum c := by simp [jfs]
theorem jval_int {ty : FieldType} (h : jint ty = true) (i : Int32) (j : Int64) (r : Option Nat) : jval ty i j r = .int i := by
  cases ty <;> first | rfl | cases h
theorem jval_ref {ty : FieldType} (h : jref ty = true) (i : Int32) (j : Int64) (r : Option Nat) : jval ty i j r = va_rf r := by
  cases ty <;> first | rfl | cases h
theorem jfs_setI {c k : Nat} {I : Nat → Int32} {L : Nat → Int64} {R : Nat → Option Nat} (hk : k < jnum c) (ht : jint (jty c k) = true) (v : Int32) : (jfs c I L R).set k (.int v) = jfs c (upd I k v) L R := by
  apply List.ext_getElem?
  intro j
  by_cases hj : j = k
  · subst hj
    rw [List.getElem?_set_self (by rw [jfs_len]; exact hk), jfs_get hk, jval_int ht]
    simp [upd]
  · rw [List.getElem?_set_ne (Ne.symm hj)]
    by_cases h : j < jnum c
    · rw [jfs_get h, jfs_get h]
      simp [upd, hj]
    · rw [List.getElem?_eq_none (by rw [jfs_len]; omega), List.getElem?_eq_none (by rw [jfs_len]; omega)]
theorem jfs_setL {c k : Nat} {I : Nat → Int32} {L : Nat → Int64} {R : Nat → Option Nat} (hk : k < jnum c) (ht : jty c k = .long) (v : Int64) : (jfs c I L R).set k (.long v) = jfs c I (vp_updL L k v) R := by
  apply List.ext_getElem?
  intro j
  by_cases hj : j = k
  · subst hj
    rw [List.getElem?_set_self (by rw [jfs_len]; exact hk), jfs_get hk, ht]
    simp [vp_updL, jval]
  · rw [List.getElem?_set_ne (Ne.symm hj)]
    by_cases h : j < jnum c
    · rw [jfs_get h, jfs_get h]
      simp [vp_updL, hj]
    · rw [List.getElem?_eq_none (by rw [jfs_len]; omega), List.getElem?_eq_none (by rw [jfs_len]; omega)]
theorem jfs_setR {c k : Nat} {I : Nat → Int32} {L : Nat → Int64} {R : Nat → Option Nat} (hk : k < jnum c) (ht : jref (jty c k) = true) (v : Option Nat) : (jfs c I L R).set k (va_rf v) = jfs c I L (va_up R k v) := by
  apply List.ext_getElem?
  intro j
  by_cases hj : j = k
  · subst hj
    rw [List.getElem?_set_self (by rw [jfs_len]; exact hk), jfs_get hk, jval_ref ht]
    simp [va_up]
  · rw [List.getElem?_set_ne (Ne.symm hj)]
    by_cases h : j < jnum c
    · rw [jfs_get h, jfs_get h]
      simp [va_up, hj]
    · rw [List.getElem?_eq_none (by rw [jfs_len]; omega), List.getElem?_eq_none (by rw [jfs_len]; omega)]
theorem jf_obj {cy : jC} {Z : jZ} {I : jI} {L : jL} {a c : Nat} (h : Z.2.1 a = c) (hc : c < 13) : jf cy Z I L a = .inr (c, jfs c (I a) (L a) (Z.2.2.2 a)) := by
  subst h
  simp [jf, hc]
theorem jf_13 {cy : jC} {Z : jZ} {I : jI} {L : jL} {a : Nat} (h : Z.2.1 a = 13) : jf cy Z I L a = .inl (cy.1, Z.2.2.1 a, .inl (I a)) := by simp [jf, h]
theorem jf_14 {cy : jC} {Z : jZ} {I : jI} {L : jL} {a : Nat} (h : Z.2.1 a = 14) : jf cy Z I L a = .inl (cy.2.1, Z.2.2.1 a, .inl (I a)) := by simp [jf, h]
theorem jf_15 {cy : jC} {Z : jZ} {I : jI} {L : jL} {a : Nat} (h : Z.2.1 a = 15) : jf cy Z I L a = .inl (cy.2.2.1, Z.2.2.1 a, .inr (.inl (L a))) := by simp [jf, h]
theorem jf_16 {cy : jC} {Z : jZ} {I : jI} {L : jL} {a : Nat} (h : Z.2.1 a = 16) : jf cy Z I L a = .inl (cy.2.2.2.1, Z.2.2.1 a, .inl (I a)) := by simp [jf, h]
theorem jf_17 {cy : jC} {Z : jZ} {I : jI} {L : jL} {a : Nat} (h : Z.2.1 a = 17) : jf cy Z I L a = .inl (cy.2.2.2.2.1, Z.2.2.1 a, .inr (.inr (.inr (.inr (Z.2.2.2 a))))) := by simp [jf, h]
theorem jf_18 {cy : jC} {Z : jZ} {I : jI} {L : jL} {a : Nat} (h : Z.2.1 a = 18) : jf cy Z I L a = .inl (cy.2.2.2.2.2.1, Z.2.2.1 a, .inr (.inr (.inr (.inr (Z.2.2.2 a))))) := by simp [jf, h]
theorem jf_19 {cy : jC} {Z : jZ} {I : jI} {L : jL} {a : Nat} (h : Z.2.1 a = 19) : jf cy Z I L a = .inl (cy.2.2.2.2.2.2, Z.2.2.1 a, .inr (.inr (.inr (.inr (Z.2.2.2 a))))) := by simp [jf, h]
theorem jw_get {X : va_W} {cy : jC} {Z : jZ} {I : jI} {L : jL} {a : Nat} (h : a ∈ Z.1) : ∃ q : Nat, (X ++ jw cy Z I L)[q]? = some (a, jf cy Z I L a) := va_pl_get (X := X) h
/-- a cell of the pool changes, as its kind lets it -/
theorem jw_set {X : va_W} {cy : jC} {Z Z' : jZ} {I I' : jI} {L L' : jL} {A : Nat → Prop} {a q : Nat} {e : va_E} (hD : va_D A (X ++ jw cy Z I L)) (h : a ∈ Z.1) (hq : (X ++ jw cy Z I L)[q]? = some (a, jf cy Z I L a)) (h1 : Z'.1 = Z.1) (he : jf cy Z' I' L' a = e) (ho : ∀ b, b ≠ a → jf cy Z' I' L' b = jf cy Z I L b) : (X ++ jw cy Z I L).set q (a, e) = X ++ jw cy Z' I' L' := by
  have h2 : (X ++ jw cy Z I L).set q (a, e) = X ++ va_pl Z.1 (va_up (jf cy Z I L) a e) := va_pl_set (X := X) hD h hq
  rw [h2]
  unfold jw
  rw [h1]
  congr 1
  apply va_pl_congr
  intro b
  by_cases hb : b = a
  · subst hb
    rw [va_up_self, he]
  · rw [va_up_ne _ _ hb, ho b hb]
/-- an int goes to place j of cell a -/
abbrev jpI (I : jI) (a j : Nat) (v : Int32) : jI := va_up I a (upd (I a) j v)
abbrev jpL (L : jL) (a j : Nat) (v : Int64) : jL := va_up L a (vp_updL (L a) j v)
abbrev jpR (Z : jZ) (a j : Nat) (v : Option Nat) : jZ := (Z.1, Z.2.1, Z.2.2.1, va_up Z.2.2.2 a (va_up (Z.2.2.2 a) j v))
theorem jf_I_ne {cy : jC} {Z : jZ} {I : jI} {L : jL} {a b : Nat} {f : Nat → Int32} (h : b ≠ a) : jf cy Z (va_up I a f) L b = jf cy Z I L b := by simp [jf, va_up_ne _ _ h]
theorem jf_L_ne {cy : jC} {Z : jZ} {I : jI} {L : jL} {a b : Nat} {f : Nat → Int64} (h : b ≠ a) : jf cy Z I (va_up L a f) b = jf cy Z I L b := by simp [jf, va_up_ne _ _ h]
theorem jf_R_ne {cy : jC} {Z : jZ} {I : jI} {L : jL} {a b : Nat} {f : Nat → Option Nat} (h : b ≠ a) : jf cy (Z.1, Z.2.1, Z.2.2.1, va_up Z.2.2.2 a f) I L b = jf cy Z I L b := by simp [jf, va_up_ne _ _ h]
theorem jcl {c : Nat} (hc : c < 13) : ∃ r : vw_C, vwCl[c]? = some r ∧ r.2.2 = jnum c := by
  rcases (show c = 0 ∨ c = 1 ∨ c = 2 ∨ c = 3 ∨ c = 4 ∨ c = 5 ∨ c = 6 ∨ c = 7 ∨ c = 8 ∨ c = 9 ∨ c = 10 ∨ c = 11 ∨ c = 12 by omega) with rfl | rfl | rfl | rfl | rfl | rfl | rfl | rfl | rfl | rfl | rfl | rfl | rfl <;> exact ⟨_, rfl, rfl⟩
/-- the frame: the cells beside a pool stay, whatever becomes of the pool -/
theorem j_join {A0 : Nat → Prop} {D : va_G} {cl : List vw_C} {X P P' : va_W} {H H1 : Heap} (hP : va_P D cl (X ++ P) H) (hD : va_D A0 (X ++ P)) (hk : ∀ q : Nat, q < H.size → ¬ va_A P H.size q → H1[q]? = H[q]?) (hF : ∀ q, va_A P H.size q → A0 q) (hP1 : va_P D cl P' H1) (hD1 : va_D (va_A P H.size) P') : va_P D cl (X ++ P') H1 ∧ va_D A0 (X ++ P') := by
  have left : ∀ (k : Nat) (q : Nat × va_E), X[k]? = some q → (X ++ P)[k]? = some q := fun k q h => by
    rw [List.getElem?_append_left (List.getElem?_eq_some_iff.mp h).1]; exact h
  have right : ∀ (k : Nat) (q : Nat × va_E), P[k]? = some q → (X ++ P)[X.length + k]? = some q := fun k q h => by
    rw [List.getElem?_append_right (by omega), Nat.add_sub_cancel_left]; exact h
  have apart : ∀ (k : Nat) (q : Nat × va_E), X[k]? = some q → q.1 < H.size ∧ ¬ va_A P H.size q.1 := by
    intro k q hq
    have hl := (hP k q (left k q hq)).lt
    refine ⟨hl, fun h => ?_⟩
    rcases h with ⟨k2, e, h⟩ | h
    · have hij := hD.1 k (X.length + k2) q (q.1, e) (left k q hq) (right k2 _ h) rfl
      have := (List.getElem?_eq_some_iff.mp hq).1
      omega
    · omega
  refine ⟨va_P.app (fun k q hq => ?_) hP1, va_D.app ⟨fun i j p q hi hj => hD.1 i j p q (left i p hi) (left j q hj), fun k q hq => hD.2 k q (left k q hq)⟩ (hD1.weaken (fun k q _ h => hF q.1 h)) (fun i j x y hx hy hxy => ?_)⟩
  · obtain ⟨g1, g2⟩ := apart k q hq
    exact (hP k q (left k q hq)).kept (hk q.1 g1 g2)
  · exact (apart i x hx).2 (by rw [hxy]; exact hD1.2 j y hy)
theorem j_cutP {D : va_G} {cl : List vw_C} {X P : va_W} {H : Heap} (hP : va_P D cl (X ++ P) H) : va_P D cl P H := fun k q h => hP (X.length + k) q (by rw [List.getElem?_append_right (by omega), Nat.add_sub_cancel_left]; exact h)
theorem j_cutD {A0 : Nat → Prop} {X P : va_W} (hD : va_D A0 (X ++ P)) : va_D A0 P := ⟨fun i j p q hi hj e => by
    have := hD.1 (X.length + i) (X.length + j) p q (by rw [List.getElem?_append_right (by omega), Nat.add_sub_cancel_left]; exact hi) (by rw [List.getElem?_append_right (by omega), Nat.add_sub_cancel_left]; exact hj) e
    omega, fun k q h => hD.2 (X.length + k) q (by rw [List.getElem?_append_right (by omega), Nat.add_sub_cancel_left]; exact h)⟩
section JROWS
variable {G : jG} {cc : ByteArray} {own : String} {Ts : List Cond} {nL : Nat} {ret : Option FieldType} {rm : Room} {Rt : jRt} {pc : Nat} {lv : List (Nat × Value)} {st : List Value} {Z : jZ} {I : jI} {L : jL} {k n : Nat}
theorem j_iconst (E : jE G cc own Ts nL ret rm Rt) {i : Int} {v : Int32} (d : decode cc pc = .ok (.iconst i, 1)) (hv : Int32.ofInt i = v) (kk : jJ G nL (pc + 1) lv (.int v :: st) Z I L k n) : jJ G nL pc lv (st) Z I L k n := fun H locs ls hl hP hD hS => lv_iconst E.1.1 E.1.2.1 d hv (kk H locs ls hl hP hD hS)
theorem j_bipush (E : jE G cc own Ts nL ret rm Rt) {i : Int} {v : Int32} (d : decode cc pc = .ok (.bipush i, 2)) (hv : (Int8.ofInt i).toInt32 = v) (kk : jJ G nL (pc + 2) lv (.int v :: st) Z I L k n) : jJ G nL pc lv (st) Z I L k n := fun H locs ls hl hP hD hS => lv_bipush E.1.1 E.1.2.1 d hv (kk H locs ls hl hP hD hS)
theorem j_sipush (E : jE G cc own Ts nL ret rm Rt) {i : Int} {v : Int32} (d : decode cc pc = .ok (.sipush i, 3)) (hv : (Int16.ofInt i).toInt32 = v) (kk : jJ G nL (pc + 3) lv (.int v :: st) Z I L k n) : jJ G nL pc lv (st) Z I L k n := fun H locs ls hl hP hD hS => lv_sipush E.1.1 E.1.2.1 d hv (kk H locs ls hl hP hD hS)
theorem j_lconst (E : jE G cc own Ts nL ret rm Rt) {i : Fin 2} {v : Int64} (d : decode cc pc = .ok (.lconst i, 1)) (hv : Int64.ofNat (i : Nat) = v) (kk : jJ G nL (pc + 1) lv (.long v :: st) Z I L k n) : jJ G nL pc lv (st) Z I L k n := fun H locs ls hl hP hD hS => lv_lconst E.1.1 E.1.2.1 d hv (kk H locs ls hl hP hD hS)
theorem j_null (E : jE G cc own Ts nL ret rm Rt)  (d : decode cc pc = .ok (.aconst_null, 1))  (kk : jJ G nL (pc + 1) lv (.null :: st) Z I L k n) : jJ G nL pc lv (st) Z I L k n := fun H locs ls hl hP hD hS => lv_null E.1.1 E.1.2.1 d  (kk H locs ls hl hP hD hS)
theorem j_iload_n (E : jE G cc own Ts nL ret rm Rt) {i : Fin 4} {x : Int32} (d : decode cc pc = .ok (.iload_n i, 1)) (q : Nat) (hq : lv[q]? = some ((i : Nat), .int x)) (kk : jJ G nL (pc + 1) lv (.int x :: st) Z I L k n) : jJ G nL pc lv st Z I L k n := fun H locs ls hl hP hD hS => lv_iload_n E.1.1 E.1.2.1 d rfl (lv_at hl q hq) (kk H locs ls hl hP hD hS)
theorem j_iload (E : jE G cc own Ts nL ret rm Rt) {i : Nat} {x : Int32} (d : decode cc pc = .ok (.iload i, 2)) (q : Nat) (hq : lv[q]? = some (i, .int x)) (kk : jJ G nL (pc + 2) lv (.int x :: st) Z I L k n) : jJ G nL pc lv st Z I L k n := fun H locs ls hl hP hD hS => lv_iload E.1.1 E.1.2.1 d (lv_at hl q hq) (kk H locs ls hl hP hD hS)
theorem j_lload_n (E : jE G cc own Ts nL ret rm Rt) {i : Fin 4} {x : Int64} (d : decode cc pc = .ok (.lload_n i, 1)) (q : Nat) (hq : lv[q]? = some ((i : Nat), .long x)) (kk : jJ G nL (pc + 1) lv (.long x :: st) Z I L k n) : jJ G nL pc lv st Z I L k n := fun H locs ls hl hP hD hS => lv_lload_n E.1.1 E.1.2.1 d rfl (lv_at hl q hq) (kk H locs ls hl hP hD hS)
theorem j_lload (E : jE G cc own Ts nL ret rm Rt) {i : Nat} {x : Int64} (d : decode cc pc = .ok (.lload i, 2)) (q : Nat) (hq : lv[q]? = some (i, .long x)) (kk : jJ G nL (pc + 2) lv (.long x :: st) Z I L k n) : jJ G nL pc lv st Z I L k n := fun H locs ls hl hP hD hS => lv_lload E.1.1 E.1.2.1 d (lv_at hl q hq) (kk H locs ls hl hP hD hS)
theorem j_aload_n (E : jE G cc own Ts nL ret rm Rt) {i : Fin 4} {x : Nat} (d : decode cc pc = .ok (.aload_n i, 1)) (q : Nat) (hq : lv[q]? = some ((i : Nat), .ref x)) (kk : jJ G nL (pc + 1) lv (.ref x :: st) Z I L k n) : jJ G nL pc lv st Z I L k n := fun H locs ls hl hP hD hS => lv_aload_n E.1.1 E.1.2.1 d rfl (lv_at hl q hq) (kk H locs ls hl hP hD hS)
theorem j_aload (E : jE G cc own Ts nL ret rm Rt) {i : Nat} {x : Nat} (d : decode cc pc = .ok (.aload i, 2)) (q : Nat) (hq : lv[q]? = some (i, .ref x)) (kk : jJ G nL (pc + 2) lv (.ref x :: st) Z I L k n) : jJ G nL pc lv st Z I L k n := fun H locs ls hl hP hD hS => lv_aload E.1.1 E.1.2.1 d (lv_at hl q hq) (kk H locs ls hl hP hD hS)
theorem j_aload_nN (E : jE G cc own Ts nL ret rm Rt) {i : Fin 4} (d : decode cc pc = .ok (.aload_n i, 1)) (q : Nat) (hq : lv[q]? = some ((i : Nat), .null)) (kk : jJ G nL (pc + 1) lv (.null :: st) Z I L k n) : jJ G nL pc lv st Z I L k n := fun H locs ls hl hP hD hS => lv_aload_nN E.1.1 E.1.2.1 d rfl (lv_at hl q hq) (kk H locs ls hl hP hD hS)
theorem j_aloadN (E : jE G cc own Ts nL ret rm Rt) {i : Nat} (d : decode cc pc = .ok (.aload i, 2)) (q : Nat) (hq : lv[q]? = some (i, .null)) (kk : jJ G nL (pc + 2) lv (.null :: st) Z I L k n) : jJ G nL pc lv st Z I L k n := fun H locs ls hl hP hD hS => lv_aloadN E.1.1 E.1.2.1 d (lv_at hl q hq) (kk H locs ls hl hP hD hS)
theorem j_istore_n (E : jE G cc own Ts nL ret rm Rt) {k0 : Fin 4} {x : Int32} (i : Nat) (lw : List (Nat × Value)) (d : decode cc pc = .ok (.istore_n k0, 1)) (hi : (k0 : Nat) = i) (hn : i < nL) (hl0 : (i, Value.int x) :: lv.filter (fun q => !(q.1 == i) && !(q.1 + 1 == i && q.2.category == 2)) = lw) (kk : jJ G nL (pc + 1) lw st Z I L k n) : jJ G nL pc lv (Value.int x :: st) Z I L k n := fun H locs ls hl hP hD hS => lv_istore_n E.1.1 E.1.2.1 d hi hl hn hl0 (fun ls hl => kk H locs ls hl hP hD hS)
theorem j_istore (E : jE G cc own Ts nL ret rm Rt) {x : Int32} (i : Nat) (lw : List (Nat × Value)) (d : decode cc pc = .ok (.istore i, 2)) (hn : i < nL) (hl0 : (i, Value.int x) :: lv.filter (fun q => !(q.1 == i) && !(q.1 + 1 == i && q.2.category == 2)) = lw) (kk : jJ G nL (pc + 2) lw st Z I L k n) : jJ G nL pc lv (Value.int x :: st) Z I L k n := fun H locs ls hl hP hD hS => lv_istore E.1.1 E.1.2.1 d hl hn hl0 (fun ls hl => kk H locs ls hl hP hD hS)
theorem j_lstore_n (E : jE G cc own Ts nL ret rm Rt) {k0 : Fin 4} {x : Int64} (i : Nat) (lw : List (Nat × Value)) (d : decode cc pc = .ok (.lstore_n k0, 1)) (hi : (k0 : Nat) = i) (hn : i + 1 < nL) (hl0 : (i, Value.long x) :: lv.filter (fun q => !(q.1 == i) && (!(q.1 == i + 1) && !(q.1 + 1 == i && q.2.category == 2))) = lw) (kk : jJ G nL (pc + 1) lw st Z I L k n) : jJ G nL pc lv (Value.long x :: st) Z I L k n := fun H locs ls hl hP hD hS => lv_lstore_n E.1.1 E.1.2.1 d hi hl hn hl0 (fun ls hl => kk H locs ls hl hP hD hS)
theorem j_lstore (E : jE G cc own Ts nL ret rm Rt) {x : Int64} (i : Nat) (lw : List (Nat × Value)) (d : decode cc pc = .ok (.lstore i, 2)) (hn : i + 1 < nL) (hl0 : (i, Value.long x) :: lv.filter (fun q => !(q.1 == i) && (!(q.1 == i + 1) && !(q.1 + 1 == i && q.2.category == 2))) = lw) (kk : jJ G nL (pc + 2) lw st Z I L k n) : jJ G nL pc lv (Value.long x :: st) Z I L k n := fun H locs ls hl hP hD hS => lv_lstore E.1.1 E.1.2.1 d hl hn hl0 (fun ls hl => kk H locs ls hl hP hD hS)
theorem j_astore_n (E : jE G cc own Ts nL ret rm Rt) {k0 : Fin 4} {x : Nat} (i : Nat) (lw : List (Nat × Value)) (d : decode cc pc = .ok (.astore_n k0, 1)) (hi : (k0 : Nat) = i) (hn : i < nL) (hl0 : (i, Value.ref x) :: lv.filter (fun q => !(q.1 == i) && !(q.1 + 1 == i && q.2.category == 2)) = lw) (kk : jJ G nL (pc + 1) lw st Z I L k n) : jJ G nL pc lv (Value.ref x :: st) Z I L k n := fun H locs ls hl hP hD hS => lv_astore_n E.1.1 E.1.2.1 d hi hl hn hl0 (fun ls hl => kk H locs ls hl hP hD hS)
theorem j_astore (E : jE G cc own Ts nL ret rm Rt) {x : Nat} (i : Nat) (lw : List (Nat × Value)) (d : decode cc pc = .ok (.astore i, 2)) (hn : i < nL) (hl0 : (i, Value.ref x) :: lv.filter (fun q => !(q.1 == i) && !(q.1 + 1 == i && q.2.category == 2)) = lw) (kk : jJ G nL (pc + 2) lw st Z I L k n) : jJ G nL pc lv (Value.ref x :: st) Z I L k n := fun H locs ls hl hP hD hS => lv_astore E.1.1 E.1.2.1 d hl hn hl0 (fun ls hl => kk H locs ls hl hP hD hS)
theorem j_astore_nN (E : jE G cc own Ts nL ret rm Rt) {k0 : Fin 4} (i : Nat) (lw : List (Nat × Value)) (d : decode cc pc = .ok (.astore_n k0, 1)) (hi : (k0 : Nat) = i) (hn : i < nL) (hl0 : (i, Value.null) :: lv.filter (fun q => !(q.1 == i) && !(q.1 + 1 == i && q.2.category == 2)) = lw) (kk : jJ G nL (pc + 1) lw st Z I L k n) : jJ G nL pc lv (Value.null :: st) Z I L k n := fun H locs ls hl hP hD hS => lv_astore_nN E.1.1 E.1.2.1 d hi hl hn hl0 (fun ls hl => kk H locs ls hl hP hD hS)
theorem j_astoreN (E : jE G cc own Ts nL ret rm Rt) (i : Nat) (lw : List (Nat × Value)) (d : decode cc pc = .ok (.astore i, 2)) (hn : i < nL) (hl0 : (i, Value.null) :: lv.filter (fun q => !(q.1 == i) && !(q.1 + 1 == i && q.2.category == 2)) = lw) (kk : jJ G nL (pc + 2) lw st Z I L k n) : jJ G nL pc lv (Value.null :: st) Z I L k n := fun H locs ls hl hP hD hS => lv_astoreN E.1.1 E.1.2.1 d hl hn hl0 (fun ls hl => kk H locs ls hl hP hD hS)
theorem j_iinc (E : jE G cc own Ts nL ret rm Rt) {i : Nat} {j : Int} {x : Int32} (v : Int32) (lw : List (Nat × Value)) (d : decode cc pc = .ok (.iinc i j, 3)) (q : Nat) (hq : lv[q]? = some (i, .int x)) (hv : x + Int32.ofInt j = v) (hn : i < nL) (hl0 : (i, Value.int v) :: lv.filter (fun q => !(q.1 == i) && !(q.1 + 1 == i && q.2.category == 2)) = lw) (kk : jJ G nL (pc + 3) lw st Z I L k n) : jJ G nL pc lv st Z I L k n := fun H locs ls hl hP hD hS => lv_iinc (v := v) E.1.1 E.1.2.1 d hl (k := q) hq hv hn hl0 (fun ls hl => kk H locs ls hl hP hD hS)
theorem j_iadd (E : jE G cc own Ts nL ret rm Rt) {x y : Int32} (d : decode cc pc = .ok (.iadd, 1))  (kk : jJ G nL (pc + 1) lv (.int (x + y) :: st) Z I L k n) : jJ G nL pc lv (.int y :: .int x :: st) Z I L k n := fun H locs ls hl hP hD hS => lv_iadd E.1.1 E.1.2.1 d  (kk H locs ls hl hP hD hS)
theorem j_isub (E : jE G cc own Ts nL ret rm Rt) {x y : Int32} (d : decode cc pc = .ok (.isub, 1))  (kk : jJ G nL (pc + 1) lv (.int (x - y) :: st) Z I L k n) : jJ G nL pc lv (.int y :: .int x :: st) Z I L k n := fun H locs ls hl hP hD hS => lv_isub E.1.1 E.1.2.1 d  (kk H locs ls hl hP hD hS)
theorem j_imul (E : jE G cc own Ts nL ret rm Rt) {x y : Int32} (d : decode cc pc = .ok (.imul, 1))  (kk : jJ G nL (pc + 1) lv (.int (x * y) :: st) Z I L k n) : jJ G nL pc lv (.int y :: .int x :: st) Z I L k n := fun H locs ls hl hP hD hS => lv_imul E.1.1 E.1.2.1 d  (kk H locs ls hl hP hD hS)
theorem j_iand (E : jE G cc own Ts nL ret rm Rt) {x y : Int32} (d : decode cc pc = .ok (.iand, 1))  (kk : jJ G nL (pc + 1) lv (.int (x &&& y) :: st) Z I L k n) : jJ G nL pc lv (.int y :: .int x :: st) Z I L k n := fun H locs ls hl hP hD hS => lv_iand E.1.1 E.1.2.1 d  (kk H locs ls hl hP hD hS)
theorem j_ior (E : jE G cc own Ts nL ret rm Rt) {x y : Int32} (d : decode cc pc = .ok (.ior, 1))  (kk : jJ G nL (pc + 1) lv (.int (x ||| y) :: st) Z I L k n) : jJ G nL pc lv (.int y :: .int x :: st) Z I L k n := fun H locs ls hl hP hD hS => lv_ior E.1.1 E.1.2.1 d  (kk H locs ls hl hP hD hS)
theorem j_ixor (E : jE G cc own Ts nL ret rm Rt) {x y : Int32} (d : decode cc pc = .ok (.ixor, 1))  (kk : jJ G nL (pc + 1) lv (.int (x ^^^ y) :: st) Z I L k n) : jJ G nL pc lv (.int y :: .int x :: st) Z I L k n := fun H locs ls hl hP hD hS => lv_ixor E.1.1 E.1.2.1 d  (kk H locs ls hl hP hD hS)
theorem j_idiv (E : jE G cc own Ts nL ret rm Rt) {x y : Int32} (d : decode cc pc = .ok (.idiv, 1)) (hne : ¬ y = 0) (kk : jJ G nL (pc + 1) lv (.int (x / y) :: st) Z I L k n) : jJ G nL pc lv (.int y :: .int x :: st) Z I L k n := fun H locs ls hl hP hD hS => lv_idiv E.1.1 E.1.2.1 d hne (kk H locs ls hl hP hD hS)
theorem j_irem (E : jE G cc own Ts nL ret rm Rt) {x y : Int32} (d : decode cc pc = .ok (.irem, 1)) (hne : ¬ y = 0) (kk : jJ G nL (pc + 1) lv (.int (x - (x / y) * y) :: st) Z I L k n) : jJ G nL pc lv (.int y :: .int x :: st) Z I L k n := fun H locs ls hl hP hD hS => lv_irem E.1.1 E.1.2.1 d hne (kk H locs ls hl hP hD hS)
theorem j_ineg (E : jE G cc own Ts nL ret rm Rt) {x : Int32} (d : decode cc pc = .ok (.ineg, 1))  (kk : jJ G nL (pc + 1) lv (.int (-x) :: st) Z I L k n) : jJ G nL pc lv (.int x :: st) Z I L k n := fun H locs ls hl hP hD hS => lv_ineg E.1.1 E.1.2.1 d  (kk H locs ls hl hP hD hS)
theorem j_ishl (E : jE G cc own Ts nL ret rm Rt) {x y : Int32} (d : decode cc pc = .ok (.ishl, 1))  (kk : jJ G nL (pc + 1) lv (.int (x <<< (y &&& 31)) :: st) Z I L k n) : jJ G nL pc lv (.int y :: .int x :: st) Z I L k n := fun H locs ls hl hP hD hS => lv_ishl E.1.1 E.1.2.1 d  (kk H locs ls hl hP hD hS)
theorem j_ishr (E : jE G cc own Ts nL ret rm Rt) {x y : Int32} (d : decode cc pc = .ok (.ishr, 1))  (kk : jJ G nL (pc + 1) lv (.int (x >>> (y &&& 31)) :: st) Z I L k n) : jJ G nL pc lv (.int y :: .int x :: st) Z I L k n := fun H locs ls hl hP hD hS => lv_ishr E.1.1 E.1.2.1 d  (kk H locs ls hl hP hD hS)
theorem j_iushr (E : jE G cc own Ts nL ret rm Rt) {x y : Int32} (d : decode cc pc = .ok (.iushr, 1))  (kk : jJ G nL (pc + 1) lv (.int ((x.toUInt32 >>> (y.toUInt32 &&& Int32.toUInt32 31)).toInt32) :: st) Z I L k n) : jJ G nL pc lv (.int y :: .int x :: st) Z I L k n := fun H locs ls hl hP hD hS => lv_iushr E.1.1 E.1.2.1 d rfl (kk H locs ls hl hP hD hS)
theorem j_ladd (E : jE G cc own Ts nL ret rm Rt) {x y : Int64} (d : decode cc pc = .ok (.ladd, 1))  (kk : jJ G nL (pc + 1) lv (.long (x + y) :: st) Z I L k n) : jJ G nL pc lv (.long y :: .long x :: st) Z I L k n := fun H locs ls hl hP hD hS => lv_ladd E.1.1 E.1.2.1 d  (kk H locs ls hl hP hD hS)
theorem j_lsub (E : jE G cc own Ts nL ret rm Rt) {x y : Int64} (d : decode cc pc = .ok (.lsub, 1))  (kk : jJ G nL (pc + 1) lv (.long (x - y) :: st) Z I L k n) : jJ G nL pc lv (.long y :: .long x :: st) Z I L k n := fun H locs ls hl hP hD hS => lv_lsub E.1.1 E.1.2.1 d  (kk H locs ls hl hP hD hS)
theorem j_lmul (E : jE G cc own Ts nL ret rm Rt) {x y : Int64} (d : decode cc pc = .ok (.lmul, 1))  (kk : jJ G nL (pc + 1) lv (.long (x * y) :: st) Z I L k n) : jJ G nL pc lv (.long y :: .long x :: st) Z I L k n := fun H locs ls hl hP hD hS => lv_lmul E.1.1 E.1.2.1 d  (kk H locs ls hl hP hD hS)
theorem j_land (E : jE G cc own Ts nL ret rm Rt) {x y : Int64} (d : decode cc pc = .ok (.land, 1))  (kk : jJ G nL (pc + 1) lv (.long (x &&& y) :: st) Z I L k n) : jJ G nL pc lv (.long y :: .long x :: st) Z I L k n := fun H locs ls hl hP hD hS => lv_land E.1.1 E.1.2.1 d  (kk H locs ls hl hP hD hS)
theorem j_lor (E : jE G cc own Ts nL ret rm Rt) {x y : Int64} (d : decode cc pc = .ok (.lor, 1))  (kk : jJ G nL (pc + 1) lv (.long (x ||| y) :: st) Z I L k n) : jJ G nL pc lv (.long y :: .long x :: st) Z I L k n := fun H locs ls hl hP hD hS => lv_lor E.1.1 E.1.2.1 d  (kk H locs ls hl hP hD hS)
theorem j_lxor (E : jE G cc own Ts nL ret rm Rt) {x y : Int64} (d : decode cc pc = .ok (.lxor, 1))  (kk : jJ G nL (pc + 1) lv (.long (x ^^^ y) :: st) Z I L k n) : jJ G nL pc lv (.long y :: .long x :: st) Z I L k n := fun H locs ls hl hP hD hS => lv_lxor E.1.1 E.1.2.1 d  (kk H locs ls hl hP hD hS)
theorem j_ldiv (E : jE G cc own Ts nL ret rm Rt) {x y : Int64} (d : decode cc pc = .ok (.ldiv, 1)) (hne : ¬ y = 0) (kk : jJ G nL (pc + 1) lv (.long (x / y) :: st) Z I L k n) : jJ G nL pc lv (.long y :: .long x :: st) Z I L k n := fun H locs ls hl hP hD hS => lv_ldiv E.1.1 E.1.2.1 d hne (kk H locs ls hl hP hD hS)
theorem j_lrem (E : jE G cc own Ts nL ret rm Rt) {x y : Int64} (d : decode cc pc = .ok (.lrem, 1)) (hne : ¬ y = 0) (kk : jJ G nL (pc + 1) lv (.long (x - (x / y) * y) :: st) Z I L k n) : jJ G nL pc lv (.long y :: .long x :: st) Z I L k n := fun H locs ls hl hP hD hS => lv_lrem E.1.1 E.1.2.1 d hne (kk H locs ls hl hP hD hS)
theorem j_lshl (E : jE G cc own Ts nL ret rm Rt) {x : Int64} {y : Int32} (d : decode cc pc = .ok (.lshl, 1))  (kk : jJ G nL (pc + 1) lv (.long (x <<< (y.toInt64 &&& 63)) :: st) Z I L k n) : jJ G nL pc lv (.int y :: .long x :: st) Z I L k n := fun H locs ls hl hP hD hS => lv_lshl E.1.1 E.1.2.1 d rfl (kk H locs ls hl hP hD hS)
theorem j_lushr (E : jE G cc own Ts nL ret rm Rt) {x : Int64} {y : Int32} (d : decode cc pc = .ok (.lushr, 1))  (kk : jJ G nL (pc + 1) lv (.long ((x.toUInt64 >>> (y.toInt64.toUInt64 &&& Int64.toUInt64 63)).toInt64) :: st) Z I L k n) : jJ G nL pc lv (.int y :: .long x :: st) Z I L k n := fun H locs ls hl hP hD hS => lv_lushr E.1.1 E.1.2.1 d rfl (kk H locs ls hl hP hD hS)
theorem j_i2l (E : jE G cc own Ts nL ret rm Rt) {x : Int32} (d : decode cc pc = .ok (.i2l, 1))  (kk : jJ G nL (pc + 1) lv (.long (x.toInt64) :: st) Z I L k n) : jJ G nL pc lv (.int x :: st) Z I L k n := fun H locs ls hl hP hD hS => lv_i2l E.1.1 E.1.2.1 d rfl (kk H locs ls hl hP hD hS)
theorem j_l2i (E : jE G cc own Ts nL ret rm Rt) {x : Int64} (d : decode cc pc = .ok (.l2i, 1))  (kk : jJ G nL (pc + 1) lv (.int (x.toInt32) :: st) Z I L k n) : jJ G nL pc lv (.long x :: st) Z I L k n := fun H locs ls hl hP hD hS => lv_l2i E.1.1 E.1.2.1 d rfl (kk H locs ls hl hP hD hS)
theorem j_i2b (E : jE G cc own Ts nL ret rm Rt) {x : Int32} (d : decode cc pc = .ok (.i2b, 1))  (kk : jJ G nL (pc + 1) lv (.int (x.toInt8.toInt32) :: st) Z I L k n) : jJ G nL pc lv (.int x :: st) Z I L k n := fun H locs ls hl hP hD hS => lv_i2b E.1.1 E.1.2.1 d rfl (kk H locs ls hl hP hD hS)
theorem j_i2s (E : jE G cc own Ts nL ret rm Rt) {x : Int32} (d : decode cc pc = .ok (.i2s, 1))  (kk : jJ G nL (pc + 1) lv (.int (x.toInt16.toInt32) :: st) Z I L k n) : jJ G nL pc lv (.int x :: st) Z I L k n := fun H locs ls hl hP hD hS => lv_i2s E.1.1 E.1.2.1 d rfl (kk H locs ls hl hP hD hS)
theorem j_i2c (E : jE G cc own Ts nL ret rm Rt) {x : Int32} (d : decode cc pc = .ok (.i2c, 1))  (kk : jJ G nL (pc + 1) lv (.int ((x.toUInt32 % 65536).toInt32) :: st) Z I L k n) : jJ G nL pc lv (.int x :: st) Z I L k n := fun H locs ls hl hP hD hS => lv_i2c E.1.1 E.1.2.1 d rfl (kk H locs ls hl hP hD hS)
theorem j_lcmp (E : jE G cc own Ts nL ret rm Rt) {x y : Int64} (d : decode cc pc = .ok (.lcmp, 1))  (kk : jJ G nL (pc + 1) lv (.int (lg_cmp x y) :: st) Z I L k n) : jJ G nL pc lv (.long y :: .long x :: st) Z I L k n := fun H locs ls hl hP hD hS => W.lcmp E.1.1 E.1.2.1 d  (kk H locs ls hl hP hD hS)
theorem j_dup (E : jE G cc own Ts nL ret rm Rt) {v : Value} (d : decode cc pc = .ok (.dup, 1)) (hv : v.category = 1) (kk : jJ G nL (pc + 1) lv (v :: v :: st) Z I L k n) : jJ G nL pc lv (v :: st) Z I L k n := fun H locs ls hl hP hD hS => lv_dup E.1.1 E.1.2.1 d hv (kk H locs ls hl hP hD hS)
theorem j_pop (E : jE G cc own Ts nL ret rm Rt) {v : Value} (d : decode cc pc = .ok (.pop, 1)) (hv : v.category = 1) (kk : jJ G nL (pc + 1) lv (st) Z I L k n) : jJ G nL pc lv (v :: st) Z I L k n := fun H locs ls hl hP hD hS => lv_pop E.1.1 E.1.2.1 d hv (kk H locs ls hl hP hD hS)
theorem j_dup_x1 (E : jE G cc own Ts nL ret rm Rt) {v w : Value} (d : decode cc pc = .ok (.dup_x1, 1)) (hv : v.category = 1) (hw : w.category = 1) (kk : jJ G nL (pc + 1) lv (v :: w :: v :: st) Z I L k n) : jJ G nL pc lv (v :: w :: st) Z I L k n := fun H locs ls hl hP hD hS => lv_dup_x1 E.1.1 E.1.2.1 d hv hw (kk H locs ls hl hP hD hS)
theorem j_dup2_11 (E : jE G cc own Ts nL ret rm Rt) {v w : Value} (d : decode cc pc = .ok (.dup2, 1)) (hv : v.category = 1) (hw : w.category = 1) (kk : jJ G nL (pc + 1) lv (v :: w :: v :: w :: st) Z I L k n) : jJ G nL pc lv (v :: w :: st) Z I L k n := fun H locs ls hl hP hD hS => lv_dup2_11 E.1.1 E.1.2.1 d hv hw (kk H locs ls hl hP hD hS)
theorem j_if_eq (E : jE G cc own Ts nL ret rm Rt) {x : Int32} {off : Int} (tgt : Nat) (d : decode cc pc = .ok (.ifCond .eq off, 3)) (ht : (pc : Int) + off = (tgt : Int)) (kt : x = 0 → jJ G nL tgt lv st Z I L k n) (kf : ¬ (x = 0) → jJ G nL (pc + 3) lv st Z I L k n) : jJ G nL pc lv (.int x :: st) Z I L k n := fun H locs ls hl hP hD hS => lv_if_eq E.1.1 E.1.2.1 d ht (fun h => kt h H locs ls hl hP hD hS) (fun h => kf h H locs ls hl hP hD hS)
theorem j_icmp_eq (E : jE G cc own Ts nL ret rm Rt) {x y : Int32} {off : Int} (tgt : Nat) (d : decode cc pc = .ok (.if_icmp .eq off, 3)) (ht : (pc : Int) + off = (tgt : Int)) (kt : x = y → jJ G nL tgt lv st Z I L k n) (kf : ¬ (x = y) → jJ G nL (pc + 3) lv st Z I L k n) : jJ G nL pc lv (.int y :: .int x :: st) Z I L k n := fun H locs ls hl hP hD hS => lv_icmp_eq E.1.1 E.1.2.1 d ht (fun h => kt h H locs ls hl hP hD hS) (fun h => kf h H locs ls hl hP hD hS)
theorem j_if_ne (E : jE G cc own Ts nL ret rm Rt) {x : Int32} {off : Int} (tgt : Nat) (d : decode cc pc = .ok (.ifCond .ne off, 3)) (ht : (pc : Int) + off = (tgt : Int)) (kt : ¬ x = 0 → jJ G nL tgt lv st Z I L k n) (kf : x = 0 → jJ G nL (pc + 3) lv st Z I L k n) : jJ G nL pc lv (.int x :: st) Z I L k n := fun H locs ls hl hP hD hS => lv_if_ne E.1.1 E.1.2.1 d ht (fun h => kt h H locs ls hl hP hD hS) (fun h => kf h H locs ls hl hP hD hS)
theorem j_icmp_ne (E : jE G cc own Ts nL ret rm Rt) {x y : Int32} {off : Int} (tgt : Nat) (d : decode cc pc = .ok (.if_icmp .ne off, 3)) (ht : (pc : Int) + off = (tgt : Int)) (kt : ¬ x = y → jJ G nL tgt lv st Z I L k n) (kf : x = y → jJ G nL (pc + 3) lv st Z I L k n) : jJ G nL pc lv (.int y :: .int x :: st) Z I L k n := fun H locs ls hl hP hD hS => lv_icmp_ne E.1.1 E.1.2.1 d ht (fun h => kt h H locs ls hl hP hD hS) (fun h => kf h H locs ls hl hP hD hS)
theorem j_if_lt (E : jE G cc own Ts nL ret rm Rt) {x : Int32} {off : Int} (tgt : Nat) (d : decode cc pc = .ok (.ifCond .lt off, 3)) (ht : (pc : Int) + off = (tgt : Int)) (kt : x < 0 → jJ G nL tgt lv st Z I L k n) (kf : ¬ (x < 0) → jJ G nL (pc + 3) lv st Z I L k n) : jJ G nL pc lv (.int x :: st) Z I L k n := fun H locs ls hl hP hD hS => lv_if_lt E.1.1 E.1.2.1 d ht (fun h => kt h H locs ls hl hP hD hS) (fun h => kf h H locs ls hl hP hD hS)
theorem j_icmp_lt (E : jE G cc own Ts nL ret rm Rt) {x y : Int32} {off : Int} (tgt : Nat) (d : decode cc pc = .ok (.if_icmp .lt off, 3)) (ht : (pc : Int) + off = (tgt : Int)) (kt : x < y → jJ G nL tgt lv st Z I L k n) (kf : ¬ (x < y) → jJ G nL (pc + 3) lv st Z I L k n) : jJ G nL pc lv (.int y :: .int x :: st) Z I L k n := fun H locs ls hl hP hD hS => lv_icmp_lt E.1.1 E.1.2.1 d ht (fun h => kt h H locs ls hl hP hD hS) (fun h => kf h H locs ls hl hP hD hS)
theorem j_if_ge (E : jE G cc own Ts nL ret rm Rt) {x : Int32} {off : Int} (tgt : Nat) (d : decode cc pc = .ok (.ifCond .ge off, 3)) (ht : (pc : Int) + off = (tgt : Int)) (kt : 0 ≤ x → jJ G nL tgt lv st Z I L k n) (kf : ¬ (0 ≤ x) → jJ G nL (pc + 3) lv st Z I L k n) : jJ G nL pc lv (.int x :: st) Z I L k n := fun H locs ls hl hP hD hS => lv_if_ge E.1.1 E.1.2.1 d ht (fun h => kt h H locs ls hl hP hD hS) (fun h => kf h H locs ls hl hP hD hS)
theorem j_icmp_ge (E : jE G cc own Ts nL ret rm Rt) {x y : Int32} {off : Int} (tgt : Nat) (d : decode cc pc = .ok (.if_icmp .ge off, 3)) (ht : (pc : Int) + off = (tgt : Int)) (kt : y ≤ x → jJ G nL tgt lv st Z I L k n) (kf : ¬ (y ≤ x) → jJ G nL (pc + 3) lv st Z I L k n) : jJ G nL pc lv (.int y :: .int x :: st) Z I L k n := fun H locs ls hl hP hD hS => lv_icmp_ge E.1.1 E.1.2.1 d ht (fun h => kt h H locs ls hl hP hD hS) (fun h => kf h H locs ls hl hP hD hS)
theorem j_if_gt (E : jE G cc own Ts nL ret rm Rt) {x : Int32} {off : Int} (tgt : Nat) (d : decode cc pc = .ok (.ifCond .gt off, 3)) (ht : (pc : Int) + off = (tgt : Int)) (kt : 0 < x → jJ G nL tgt lv st Z I L k n) (kf : ¬ (0 < x) → jJ G nL (pc + 3) lv st Z I L k n) : jJ G nL pc lv (.int x :: st) Z I L k n := fun H locs ls hl hP hD hS => lv_if_gt E.1.1 E.1.2.1 d ht (fun h => kt h H locs ls hl hP hD hS) (fun h => kf h H locs ls hl hP hD hS)
theorem j_icmp_gt (E : jE G cc own Ts nL ret rm Rt) {x y : Int32} {off : Int} (tgt : Nat) (d : decode cc pc = .ok (.if_icmp .gt off, 3)) (ht : (pc : Int) + off = (tgt : Int)) (kt : y < x → jJ G nL tgt lv st Z I L k n) (kf : ¬ (y < x) → jJ G nL (pc + 3) lv st Z I L k n) : jJ G nL pc lv (.int y :: .int x :: st) Z I L k n := fun H locs ls hl hP hD hS => lv_icmp_gt E.1.1 E.1.2.1 d ht (fun h => kt h H locs ls hl hP hD hS) (fun h => kf h H locs ls hl hP hD hS)
theorem j_if_le (E : jE G cc own Ts nL ret rm Rt) {x : Int32} {off : Int} (tgt : Nat) (d : decode cc pc = .ok (.ifCond .le off, 3)) (ht : (pc : Int) + off = (tgt : Int)) (kt : x ≤ 0 → jJ G nL tgt lv st Z I L k n) (kf : ¬ (x ≤ 0) → jJ G nL (pc + 3) lv st Z I L k n) : jJ G nL pc lv (.int x :: st) Z I L k n := fun H locs ls hl hP hD hS => lv_if_le E.1.1 E.1.2.1 d ht (fun h => kt h H locs ls hl hP hD hS) (fun h => kf h H locs ls hl hP hD hS)
theorem j_icmp_le (E : jE G cc own Ts nL ret rm Rt) {x y : Int32} {off : Int} (tgt : Nat) (d : decode cc pc = .ok (.if_icmp .le off, 3)) (ht : (pc : Int) + off = (tgt : Int)) (kt : x ≤ y → jJ G nL tgt lv st Z I L k n) (kf : ¬ (x ≤ y) → jJ G nL (pc + 3) lv st Z I L k n) : jJ G nL pc lv (.int y :: .int x :: st) Z I L k n := fun H locs ls hl hP hD hS => lv_icmp_le E.1.1 E.1.2.1 d ht (fun h => kt h H locs ls hl hP hD hS) (fun h => kf h H locs ls hl hP hD hS)
theorem j_goto (E : jE G cc own Ts nL ret rm Rt) {off : Int} (tgt : Nat) (d : decode cc pc = .ok (.goto off, 3)) (ht : (pc : Int) + off = (tgt : Int)) (kk : jJ G nL tgt lv st Z I L k n) : jJ G nL pc lv st Z I L k n := fun H locs ls hl hP hD hS => lv_goto E.1.1 E.1.2.1 d ht (kk H locs ls hl hP hD hS)
theorem j_ifnull (E : jE G cc own Ts nL ret rm Rt) {x : Nat} {off : Int} (d : decode cc pc = .ok (.ifnull off, 3)) (kk : jJ G nL (pc + 3) lv st Z I L k n) : jJ G nL pc lv (.ref x :: st) Z I L k n := fun H locs ls hl hP hD hS => lv_ifnull E.1.1 E.1.2.1 d (kk H locs ls hl hP hD hS)
theorem j_ifnonnull (E : jE G cc own Ts nL ret rm Rt) {x : Nat} {off : Int} (tgt : Nat) (d : decode cc pc = .ok (.ifnonnull off, 3)) (ht : (pc : Int) + off = (tgt : Int)) (kk : jJ G nL tgt lv st Z I L k n) : jJ G nL pc lv (.ref x :: st) Z I L k n := fun H locs ls hl hP hD hS => lv_ifnonnull E.1.1 E.1.2.1 d ht (kk H locs ls hl hP hD hS)
theorem j_ifnullN (E : jE G cc own Ts nL ret rm Rt) {off : Int} (tgt : Nat) (d : decode cc pc = .ok (.ifnull off, 3)) (ht : (pc : Int) + off = (tgt : Int)) (kk : jJ G nL tgt lv st Z I L k n) : jJ G nL pc lv (.null :: st) Z I L k n := fun H locs ls hl hP hD hS => lv_ifnullN E.1.1 E.1.2.1 d ht (kk H locs ls hl hP hD hS)
theorem j_ifnonnullN (E : jE G cc own Ts nL ret rm Rt) {off : Int} (d : decode cc pc = .ok (.ifnonnull off, 3)) (kk : jJ G nL (pc + 3) lv st Z I L k n) : jJ G nL pc lv (.null :: st) Z I L k n := fun H locs ls hl hP hD hS => lv_ifnonnullN E.1.1 E.1.2.1 d (kk H locs ls hl hP hD hS)
theorem j_topi {x : Int32} (kk : ∀ y : Int32, y = x → jJ G nL pc lv (.int y :: st) Z I L k n) : jJ G nL pc lv (.int x :: st) Z I L k n := kk x rfl
theorem j_topl {x : Int64} (kk : ∀ y : Int64, y = x → jJ G nL pc lv (.long y :: st) Z I L k n) : jJ G nL pc lv (.long x :: st) Z I L k n := kk x rfl
theorem j_sub {lw : List (Nat × Value)} (ks : List Nat) (hk : lv_pick lv ks = lw) (kk : jJ G nL pc lw st Z I L k n) : jJ G nL pc lv st Z I L k n := fun H locs ls hl hP hD hS => kk H locs ls (lv_sub hl ks hk) hP hD hS
theorem j_widen (k9 n9 : Nat) (h1 : k ≤ k9) (h2 : n ≤ n9) (kk : jJ G nL pc lv st Z I L k9 n9) : jJ G nL pc lv st Z I L k n := fun H locs ls hl hP hD hS => W.widen h1 h2 (kk H locs ls hl hP hD hS)
theorem j_ldc (E : jE G cc own Ts nL ret rm Rt) {i : Nat} {v : Int32} (w : Cond.constant own i v ∈ Ts) (d : decode cc pc = .ok (.ldc i, 2)) (kk : jJ G nL (pc + 2) lv (.int v :: st) Z I L k n) : jJ G nL pc lv st Z I L k n := fun H locs ls hl hP hD hS => lv_ldc E.1.1 E.1.2.1 E.1.2.2.2.1 (E.1.2.2.2.2 _ w) d (kk H locs ls hl hP hD hS)
theorem j_ldcw (E : jE G cc own Ts nL ret rm Rt) {i : Nat} {v : Int32} (w : Cond.constant own i v ∈ Ts) (d : decode cc pc = .ok (.ldc_w i, 3)) (kk : jJ G nL (pc + 3) lv (.int v :: st) Z I L k n) : jJ G nL pc lv st Z I L k n := fun H locs ls hl hP hD hS => lv_ldcw E.1.1 E.1.2.1 E.1.2.2.2.1 (E.1.2.2.2.2 _ w) d (kk H locs ls hl hP hD hS)
theorem j_ldc2 (E : jE G cc own Ts nL ret rm Rt) {i : Nat} {v : Int64} (w : Cond.constantLong own i v ∈ Ts) (d : decode cc pc = .ok (.ldc2_w i, 3)) (kk : jJ G nL (pc + 3) lv (.long v :: st) Z I L k n) : jJ G nL pc lv st Z I L k n := fun H locs ls hl hP hD hS => lv_ldc2 E.1.1 E.1.2.1 E.1.2.2.2.1 (E.1.2.2.2.2 _ w) d (kk H locs ls hl hP hD hS)
theorem j_tableOut (E : jE G cc own Ts nL ret rm Rt) {dflt lo hi : Int} {offs : Array Int} {len : Nat} {x : Int32} (tgt : Nat) (d : decode cc pc = .ok (.tableswitch dflt lo hi offs, len)) (h : x.toInt < lo ∨ hi < x.toInt) (ht : (pc : Int) + dflt = (tgt : Int)) (kk : jJ G nL tgt lv st Z I L k n) : jJ G nL pc lv (.int x :: st) Z I L k n := fun H locs ls hl hP hD hS => lv_tableOut E.1.1 E.1.2.1 d h ht (kk H locs ls hl hP hD hS)
theorem j_tableIn (E : jE G cc own Ts nL ret rm Rt) {dflt lo hi : Int} {offs : Array Int} {len : Nat} {x : Int32} (off : Int) (tgt : Nat) (d : decode cc pc = .ok (.tableswitch dflt lo hi offs, len)) (h1 : ¬ x.toInt < lo) (h2 : ¬ hi < x.toInt) (ho : offs[(x.toInt - lo).toNat]? = some off) (ht : (pc : Int) + off = (tgt : Int)) (kk : jJ G nL tgt lv st Z I L k n) : jJ G nL pc lv (.int x :: st) Z I L k n := fun H locs ls hl hP hD hS => lv_tableIn E.1.1 E.1.2.1 d h1 h2 ho ht (kk H locs ls hl hP hD hS)
theorem j_lookup (E : jE G cc own Ts nL ret rm Rt) {dflt : Int} {ps : Array (Int × Int)} {len : Nat} {x : Int32} (off : Int) (tgt : Nat) (d : decode cc pc = .ok (.lookupswitch dflt ps, len)) (hp : (ps.toList.zip (ps.toList.drop 1)).all (fun (a, next) => a.1 < next.1) = true) (ho : Op.lookupswitch.offset ps.toList dflt x.toInt = off) (ht : (pc : Int) + off = (tgt : Int)) (kk : jJ G nL tgt lv st Z I L k n) : jJ G nL pc lv (.int x :: st) Z I L k n := fun H locs ls hl hP hD hS => lv_lookup E.1.1 E.1.2.1 d hp ho ht (kk H locs ls hl hP hD hS)
/-! fields -/
theorem j_geti (E : jE G cc own Ts nL ret rm Rt) {i a : Nat} (c j : Nat) {C ref : String} {T : u_T} {N : Nat} (hcl : vwCl[c]? = some (C, T, N)) (hN : N = jnum c) (hc : c < 13) (hj : j < N) (hin : ∀ w ∈ u_ws C T N, w ∈ Ts) (ht : jint (jty c j) = true) (href : (T j).1 = ref) (hlk : Cond.fieldLink own i ref (T j).2.1 (T j).2.2.1 ∈ Ts) (hk : jk Z a c) (d : decode cc pc = .ok (.getfield i, 3)) (kk : jJ G nL (pc + 3) lv (.int (I a j) :: st) Z I L k n) : jJ G nL pc lv (.ref a :: st) Z I L k n := by
  intro H locs ls hl hP hD hS
  obtain ⟨q, hq⟩ := jw_get (X := gX G) (cy := gY G) (I := I) (L := L) hk.1
  rw [jf_obj hk.2 hc] at hq
  subst hN
  exact va_get (v := .int (I a j)) E.1.1 E.1.2.1 E.1.2.2.2.2 hin E.1.2.2.2.1 E.2.1 hP q hq hcl j hj (E.1.2.2.2.2 _ hlk) (by rw [href]; exact fun _ h => h) (by rw [jfs_get hj, jval_int ht]) d (kk H locs ls hl hP hD hS)
theorem j_getl (E : jE G cc own Ts nL ret rm Rt) {i a : Nat} (c j : Nat) {C ref : String} {T : u_T} {N : Nat} (hcl : vwCl[c]? = some (C, T, N)) (hN : N = jnum c) (hc : c < 13) (hj : j < N) (hin : ∀ w ∈ u_ws C T N, w ∈ Ts) (ht : jty c j = .long) (href : (T j).1 = ref) (hlk : Cond.fieldLink own i ref (T j).2.1 (T j).2.2.1 ∈ Ts) (hk : jk Z a c) (d : decode cc pc = .ok (.getfield i, 3)) (kk : jJ G nL (pc + 3) lv (.long (L a j) :: st) Z I L k n) : jJ G nL pc lv (.ref a :: st) Z I L k n := by
  intro H locs ls hl hP hD hS
  obtain ⟨q, hq⟩ := jw_get (X := gX G) (cy := gY G) (I := I) (L := L) hk.1
  rw [jf_obj hk.2 hc] at hq
  subst hN
  exact va_get (v := .long (L a j)) E.1.1 E.1.2.1 E.1.2.2.2.2 hin E.1.2.2.2.1 E.2.1 hP q hq hcl j hj (E.1.2.2.2.2 _ hlk) (by rw [href]; exact fun _ h => h) (by rw [jfs_get hj, ht]; rfl) d (kk H locs ls hl hP hD hS)
theorem j_getr (E : jE G cc own Ts nL ret rm Rt) {i a : Nat} (c j : Nat) {C ref : String} {T : u_T} {N : Nat} (hcl : vwCl[c]? = some (C, T, N)) (hN : N = jnum c) (hc : c < 13) (hj : j < N) (hin : ∀ w ∈ u_ws C T N, w ∈ Ts) (ht : jref (jty c j) = true) (href : (T j).1 = ref) (hlk : Cond.fieldLink own i ref (T j).2.1 (T j).2.2.1 ∈ Ts) (hk : jk Z a c) {b : Nat} (hb : jr Z a j = some b) (d : decode cc pc = .ok (.getfield i, 3)) (kk : jJ G nL (pc + 3) lv (.ref b :: st) Z I L k n) : jJ G nL pc lv (.ref a :: st) Z I L k n := by
  intro H locs ls hl hP hD hS
  obtain ⟨q, hq⟩ := jw_get (X := gX G) (cy := gY G) (I := I) (L := L) hk.1
  rw [jf_obj hk.2 hc] at hq
  subst hN
  exact va_get (v := .ref b) E.1.1 E.1.2.1 E.1.2.2.2.2 hin E.1.2.2.2.1 E.2.1 hP q hq hcl j hj (E.1.2.2.2.2 _ hlk) (by rw [href]; exact fun _ h => h) (by rw [jfs_get hj, jval_ref ht, show Z.2.2.2 a j = some b from hb]; rfl) d (kk H locs ls hl hP hD hS)
theorem j_getiN (E : jE G cc own Ts nL ret rm Rt) {i a : Nat} (c j : Nat) {C ref host : String} {T : u_T} {N : Nat} (hcl : vwCl[c]? = some (C, T, N)) (hN : N = jnum c) (hc : c < 13) (hj : j < N) (hin : ∀ w ∈ u_ws C T N, w ∈ Ts) (ht : jint (jty c j) = true) (href : (T j).1 = ref) (hlk : Cond.fieldLinkNest own i ref (T j).2.1 (T j).2.2.1 host ∈ jnest) (hk : jk Z a c) (d : decode cc pc = .ok (.getfield i, 3)) (kk : jJ G nL (pc + 3) lv (.int (I a j) :: st) Z I L k n) : jJ G nL pc lv (.ref a :: st) Z I L k n := by
  intro H locs ls hl hP hD hS
  obtain ⟨q, hq⟩ := jw_get (X := gX G) (cy := gY G) (I := I) (L := L) hk.1
  rw [jf_obj hk.2 hc] at hq
  subst hN
  exact va_getN (v := .int (I a j)) E.1.1 E.1.2.1 E.1.2.2.2.2 hin E.1.2.2.2.1 E.2.1 hP q hq hcl j hj (va_Nw.use rfl (E.2.2.2.1.1 _ hlk)) (by rw [href]; exact fun _ h => h) (by rw [jfs_get hj, jval_int ht]) d (kk H locs ls hl hP hD hS)
theorem j_getlN (E : jE G cc own Ts nL ret rm Rt) {i a : Nat} (c j : Nat) {C ref host : String} {T : u_T} {N : Nat} (hcl : vwCl[c]? = some (C, T, N)) (hN : N = jnum c) (hc : c < 13) (hj : j < N) (hin : ∀ w ∈ u_ws C T N, w ∈ Ts) (ht : jty c j = .long) (href : (T j).1 = ref) (hlk : Cond.fieldLinkNest own i ref (T j).2.1 (T j).2.2.1 host ∈ jnest) (hk : jk Z a c) (d : decode cc pc = .ok (.getfield i, 3)) (kk : jJ G nL (pc + 3) lv (.long (L a j) :: st) Z I L k n) : jJ G nL pc lv (.ref a :: st) Z I L k n := by
  intro H locs ls hl hP hD hS
  obtain ⟨q, hq⟩ := jw_get (X := gX G) (cy := gY G) (I := I) (L := L) hk.1
  rw [jf_obj hk.2 hc] at hq
  subst hN
  exact va_getN (v := .long (L a j)) E.1.1 E.1.2.1 E.1.2.2.2.2 hin E.1.2.2.2.1 E.2.1 hP q hq hcl j hj (va_Nw.use rfl (E.2.2.2.1.1 _ hlk)) (by rw [href]; exact fun _ h => h) (by rw [jfs_get hj, ht]; rfl) d (kk H locs ls hl hP hD hS)
theorem j_getrN (E : jE G cc own Ts nL ret rm Rt) {i a : Nat} (c j : Nat) {C ref host : String} {T : u_T} {N : Nat} (hcl : vwCl[c]? = some (C, T, N)) (hN : N = jnum c) (hc : c < 13) (hj : j < N) (hin : ∀ w ∈ u_ws C T N, w ∈ Ts) (ht : jref (jty c j) = true) (href : (T j).1 = ref) (hlk : Cond.fieldLinkNest own i ref (T j).2.1 (T j).2.2.1 host ∈ jnest) (hk : jk Z a c) {b : Nat} (hb : jr Z a j = some b) (d : decode cc pc = .ok (.getfield i, 3)) (kk : jJ G nL (pc + 3) lv (.ref b :: st) Z I L k n) : jJ G nL pc lv (.ref a :: st) Z I L k n := by
  intro H locs ls hl hP hD hS
  obtain ⟨q, hq⟩ := jw_get (X := gX G) (cy := gY G) (I := I) (L := L) hk.1
  rw [jf_obj hk.2 hc] at hq
  subst hN
  exact va_getN (v := .ref b) E.1.1 E.1.2.1 E.1.2.2.2.2 hin E.1.2.2.2.1 E.2.1 hP q hq hcl j hj (va_Nw.use rfl (E.2.2.2.1.1 _ hlk)) (by rw [href]; exact fun _ h => h) (by rw [jfs_get hj, jval_ref ht, show Z.2.2.2 a j = some b from hb]; rfl) d (kk H locs ls hl hP hD hS)
theorem j_puti (E : jE G cc own Ts nL ret rm Rt) {i a : Nat} (c j : Nat) {C ref : String} {T : u_T} {N : Nat} {v : Int32} (hcl : vwCl[c]? = some (C, T, N)) (hN : N = jnum c) (hc : c < 13) (hj : j < N) (hin : ∀ w ∈ u_ws C T N, w ∈ Ts) (hty : ∀ k, k < N → parseFieldDescriptor (T k).2.2.1 = some (jty c k)) (hnm : ∀ a, a < N → ∀ b, b < N → a ≠ b → (T a).2.1 ≠ (T b).2.1) (ht : jint (jty c j) = true) (href : (T j).1 = ref) (hlk : Cond.fieldLink own i ref (T j).2.1 (T j).2.2.1 ∈ Ts) (hfin : (T j).2.2.2 = false) (hnar : narrow (jty c j) (.int v) = .int v) (hfit : fits (jty c j) (.int v) = true) (hk : jk Z a c) (d : decode cc pc = .ok (.putfield i, 3)) (kk : jJ G nL (pc + 3) lv st Z (jpI I a j v) L k n) : jJ G nL pc lv (.int v :: .ref a :: st) Z I L k n := by
  intro H locs ls hl hP hD hS
  have hD0 := hD
  obtain ⟨q, hq⟩ := jw_get (X := gX G) (cy := gY G) (I := I) (L := L) hk.1
  have hq0 := hq
  rw [jf_obj hk.2 hc] at hq
  subst hN
  refine va_put E.1.1 E.1.2.1 E.1.2.2.2.2 hin (jty c) hty hnm E.1.2.2.2.1 E.2.1 hP hD hS q hq hcl j hj (E.1.2.2.2.2 _ hlk) (by rw [href]; exact fun _ h => h) hfin (hty j hj) hnar hfit (by rw [jfs_len]; exact hj) d (fun H locs hP hD hS => ?_)
  rw [jfs_setI hj ht] at hP hD
  have e := jw_set (X := gX G) (cy := gY G) (Z := Z) (Z' := Z) (I := I) (I' := jpI I a j v) (L := L) (L' := L) (a := a) (q := q) (e := .inr (c, jfs c (upd (I a) j v) (L a) (Z.2.2.2 a))) hD0 hk.1 hq0 rfl (by rw [jf_obj hk.2 hc]; simp [jpI, va_up]) (fun b hb => jf_I_ne hb)
  rw [e] at hP hD
  exact kk H locs ls hl hP hD hS
theorem j_putl (E : jE G cc own Ts nL ret rm Rt) {i a : Nat} (c j : Nat) {C ref : String} {T : u_T} {N : Nat} {v : Int64} (hcl : vwCl[c]? = some (C, T, N)) (hN : N = jnum c) (hc : c < 13) (hj : j < N) (hin : ∀ w ∈ u_ws C T N, w ∈ Ts) (hty : ∀ k, k < N → parseFieldDescriptor (T k).2.2.1 = some (jty c k)) (hnm : ∀ a, a < N → ∀ b, b < N → a ≠ b → (T a).2.1 ≠ (T b).2.1) (ht : jty c j = .long) (href : (T j).1 = ref) (hlk : Cond.fieldLink own i ref (T j).2.1 (T j).2.2.1 ∈ Ts) (hfin : (T j).2.2.2 = false)  (hk : jk Z a c) (d : decode cc pc = .ok (.putfield i, 3)) (kk : jJ G nL (pc + 3) lv st Z I (jpL L a j v) k n) : jJ G nL pc lv (.long v :: .ref a :: st) Z I L k n := by
  intro H locs ls hl hP hD hS
  have hD0 := hD
  obtain ⟨q, hq⟩ := jw_get (X := gX G) (cy := gY G) (I := I) (L := L) hk.1
  have hq0 := hq
  rw [jf_obj hk.2 hc] at hq
  subst hN
  refine va_put E.1.1 E.1.2.1 E.1.2.2.2.2 hin (jty c) hty hnm E.1.2.2.2.1 E.2.1 hP hD hS q hq hcl j hj (E.1.2.2.2.2 _ hlk) (by rw [href]; exact fun _ h => h) hfin (hty j hj) (by rw [ht]; rfl) (by rw [ht]; rfl) (by rw [jfs_len]; exact hj) d (fun H locs hP hD hS => ?_)
  rw [jfs_setL hj ht] at hP hD
  have e := jw_set (X := gX G) (cy := gY G) (Z := Z) (Z' := Z) (I := I) (I' := I) (L := L) (L' := jpL L a j v) (a := a) (q := q) (e := .inr (c, jfs c (I a) (vp_updL (L a) j v) (Z.2.2.2 a))) hD0 hk.1 hq0 rfl (by rw [jf_obj hk.2 hc]; simp [jpL, va_up]) (fun b hb => jf_L_ne hb)
  rw [e] at hP hD
  exact kk H locs ls hl hP hD hS
theorem j_putiN (E : jE G cc own Ts nL ret rm Rt) {i a : Nat} (c j : Nat) {C ref host : String} {T : u_T} {N : Nat} {v : Int32} (hcl : vwCl[c]? = some (C, T, N)) (hN : N = jnum c) (hc : c < 13) (hj : j < N) (hin : ∀ w ∈ u_ws C T N, w ∈ Ts) (hty : ∀ k, k < N → parseFieldDescriptor (T k).2.2.1 = some (jty c k)) (hnm : ∀ a, a < N → ∀ b, b < N → a ≠ b → (T a).2.1 ≠ (T b).2.1) (ht : jint (jty c j) = true) (href : (T j).1 = ref) (hlk : Cond.fieldLinkNest own i ref (T j).2.1 (T j).2.2.1 host ∈ jnest) (hfin : (T j).2.2.2 = false) (hnar : narrow (jty c j) (.int v) = .int v) (hfit : fits (jty c j) (.int v) = true) (hk : jk Z a c) (d : decode cc pc = .ok (.putfield i, 3)) (kk : jJ G nL (pc + 3) lv st Z (jpI I a j v) L k n) : jJ G nL pc lv (.int v :: .ref a :: st) Z I L k n := by
  intro H locs ls hl hP hD hS
  have hD0 := hD
  obtain ⟨q, hq⟩ := jw_get (X := gX G) (cy := gY G) (I := I) (L := L) hk.1
  have hq0 := hq
  rw [jf_obj hk.2 hc] at hq
  subst hN
  refine va_putN E.1.1 E.1.2.1 E.1.2.2.2.2 hin (jty c) hty hnm E.1.2.2.2.1 E.2.1 hP hD hS q hq hcl j hj (va_Nw.use rfl (E.2.2.2.1.1 _ hlk)) (by rw [href]; exact fun _ h => h) hfin (hty j hj) hnar hfit (by rw [jfs_len]; exact hj) d (fun H locs hP hD hS => ?_)
  rw [jfs_setI hj ht] at hP hD
  have e := jw_set (X := gX G) (cy := gY G) (Z := Z) (Z' := Z) (I := I) (I' := jpI I a j v) (L := L) (L' := L) (a := a) (q := q) (e := .inr (c, jfs c (upd (I a) j v) (L a) (Z.2.2.2 a))) hD0 hk.1 hq0 rfl (by rw [jf_obj hk.2 hc]; simp [jpI, va_up]) (fun b hb => jf_I_ne hb)
  rw [e] at hP hD
  exact kk H locs ls hl hP hD hS
theorem j_putlN (E : jE G cc own Ts nL ret rm Rt) {i a : Nat} (c j : Nat) {C ref host : String} {T : u_T} {N : Nat} {v : Int64} (hcl : vwCl[c]? = some (C, T, N)) (hN : N = jnum c) (hc : c < 13) (hj : j < N) (hin : ∀ w ∈ u_ws C T N, w ∈ Ts) (hty : ∀ k, k < N → parseFieldDescriptor (T k).2.2.1 = some (jty c k)) (hnm : ∀ a, a < N → ∀ b, b < N → a ≠ b → (T a).2.1 ≠ (T b).2.1) (ht : jty c j = .long) (href : (T j).1 = ref) (hlk : Cond.fieldLinkNest own i ref (T j).2.1 (T j).2.2.1 host ∈ jnest) (hfin : (T j).2.2.2 = false)  (hk : jk Z a c) (d : decode cc pc = .ok (.putfield i, 3)) (kk : jJ G nL (pc + 3) lv st Z I (jpL L a j v) k n) : jJ G nL pc lv (.long v :: .ref a :: st) Z I L k n := by
  intro H locs ls hl hP hD hS
  have hD0 := hD
  obtain ⟨q, hq⟩ := jw_get (X := gX G) (cy := gY G) (I := I) (L := L) hk.1
  have hq0 := hq
  rw [jf_obj hk.2 hc] at hq
  subst hN
  refine va_putN E.1.1 E.1.2.1 E.1.2.2.2.2 hin (jty c) hty hnm E.1.2.2.2.1 E.2.1 hP hD hS q hq hcl j hj (va_Nw.use rfl (E.2.2.2.1.1 _ hlk)) (by rw [href]; exact fun _ h => h) hfin (hty j hj) (by rw [ht]; rfl) (by rw [ht]; rfl) (by rw [jfs_len]; exact hj) d (fun H locs hP hD hS => ?_)
  rw [jfs_setL hj ht] at hP hD
  have e := jw_set (X := gX G) (cy := gY G) (Z := Z) (Z' := Z) (I := I) (I' := I) (L := L) (L' := jpL L a j v) (a := a) (q := q) (e := .inr (c, jfs c (I a) (vp_updL (L a) j v) (Z.2.2.2 a))) hD0 hk.1 hq0 rfl (by rw [jf_obj hk.2 hc]; simp [jpL, va_up]) (fun b hb => jf_L_ne hb)
  rw [e] at hP hD
  exact kk H locs ls hl hP hD hS
/-! arrays -/
theorem j_iald (E : jE G cc own Ts nL ret rm Rt) {a : Nat} {i : Int32} (hk : jk Z a 14) (hi : vp_in i (jlen Z a)) (d : decode cc pc = .ok (.iaload, 1)) (kk : jJ G nL (pc + 1) lv (.int (I a i.toNatClampNeg) :: st) Z I L k n) : jJ G nL pc lv (.int i :: .ref a :: st) Z I L k n := by
  intro H locs ls hl hP hD hS
  obtain ⟨q, hq⟩ := jw_get (X := gX G) (cy := gY G) (I := I) (L := L) hk.1
  rw [jf_14 hk.2] at hq
  exact va_iald E.1.1 E.1.2.1 E.2.1 hP q 1 hq rfl hi d (kk H locs ls hl hP hD hS)
theorem j_bald (E : jE G cc own Ts nL ret rm Rt) {a : Nat} {i : Int32} (hk : jk Z a 13) (hi : vp_in i (jlen Z a)) (d : decode cc pc = .ok (.baload, 1)) (kk : jJ G nL (pc + 1) lv (.int (I a i.toNatClampNeg) :: st) Z I L k n) : jJ G nL pc lv (.int i :: .ref a :: st) Z I L k n := by
  intro H locs ls hl hP hD hS
  obtain ⟨q, hq⟩ := jw_get (X := gX G) (cy := gY G) (I := I) (L := L) hk.1
  rw [jf_13 hk.2] at hq
  exact va_bald E.1.1 E.1.2.1 E.2.1 hP q 0 hq rfl hi d (kk H locs ls hl hP hD hS)
theorem j_zald (E : jE G cc own Ts nL ret rm Rt) {a : Nat} {i : Int32} (hk : jk Z a 16) (hi : vp_in i (jlen Z a)) (d : decode cc pc = .ok (.baload, 1)) (kk : jJ G nL (pc + 1) lv (.int (I a i.toNatClampNeg) :: st) Z I L k n) : jJ G nL pc lv (.int i :: .ref a :: st) Z I L k n := by
  intro H locs ls hl hP hD hS
  obtain ⟨q, hq⟩ := jw_get (X := gX G) (cy := gY G) (I := I) (L := L) hk.1
  rw [jf_16 hk.2] at hq
  exact va_zald E.1.1 E.1.2.1 E.2.1 hP q 3 hq rfl hi d (kk H locs ls hl hP hD hS)
theorem j_lald (E : jE G cc own Ts nL ret rm Rt) {a : Nat} {i : Int32} (hk : jk Z a 15) (hi : vp_in i (jlen Z a)) (d : decode cc pc = .ok (.laload, 1)) (kk : jJ G nL (pc + 1) lv (.long (L a i.toNatClampNeg) :: st) Z I L k n) : jJ G nL pc lv (.int i :: .ref a :: st) Z I L k n := by
  intro H locs ls hl hP hD hS
  obtain ⟨q, hq⟩ := jw_get (X := gX G) (cy := gY G) (I := I) (L := L) hk.1
  rw [jf_15 hk.2] at hq
  exact va_lald E.1.1 E.1.2.1 E.2.1 hP q 2 hq rfl hi d (kk H locs ls hl hP hD hS)
theorem j_iast (E : jE G cc own Ts nL ret rm Rt) {a : Nat} {i : Int32} {x : Int32} (hk : jk Z a 14) (hi : vp_in i (jlen Z a)) (d : decode cc pc = .ok (.iastore, 1)) (kk : jJ G nL (pc + 1) lv st Z (jpI I a i.toNatClampNeg x) L k n) : jJ G nL pc lv (.int x :: .int i :: .ref a :: st) Z I L k n := by
  intro H locs ls hl hP hD hS
  have hD0 := hD
  obtain ⟨q, hq⟩ := jw_get (X := gX G) (cy := gY G) (I := I) (L := L) hk.1
  have hq0 := hq
  rw [jf_14 hk.2] at hq
  refine va_iast E.1.1 E.1.2.1 E.2.1 hP hD hS q 1 hq rfl hi d (fun H locs hP hD hS => ?_)
  have e := jw_set (X := gX G) (cy := gY G) (Z := Z) (Z' := Z) (I := I) (I' := jpI I a i.toNatClampNeg x) (L := L) (L' := L) (a := a) (q := q) hD0 hk.1 hq0 rfl (by rw [jf_14 hk.2]) (fun b hb => jf_I_ne hb)
  simp only [jpI, va_up_self] at e
  rw [e] at hP hD
  exact kk H locs ls hl hP hD hS
theorem j_bast (E : jE G cc own Ts nL ret rm Rt) {a : Nat} {i : Int32} {x : Int32} (hk : jk Z a 13) (hi : vp_in i (jlen Z a)) (d : decode cc pc = .ok (.bastore, 1)) (kk : jJ G nL (pc + 1) lv st Z (jpI I a i.toNatClampNeg (vp_nar .byte x)) L k n) : jJ G nL pc lv (.int x :: .int i :: .ref a :: st) Z I L k n := by
  intro H locs ls hl hP hD hS
  have hD0 := hD
  obtain ⟨q, hq⟩ := jw_get (X := gX G) (cy := gY G) (I := I) (L := L) hk.1
  have hq0 := hq
  rw [jf_13 hk.2] at hq
  refine va_bast E.1.1 E.1.2.1 E.2.1 hP hD hS q 0 hq rfl hi d (fun H locs hP hD hS => ?_)
  have e := jw_set (X := gX G) (cy := gY G) (Z := Z) (Z' := Z) (I := I) (I' := jpI I a i.toNatClampNeg (vp_nar .byte x)) (L := L) (L' := L) (a := a) (q := q) hD0 hk.1 hq0 rfl (by rw [jf_13 hk.2]) (fun b hb => jf_I_ne hb)
  simp only [jpI, va_up_self] at e
  rw [e] at hP hD
  exact kk H locs ls hl hP hD hS
theorem j_zast (E : jE G cc own Ts nL ret rm Rt) {a : Nat} {i : Int32} {x : Int32} (hk : jk Z a 16) (hi : vp_in i (jlen Z a)) (d : decode cc pc = .ok (.bastore, 1)) (kk : jJ G nL (pc + 1) lv st Z (jpI I a i.toNatClampNeg (vp_nar .boolean x)) L k n) : jJ G nL pc lv (.int x :: .int i :: .ref a :: st) Z I L k n := by
  intro H locs ls hl hP hD hS
  have hD0 := hD
  obtain ⟨q, hq⟩ := jw_get (X := gX G) (cy := gY G) (I := I) (L := L) hk.1
  have hq0 := hq
  rw [jf_16 hk.2] at hq
  refine va_zast E.1.1 E.1.2.1 E.2.1 hP hD hS q 3 hq rfl hi d (fun H locs hP hD hS => ?_)
  have e := jw_set (X := gX G) (cy := gY G) (Z := Z) (Z' := Z) (I := I) (I' := jpI I a i.toNatClampNeg (vp_nar .boolean x)) (L := L) (L' := L) (a := a) (q := q) hD0 hk.1 hq0 rfl (by rw [jf_16 hk.2]) (fun b hb => jf_I_ne hb)
  simp only [jpI, va_up_self] at e
  rw [e] at hP hD
  exact kk H locs ls hl hP hD hS
theorem j_last (E : jE G cc own Ts nL ret rm Rt) {a : Nat} {i : Int32} {x : Int64} (hk : jk Z a 15) (hi : vp_in i (jlen Z a)) (d : decode cc pc = .ok (.lastore, 1)) (kk : jJ G nL (pc + 1) lv st Z I (jpL L a i.toNatClampNeg x) k n) : jJ G nL pc lv (.long x :: .int i :: .ref a :: st) Z I L k n := by
  intro H locs ls hl hP hD hS
  have hD0 := hD
  obtain ⟨q, hq⟩ := jw_get (X := gX G) (cy := gY G) (I := I) (L := L) hk.1
  have hq0 := hq
  rw [jf_15 hk.2] at hq
  refine va_last E.1.1 E.1.2.1 E.2.1 hP hD hS q 2 hq rfl hi d (fun H locs hP hD hS => ?_)
  have e := jw_set (X := gX G) (cy := gY G) (Z := Z) (Z' := Z) (I := I) (I' := I) (L := L) (L' := jpL L a i.toNatClampNeg x) (a := a) (q := q) hD0 hk.1 hq0 rfl (by rw [jf_15 hk.2]) (fun b hb => jf_L_ne hb)
  simp only [jpL, va_up_self] at e
  rw [e] at hP hD
  exact kk H locs ls hl hP hD hS
theorem j_alen13 (E : jE G cc own Ts nL ret rm Rt) {a : Nat} {v : Int32} (hk : jk Z a 13) (hv : Int32.ofNat (jlen Z a) = v) (d : decode cc pc = .ok (.arraylength, 1)) (kk : jJ G nL (pc + 1) lv (.int v :: st) Z I L k n) : jJ G nL pc lv (.ref a :: st) Z I L k n := by
  intro H locs ls hl hP hD hS
  obtain ⟨q, hq⟩ := jw_get (X := gX G) (cy := gY G) (I := I) (L := L) hk.1
  rw [jf_13 hk.2] at hq
  exact va_alen E.1.1 E.1.2.1 E.2.1 hP q 0 hq rfl hv d (kk H locs ls hl hP hD hS)
theorem j_alen14 (E : jE G cc own Ts nL ret rm Rt) {a : Nat} {v : Int32} (hk : jk Z a 14) (hv : Int32.ofNat (jlen Z a) = v) (d : decode cc pc = .ok (.arraylength, 1)) (kk : jJ G nL (pc + 1) lv (.int v :: st) Z I L k n) : jJ G nL pc lv (.ref a :: st) Z I L k n := by
  intro H locs ls hl hP hD hS
  obtain ⟨q, hq⟩ := jw_get (X := gX G) (cy := gY G) (I := I) (L := L) hk.1
  rw [jf_14 hk.2] at hq
  exact va_alen E.1.1 E.1.2.1 E.2.1 hP q 1 hq rfl hv d (kk H locs ls hl hP hD hS)
theorem j_alen15 (E : jE G cc own Ts nL ret rm Rt) {a : Nat} {v : Int32} (hk : jk Z a 15) (hv : Int32.ofNat (jlen Z a) = v) (d : decode cc pc = .ok (.arraylength, 1)) (kk : jJ G nL (pc + 1) lv (.int v :: st) Z I L k n) : jJ G nL pc lv (.ref a :: st) Z I L k n := by
  intro H locs ls hl hP hD hS
  obtain ⟨q, hq⟩ := jw_get (X := gX G) (cy := gY G) (I := I) (L := L) hk.1
  rw [jf_15 hk.2] at hq
  exact va_alen E.1.1 E.1.2.1 E.2.1 hP q 2 hq rfl hv d (kk H locs ls hl hP hD hS)
theorem j_alen16 (E : jE G cc own Ts nL ret rm Rt) {a : Nat} {v : Int32} (hk : jk Z a 16) (hv : Int32.ofNat (jlen Z a) = v) (d : decode cc pc = .ok (.arraylength, 1)) (kk : jJ G nL (pc + 1) lv (.int v :: st) Z I L k n) : jJ G nL pc lv (.ref a :: st) Z I L k n := by
  intro H locs ls hl hP hD hS
  obtain ⟨q, hq⟩ := jw_get (X := gX G) (cy := gY G) (I := I) (L := L) hk.1
  rw [jf_16 hk.2] at hq
  exact va_alen E.1.1 E.1.2.1 E.2.1 hP q 3 hq rfl hv d (kk H locs ls hl hP hD hS)
theorem j_alen17 (E : jE G cc own Ts nL ret rm Rt) {a : Nat} {v : Int32} (hk : jk Z a 17) (hv : Int32.ofNat (jlen Z a) = v) (d : decode cc pc = .ok (.arraylength, 1)) (kk : jJ G nL (pc + 1) lv (.int v :: st) Z I L k n) : jJ G nL pc lv (.ref a :: st) Z I L k n := by
  intro H locs ls hl hP hD hS
  obtain ⟨q, hq⟩ := jw_get (X := gX G) (cy := gY G) (I := I) (L := L) hk.1
  rw [jf_17 hk.2] at hq
  exact va_alen E.1.1 E.1.2.1 E.2.1 hP q 4 hq rfl hv d (kk H locs ls hl hP hD hS)
theorem j_alen18 (E : jE G cc own Ts nL ret rm Rt) {a : Nat} {v : Int32} (hk : jk Z a 18) (hv : Int32.ofNat (jlen Z a) = v) (d : decode cc pc = .ok (.arraylength, 1)) (kk : jJ G nL (pc + 1) lv (.int v :: st) Z I L k n) : jJ G nL pc lv (.ref a :: st) Z I L k n := by
  intro H locs ls hl hP hD hS
  obtain ⟨q, hq⟩ := jw_get (X := gX G) (cy := gY G) (I := I) (L := L) hk.1
  rw [jf_18 hk.2] at hq
  exact va_alen E.1.1 E.1.2.1 E.2.1 hP q 5 hq rfl hv d (kk H locs ls hl hP hD hS)
theorem j_alen19 (E : jE G cc own Ts nL ret rm Rt) {a : Nat} {v : Int32} (hk : jk Z a 19) (hv : Int32.ofNat (jlen Z a) = v) (d : decode cc pc = .ok (.arraylength, 1)) (kk : jJ G nL (pc + 1) lv (.int v :: st) Z I L k n) : jJ G nL pc lv (.ref a :: st) Z I L k n := by
  intro H locs ls hl hP hD hS
  obtain ⟨q, hq⟩ := jw_get (X := gX G) (cy := gY G) (I := I) (L := L) hk.1
  rw [jf_19 hk.2] at hq
  exact va_alen E.1.1 E.1.2.1 E.2.1 hP q 6 hq rfl hv d (kk H locs ls hl hP hD hS)
theorem j_aald17 (E : jE G cc own Ts nL ret rm Rt) {a : Nat} {i : Int32} (hk : jk Z a 17) (hi : vp_in i (jlen Z a)) (d : decode cc pc = .ok (.aaload, 1)) (kk : jJ G nL (pc + 1) lv (va_rf (jr Z a i.toNatClampNeg) :: st) Z I L k n) : jJ G nL pc lv (.int i :: .ref a :: st) Z I L k n := by
  intro H locs ls hl hP hD hS
  obtain ⟨q, hq⟩ := jw_get (X := gX G) (cy := gY G) (I := I) (L := L) hk.1
  rw [jf_17 hk.2] at hq
  exact va_aldq E.1.1 E.1.2.1 E.2.1 hP q 4 hq rfl hi d (kk H locs ls hl hP hD hS)
theorem j_aald18 (E : jE G cc own Ts nL ret rm Rt) {a : Nat} {i : Int32} (hk : jk Z a 18) (hi : vp_in i (jlen Z a)) (d : decode cc pc = .ok (.aaload, 1)) (kk : jJ G nL (pc + 1) lv (va_rf (jr Z a i.toNatClampNeg) :: st) Z I L k n) : jJ G nL pc lv (.int i :: .ref a :: st) Z I L k n := by
  intro H locs ls hl hP hD hS
  obtain ⟨q, hq⟩ := jw_get (X := gX G) (cy := gY G) (I := I) (L := L) hk.1
  rw [jf_18 hk.2] at hq
  exact va_aldq E.1.1 E.1.2.1 E.2.1 hP q 5 hq rfl hi d (kk H locs ls hl hP hD hS)
theorem j_rfN {r : Option Nat} (h : r = none) (kk : jJ G nL pc lv (.null :: st) Z I L k n) : jJ G nL pc lv (va_rf r :: st) Z I L k n := by subst h; exact kk
theorem j_rfS {r : Option Nat} {b : Nat} (h : r = some b) (kk : jJ G nL pc lv (.ref b :: st) Z I L k n) : jJ G nL pc lv (va_rf r :: st) Z I L k n := by subst h; exact kk
/-! the end -/
theorem j_ireturn (E : jE G cc own Ts nL (some .int) rm Rt) {v : Int32} (h : Rt (some (.int v)) Z I L) (h1 : k ≤ rm.cells) (h2 : n ≤ rm.slots) (d : decode cc pc = .ok (.ireturn, 1)) : jJ G nL pc lv [.int v] Z I L k n := by
  intro H locs ls hl hP hD hS
  refine W.mono E.2.2.2.2.2.2.2 ?_
  refine W.widen h1 h2 ?_
  exact W.iret E.1.1 E.1.2.1 E.2.2.2.2.1 (fun t ht hW => ⟨⟨_, Z, I, L, rfl, h, by rw [ht]; exact j_cutP hP, va_K.moved hW.alike E.2.1, j_cutD hD⟩, hS.F ht⟩) hS.2.2 d E.2.2.2.2.2.1
theorem j_zreturn (E : jE G cc own Ts nL (some .boolean) rm Rt) {v : Int32} (hv : v = 0 ∨ v = 1) (h : Rt (some (.int v)) Z I L) (h1 : k ≤ rm.cells) (h2 : n ≤ rm.slots) (d : decode cc pc = .ok (.ireturn, 1)) : jJ G nL pc lv [.int v] Z I L k n := by
  intro H locs ls hl hP hD hS
  refine W.mono E.2.2.2.2.2.2.2 ?_
  refine W.widen h1 h2 ?_
  exact W.zret E.1.1 E.1.2.1 E.2.2.2.2.1 (by rcases hv with rfl | rfl <;> rfl) (fun t ht hW => ⟨⟨_, Z, I, L, rfl, h, by rw [ht]; exact j_cutP hP, va_K.moved hW.alike E.2.1, j_cutD hD⟩, hS.F ht⟩) hS.2.2 d E.2.2.2.2.2.1
theorem j_lreturn (E : jE G cc own Ts nL (some .long) rm Rt) {v : Int64} (h : Rt (some (.long v)) Z I L) (h1 : k ≤ rm.cells) (h2 : n ≤ rm.slots) (d : decode cc pc = .ok (.lreturn, 1)) : jJ G nL pc lv [.long v] Z I L k n := by
  intro H locs ls hl hP hD hS
  refine W.mono E.2.2.2.2.2.2.2 ?_
  refine W.widen h1 h2 ?_
  exact W.lret E.1.1 E.1.2.1 E.2.2.2.2.1 (fun t ht hW => ⟨⟨_, Z, I, L, rfl, h, by rw [ht]; exact j_cutP hP, va_K.moved hW.alike E.2.1, j_cutD hD⟩, hS.F ht⟩) hS.2.2 d E.2.2.2.2.2.1
theorem j_return (E : jE G cc own Ts nL none rm Rt) (h : Rt none Z I L) (h1 : k ≤ rm.cells) (h2 : n ≤ rm.slots) (d : decode cc pc = .ok (.return_, 1)) : jJ G nL pc lv [] Z I L k n := by
  intro H locs ls hl hP hD hS
  refine W.mono E.2.2.2.2.2.2.2 ?_
  refine W.widen h1 h2 ?_
  exact W.vret E.1.1 E.1.2.1 E.2.2.2.2.1 (fun t ht hW => ⟨⟨_, Z, I, L, rfl, h, by rw [ht]; exact j_cutP hP, va_K.moved hW.alike E.2.1, j_cutD hD⟩, hS.F ht⟩) hS.2.2 d E.2.2.2.2.2.1
theorem j_areturn {rt : FieldType} (E : jE G cc own Ts nL (some rt) rm Rt) (hrt : (∃ n, rt = .object n) ∨ ∃ t, rt = .array t) (r : Option Nat) {v : Value} (hv : v = va_rf r) (h : Rt (some (va_rf r)) Z I L) (h1 : k ≤ rm.cells) (h2 : n ≤ rm.slots) (d : decode cc pc = .ok (.areturn, 1)) : jJ G nL pc lv [v] Z I L k n := by
  intro H locs ls hl hP hD hS
  subst hv
  refine W.mono E.2.2.2.2.2.2.2 ?_
  refine W.widen h1 h2 ?_
  exact W.aret E.1.1 E.1.2.1 E.2.2.2.2.1 hrt (va_rf_or r) (fun t ht hW => ⟨⟨_, Z, I, L, rfl, h, by rw [ht]; exact j_cutP hP, va_K.moved hW.alike E.2.1, j_cutD hD⟩, hS.F ht⟩) hS.2.2 d E.2.2.2.2.2.1
/-! calls -/
theorem jP_blind {as : List Value} {D : va_G} {cy : jC} {sz : Nat} : FrameBlind (va_Pc as (fun U => U.heap.size = sz ∧ va_P D vwCl (jw cy Z I L) U.heap ∧ va_K D vwCl (jtys cy) U ∧ va_D (fun _ => True) (jw cy Z I L) ∧ jN U)) := by
  intro a U g mk q
  obtain ⟨q0, q1, qP, qK, qD, qN⟩ := q
  exact ⟨q0, q1, qP, va_K.moved (u := U) (U := U.calling g mk a) (Vm.Alike.refl U.vm) qK, qD, jN_same (s := U) rfl qN⟩
/-- behind a call -/
theorem j_back (E : jE G cc own Ts nL ret rm Rt) {st0 rest : List Value} {a : Array Value} {H : Heap} {locs : List Loc} {ls : Array Slot} {mc ms : Nat} {Rt' : jRt}
    (hr : va_Run (gP G) (gL G) (gE G) (gR G) (gS G) (gM G) (gV G) (gB G) (gH G) (gC G) H locs k n mc ms (F0 (gM G) pc ls st0) rest (jQ (gD G) (gY G) Rt' (va_A (jw (gY G) Z I L) H.size) a) (va_A (jw (gY G) Z I L) H.size))
    (hl : lv_has ls nL lv) (hP : va_P (gD G) vwCl (gX G ++ jw (gY G) Z I L) H) (hD : va_D (gA G) (gX G ++ jw (gY G) Z I L)) (hS : va_S (gA G) (gS G).heap H locs)
    (kk : ∀ v Z' I' L', Rt' v Z' I' L' → jJ G nL (pc + 3) lv (v.toList ++ rest) Z' I' L' (k + mc) (n + ms)) : W (gP G) (gL G) (gE G) (gR G) (gS G) (gM G) (gV G) (gB G) (gH G) (gC G) H locs k n (gQ G) (F0 (gM G) pc ls st0) := by
  intro T hT X
  obtain ⟨v, st₀, t, T', Lw, h0, X', hL, e1, e2, ⟨⟨v2, Z', I', L', hv, hp, hP', hK', hD'⟩, hz, hk⟩, st⟩ := hr T hT X
  cases hv
  rw [h0] at hz hk
  have hfr : ∀ q, va_A (jw (gY G) Z I L) H.size q → gA G q := by
    intro q hq
    rcases hq with ⟨k9, e9, h9⟩ | h9
    · exact (j_cutD hD).2 k9 _ h9
    · exact E.2.2.1 q (Nat.le_trans hS.1 h9)
  have hS' : va_S (gA G) (gS G).heap T'.heap (locs ++ Lw) := ⟨Nat.le_trans hS.1 (by rw [e1]; exact hz), fun q h1 h2 => by rw [e1, hk q (Nat.lt_of_lt_of_le h1 hS.1) (fun z => h2 (hfr q z))]; exact hS.2.1 q h1 h2, fun q hq => by
      rcases List.mem_append.mp hq with h | h
      · exact hS.2.2 q h
      · exact hfr _ (hL q h)⟩
  obtain ⟨hPj, hDj⟩ := j_join hP hD (H1 := T'.heap) (fun q h1 h2 => by rw [e1]; exact hk q h1 h2) hfr (by rw [e1]; exact hP') hD'
  obtain ⟨t2, a1, b1⟩ := kk v Z' I' L' hp T'.heap (locs ++ Lw) ls hl hPj hDj hS' T' rfl X'
  exact ⟨t2, st t2 a1, b1⟩
theorem j_callV (E : jE G cc own Ts nL ret rm Rt) {y : MethodName} {ws ws' : List Cond} {rm' : Room} {bytes : ByteArray} {maxL : Nat} {ret' : Option FieldType} {C : String} {T : u_T} {N i b c na : Nat} {Rt' : jRt} (As rest : List Value)
    (hM : jCt (gL G) y ws rm' (gD G) (gY G) (.ref b :: As) Z I L Rt') (hg : GoodIn Ts (wsV own i C y ws)) (hw : ws = Cond.code y bytes maxL ret' :: ws')
    (hd : y.cls = C ∧ y.cls ≠ "java/lang/invoke/MethodHandle" ∧ y.cls ≠ "java/lang/invoke/VarHandle" ∧ (parseMethodDescriptor y.desc).map (fun d => d.parameters.length) = some na)
    (hR : rm'.frames + 1 ≤ rm.frames ∧ 8 + (maxL + 11) + rm'.locals ≤ rm.locals) (hcl : vwCl[c]? = some (C, T, N)) (hc : c < 13) (hk : jk Z b c) (hn : As.length = na) (hst : st = As.reverse ++ .ref b :: rest) (hcat : (rest.map fun v => v.category).sum ≤ 8)
    (hf : k + rm'.cells ≤ rm.cells ∧ n + rm'.slots ≤ rm.slots) (d : decode cc pc = .ok (.invokevirtual i, 3))
    (kk : ∀ v Z' I' L', Rt' v Z' I' L' → jJ G nL (pc + 3) lv (v.toList ++ rest) Z' I' L' (k + rm'.cells) (n + rm'.slots)) : jJ G nL pc lv st Z I L k n := by
  intro H locs ls hl hP hD hS
  have eR := E.2.2.2.2.2.2.1
  obtain ⟨q, hq⟩ := jw_get (X := gX G) (cy := gY G) (I := I) (L := L) hk.1
  rw [jf_obj hk.2 hc] at hq
  have hrun := va_runV (p := gP G) (l := gL G) (e := gE G) (R := gR G) (s := gS G) (m := gM G) (args := gV G) (below := gB G) (meth := gH G) (c := gC G) (H := H) (locs := locs) (cells := k) (slots := n) (g := F0 (gM G) pc ls st) (As := As) (rest := rest) E.1 (hM H.size) (cwV na E.1.2.2.2.2 hg hw rfl rfl hd (by rw [eR]; exact hR))
    ⟨jP_blind, va_recv E.2.1 hP hcl hq, fun U hU hW => ⟨rfl, by rw [hU], by rw [hU]; exact j_cutP hP, va_K.moved hW.alike E.2.1, (j_cutD hD).weaken (fun _ _ _ _ => trivial), jN_warm hW E.2.2.2.1⟩⟩ rfl hn hl.1 hst (lv_room hcat) d (by rw [eR]; exact hf)
  exact j_back E hrun hl hP hD hS kk
theorem j_callVN (E : jE G cc own Ts nL ret rm Rt) {y : MethodName} {ws ws' : List Cond} {rm' : Room} {bytes : ByteArray} {maxL : Nat} {ret' : Option FieldType} {C host : String} {T : u_T} {N i b c na : Nat} {Rt' : jRt} (As rest : List Value)
    (hM : jCt (gL G) y ws rm' (gD G) (gY G) (.ref b :: As) Z I L Rt') (hg : GoodIn Ts ws) (hw : ws = Cond.code y bytes maxL ret' :: ws')
    (hlk : Cond.methodLinkNest own i y host ∈ jnest) (hini : Cond.initialized y.cls ∈ Ts) (hinst : Cond.instanceMethod y ∈ Ts) (hsel : Cond.selects C y y ∈ Ts)
    (hd : y.cls ≠ "java/lang/invoke/MethodHandle" ∧ y.cls ≠ "java/lang/invoke/VarHandle" ∧ (parseMethodDescriptor y.desc).map (fun d => d.parameters.length) = some na)
    (hR : rm'.frames + 1 ≤ rm.frames ∧ 8 + (maxL + 11) + rm'.locals ≤ rm.locals) (hcl : vwCl[c]? = some (C, T, N)) (hc : c < 13) (hk : jk Z b c) (hn : As.length = na) (hst : st = As.reverse ++ .ref b :: rest) (hcat : (rest.map fun v => v.category).sum ≤ 8)
    (hf : k + rm'.cells ≤ rm.cells ∧ n + rm'.slots ≤ rm.slots) (d : decode cc pc = .ok (.invokevirtual i, 3))
    (kk : ∀ v Z' I' L', Rt' v Z' I' L' → jJ G nL (pc + 3) lv (v.toList ++ rest) Z' I' L' (k + rm'.cells) (n + rm'.slots)) : jJ G nL pc lv st Z I L k n := by
  intro H locs ls hl hP hD hS
  have eR := E.2.2.2.2.2.2.1
  obtain ⟨q, hq⟩ := jw_get (X := gX G) (cy := gY G) (I := I) (L := L) hk.1
  rw [jf_obj hk.2 hc] at hq
  have hrun := va_runVN (p := gP G) (l := gL G) (e := gE G) (R := gR G) (s := gS G) (m := gM G) (args := gV G) (below := gB G) (meth := gH G) (c := gC G) (H := H) (locs := locs) (cells := k) (slots := n) (g := F0 (gM G) pc ls st) (As := As) (rest := rest) E.1 (hM H.size) ⟨va_cnB na E.1.2.2.2.2 hg hw rfl rfl (E.2.2.2.1.1 _ hlk) (E.1.2.2.2.2 _ hini) hd (by rw [eR]; exact hR), E.1.2.2.2.2 _ hinst, E.1.2.2.2.2 _ hsel⟩
    ⟨jP_blind, va_recv E.2.1 hP hcl hq, fun U hU hW => ⟨rfl, by rw [hU], by rw [hU]; exact j_cutP hP, va_K.moved hW.alike E.2.1, (j_cutD hD).weaken (fun _ _ _ _ => trivial), jN_warm hW E.2.2.2.1⟩⟩ rfl hn hl.1 hst (lv_room hcat) d (by rw [eR]; exact hf)
  exact j_back E hrun hl hP hD hS kk
theorem j_callS (E : jE G cc own Ts nL ret rm Rt) {y : MethodName} {ws ws' : List Cond} {rm' : Room} {bytes : ByteArray} {maxL : Nat} {ret' : Option FieldType} {i na : Nat} {Rt' : jRt} (As rest : List Value)
    (hM : jCt (gL G) y ws rm' (gD G) (gY G) As Z I L Rt') (hg : GoodIn Ts (va_wsS own i y ws)) (hw : ws = Cond.code y bytes maxL ret' :: ws')
    (hd : y.cls ≠ "java/lang/invoke/MethodHandle" ∧ y.cls ≠ "java/lang/invoke/VarHandle" ∧ (parseMethodDescriptor y.desc).map (fun d => d.parameters.length) = some na)
    (hR : rm'.frames + 1 ≤ rm.frames ∧ 8 + (maxL + 11) + rm'.locals ≤ rm.locals) (hn : As.length = na) (hst : st = As.reverse ++ rest) (hcat : (rest.map fun v => v.category).sum ≤ 8)
    (hf : k + rm'.cells ≤ rm.cells ∧ n + rm'.slots ≤ rm.slots) (d : decode cc pc = .ok (.invokestatic i, 3))
    (kk : ∀ v Z' I' L', Rt' v Z' I' L' → jJ G nL (pc + 3) lv (v.toList ++ rest) Z' I' L' (k + rm'.cells) (n + rm'.slots)) : jJ G nL pc lv st Z I L k n := by
  intro H locs ls hl hP hD hS
  have eR := E.2.2.2.2.2.2.1
  have hrun := va_runS (p := gP G) (l := gL G) (e := gE G) (R := gR G) (s := gS G) (m := gM G) (args := gV G) (below := gB G) (meth := gH G) (c := gC G) (H := H) (locs := locs) (cells := k) (slots := n) (g := F0 (gM G) pc ls st) (As := As) (rest := rest) E.1 (hM H.size) (va_cwS na E.1.2.2.2.2 hg hw rfl rfl hd (by rw [eR]; exact hR))
    ⟨jP_blind, fun U hU hW => ⟨rfl, by rw [hU], by rw [hU]; exact j_cutP hP, va_K.moved hW.alike E.2.1, (j_cutD hD).weaken (fun _ _ _ _ => trivial), jN_warm hW E.2.2.2.1⟩⟩ rfl hn hl.1 hst (lv_room hcat) d (by rw [eR]; exact hf)
  exact j_back E hrun hl hP hD hS kk
theorem j_callSN (E : jE G cc own Ts nL ret rm Rt) {y : MethodName} {ws ws' : List Cond} {rm' : Room} {bytes : ByteArray} {maxL : Nat} {ret' : Option FieldType} {host : String} {i na : Nat} {Rt' : jRt} (As rest : List Value)
    (hM : jCt (gL G) y ws rm' (gD G) (gY G) As Z I L Rt') (hg : GoodIn Ts ws) (hw : ws = Cond.code y bytes maxL ret' :: ws')
    (hlk : Cond.methodLinkNest own i y host ∈ jnest) (hini : Cond.initialized y.cls ∈ Ts) (hstat : Cond.static y ∈ Ts)
    (hd : y.cls ≠ "java/lang/invoke/MethodHandle" ∧ y.cls ≠ "java/lang/invoke/VarHandle" ∧ (parseMethodDescriptor y.desc).map (fun d => d.parameters.length) = some na)
    (hR : rm'.frames + 1 ≤ rm.frames ∧ 8 + (maxL + 11) + rm'.locals ≤ rm.locals) (hn : As.length = na) (hst : st = As.reverse ++ rest) (hcat : (rest.map fun v => v.category).sum ≤ 8)
    (hf : k + rm'.cells ≤ rm.cells ∧ n + rm'.slots ≤ rm.slots) (d : decode cc pc = .ok (.invokestatic i, 3))
    (kk : ∀ v Z' I' L', Rt' v Z' I' L' → jJ G nL (pc + 3) lv (v.toList ++ rest) Z' I' L' (k + rm'.cells) (n + rm'.slots)) : jJ G nL pc lv st Z I L k n := by
  intro H locs ls hl hP hD hS
  have eR := E.2.2.2.2.2.2.1
  have hrun := va_runSN (p := gP G) (l := gL G) (e := gE G) (R := gR G) (s := gS G) (m := gM G) (args := gV G) (below := gB G) (meth := gH G) (c := gC G) (H := H) (locs := locs) (cells := k) (slots := n) (g := F0 (gM G) pc ls st) (As := As) (rest := rest) E.1 (hM H.size) ⟨va_cnB na E.1.2.2.2.2 hg hw rfl rfl (E.2.2.2.1.1 _ hlk) (E.1.2.2.2.2 _ hini) hd (by rw [eR]; exact hR), E.1.2.2.2.2 _ hstat, trivial⟩
    ⟨jP_blind, fun U hU hW => ⟨rfl, by rw [hU], by rw [hU]; exact j_cutP hP, va_K.moved hW.alike E.2.1, (j_cutD hD).weaken (fun _ _ _ _ => trivial), jN_warm hW E.2.2.2.1⟩⟩ rfl hn hl.1 hst (lv_room hcat) d (by rw [eR]; exact hf)
  exact j_back E hrun hl hP hD hS kk
/-- Math.max, Math.min of ints -/
theorem j_max (E : jE G cc own Ts nL ret rm Rt) {i : Nat} {x y : Int32} (w1 : Cond.methodLink own i Lib.Math.max.name ∈ Ts) (w2 : Cond.static Lib.Math.max.name ∈ Ts) (w3 : Cond.initialized "java/lang/Math" ∈ Ts) (w4 : Cond.code Lib.Math.max.name Lib.Math.max.code 2 (some .int) ∈ Ts) (h1 : 1 ≤ rm.frames) (h2 : (st.map fun v => v.category).sum + 13 ≤ rm.locals) (h3 : k ≤ rm.cells) (h4 : n ≤ rm.slots) (d : decode cc pc = .ok (.invokestatic i, 3)) (kk : jJ G nL (pc + 3) lv (.int (if x < y then y else x) :: st) Z I L k n) : jJ G nL pc lv (.int y :: .int x :: st) Z I L k n := by
  intro H locs ls hl hP hD hS
  have eR := E.2.2.2.2.2.2.1
  exact va_mmax E.1.1 E.1.2.1 (by rw [E.1.2.2.1]; exact hl.1.symm) E.1.2.2.2.1 (E.1.2.2.2.2 _ w1) (E.1.2.2.2.2 _ w2) (E.1.2.2.2.2 _ w3) (E.1.2.2.2.2 _ w4) (by rw [eR]; exact h1) (by rw [eR]; exact h2) (by rw [eR]; exact h3) (by rw [eR]; exact h4) d (kk H locs ls hl hP hD hS)
theorem j_min (E : jE G cc own Ts nL ret rm Rt) {i : Nat} {x y : Int32} (w1 : Cond.methodLink own i Lib.Math.min.name ∈ Ts) (w2 : Cond.static Lib.Math.min.name ∈ Ts) (w3 : Cond.initialized "java/lang/Math" ∈ Ts) (w4 : Cond.code Lib.Math.min.name Lib.Math.min.code 2 (some .int) ∈ Ts) (h1 : 1 ≤ rm.frames) (h2 : (st.map fun v => v.category).sum + 13 ≤ rm.locals) (h3 : k ≤ rm.cells) (h4 : n ≤ rm.slots) (d : decode cc pc = .ok (.invokestatic i, 3)) (kk : jJ G nL (pc + 3) lv (.int (if y < x then y else x) :: st) Z I L k n) : jJ G nL pc lv (.int y :: .int x :: st) Z I L k n := by
  intro H locs ls hl hP hD hS
  have eR := E.2.2.2.2.2.2.1
  exact va_mmin E.1.1 E.1.2.1 (by rw [E.1.2.2.1]; exact hl.1.symm) E.1.2.2.2.1 (E.1.2.2.2.2 _ w1) (E.1.2.2.2.2 _ w2) (E.1.2.2.2.2 _ w3) (E.1.2.2.2.2 _ w4) (by rw [eR]; exact h1) (by rw [eR]; exact h2) (by rw [eR]; exact h3) (by rw [eR]; exact h4) d (kk H locs ls hl hP hD hS)
/-- a contract, from the walk of the body -/
theorem jCt_of {l : Launch} {y : MethodName} {ws ws' : List Cond} {rm : Room} {D : va_G} {cy : jC} {as : List Value} {Rt : jRt} {cc : ByteArray} {maxL : Nat} {ret : Option FieldType} (hy : plainName y.cls = true) (hw : ws = Cond.code y cc maxL ret :: ws') (hlen : (lg_sl as).length ≤ maxL)
    (h : ∀ G : jG, gD G = D → gY G = cy → gL G = l → jE G cc y.cls ws maxL ret rm Rt → jJ G maxL 0 (lv_args 0 as) [] Z I L 0 0) : jCt l y ws rm D cy as Z I L Rt := by
  intro sz
  refine Met.ofW (cc := cc) (maxL := maxL) (ret := ret) hy hw ?_
  intro p e s m args below meth c s₁ B hml hv
  obtain ⟨rfl, hsz, hP, hK, hD0, hN⟩ := hv
  subst hsz
  have hD := hD0.self (sz := s.heap.size)
  have hown : s.vm.findClass y.cls = some m.cls := findClass_of_methodNamed B.named
  have hl := lv_entry as (n := maxL) hlen
  rw [lg_entry_eq]
  generalize (lg_sl as ++ List.replicate (maxL - (lg_sl as).length) Slot.unset).toArray = ls at hl ⊢
  have key := h ((p, l, e, (headSpec ws rm).room, s, m, as.toArray, below, meth, c), D, cy, [], va_A (jw cy Z I L) s.heap.size, MQ below (jQ D cy Rt (va_A (jw cy Z I L) s.heap.size)) as.toArray s rm.cells rm.slots (va_A (jw cy Z I L) s.heap.size)) rfl rfl rfl
    ⟨⟨B.exec, B.bytes, hml, hown, atoms_spec (ws := ws) B.pre⟩, hK, fun q h => Or.inr h, hN, B.returns, B.notSynchronized, rfl, fun _ h => h⟩
  exact key s.heap [] ls hl hP hD va_S.rf
end JROWS
