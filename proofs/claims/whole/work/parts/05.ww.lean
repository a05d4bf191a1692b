/-! ===== the nest's links, the texts ===== -/
def NSF : List (String × Nat × String × String × String × String) := [
  ("CourtVans$Loads", 51, "CourtVans$Table", "count", "I", "CourtVans"),
  ("CourtVans$Doors", 25, "CourtVans$Table", "count", "I", "CourtVans"),
  ("CourtVans$Fines", 51, "CourtVans$Table", "count", "I", "CourtVans"),
  ("CourtVans$Reader", 43, "CourtVans$Table", "count", "I", "CourtVans"),
  ("CourtVans$Trip", 86, "CourtVans$Table", "count", "I", "CourtVans"),
  ("CourtVans$Night", 86, "CourtVans$Table", "count", "I", "CourtVans"),
  ("CourtVans$World", 91, "CourtVans$Table", "count", "I", "CourtVans"),
  ("CourtVans", 229, "CourtVans$Table", "count", "I", "CourtVans"),
  ("CourtVans$Cells", 34, "CourtVans$World", "places", "LCourtVans$Table;", "CourtVans"),
  ("CourtVans$Trip", 71, "CourtVans$World", "places", "LCourtVans$Table;", "CourtVans"),
  ("CourtVans$Night", 61, "CourtVans$World", "places", "LCourtVans$Table;", "CourtVans"),
  ("CourtVans", 103, "CourtVans$World", "places", "LCourtVans$Table;", "CourtVans"),
  ("CourtVans$Doors", 49, "CourtVans$World", "places", "LCourtVans$Table;", "CourtVans"),
  ("CourtVans$Fines", 25, "CourtVans$World", "persons", "LCourtVans$Table;", "CourtVans"),
  ("CourtVans$Trip", 83, "CourtVans$World", "persons", "LCourtVans$Table;", "CourtVans"),
  ("CourtVans$Night", 83, "CourtVans$World", "persons", "LCourtVans$Table;", "CourtVans"),
  ("CourtVans$Doors", 43, "CourtVans$World", "persons", "LCourtVans$Table;", "CourtVans"),
  ("CourtVans", 140, "CourtVans$World", "persons", "LCourtVans$Table;", "CourtVans"),
  ("CourtVans$Host", 67, "CourtVans$World", "persons", "LCourtVans$Table;", "CourtVans"),
  ("CourtVans$Loads", 149, "CourtVans$World", "persons", "LCourtVans$Table;", "CourtVans"),
  ("CourtVans$Loads", 46, "CourtVans$World", "vans", "LCourtVans$Table;", "CourtVans"),
  ("CourtVans$Trip", 59, "CourtVans$World", "vans", "LCourtVans$Table;", "CourtVans"),
  ("CourtVans$Host", 87, "CourtVans$World", "vans", "LCourtVans$Table;", "CourtVans"),
  ("CourtVans", 172, "CourtVans$World", "vans", "LCourtVans$Table;", "CourtVans"),
  ("CourtVans$Fines", 48, "CourtVans$World", "delays", "LCourtVans$Table;", "CourtVans"),
  ("CourtVans$Trip", 113, "CourtVans$World", "delays", "LCourtVans$Table;", "CourtVans"),
  ("CourtVans", 178, "CourtVans$World", "delays", "LCourtVans$Table;", "CourtVans"),
  ("CourtVans$Doors", 19, "CourtVans$World", "entries", "LCourtVans$Table;", "CourtVans"),
  ("CourtVans", 253, "CourtVans$World", "entries", "LCourtVans$Table;", "CourtVans"),
  ("CourtVans$Host", 90, "CourtVans$World", "things", "LCourtVans$Table;", "CourtVans"),
  ("CourtVans", 304, "CourtVans$World", "things", "LCourtVans$Table;", "CourtVans"),
  ("CourtVans$Fines", 58, "CourtVans$World", "lines", "LCourtVans$Table;", "CourtVans"),
  ("CourtVans", 275, "CourtVans$World", "lines", "LCourtVans$Table;", "CourtVans"),
  ("CourtVans", 122, "CourtVans$World", "traffic", "[I", "CourtVans"),
  ("CourtVans", 143, "CourtVans$World", "apart", "[I", "CourtVans"),
  ("CourtVans", 153, "CourtVans$World", "bars", "[I", "CourtVans"),
  ("CourtVans", 159, "CourtVans$World", "wired", "I", "CourtVans"),
  ("CourtVans", 98, "CourtVans$World", "now", "I", "CourtVans"),
  ("CourtVans$Night", 87, "CourtVans$World", "now", "I", "CourtVans"),
  ("CourtVans", 197, "CourtVans$Trip", "bestOrder", "[I", "CourtVans"),
  ("CourtVans", 194, "CourtVans$Trip", "stops", "I", "CourtVans"),
  ("CourtVans$Loads", 92, "CourtVans$Trip", "late", "I", "CourtVans"),
  ("CourtVans", 187, "CourtVans$Trip", "late", "I", "CourtVans"),
  ("CourtVans$Loads", 119, "CourtVans$Band", "who", "[I", "CourtVans"),
  ("CourtVans$Cells", 70, "CourtVans$Band", "foes", "[I", "CourtVans"),
  ("CourtVans$Cells", 61, "CourtVans$Band", "count", "I", "CourtVans"),
  ("CourtVans$Loads", 97, "CourtVans$Band", "count", "I", "CourtVans"),
  ("CourtVans", 366, "CourtVans$Reader", "count", "I", "CourtVans"),
  ("CourtVans", 278, "CourtVans$Reader", "lines", "LCourtVans$Table;", "CourtVans"),
  ("CourtVans", 286, "CourtVans$Fines", "parts", "[I", "CourtVans"),
  ("CourtVans", 326, "CourtVans$Host", "sorts", "[I", "CourtVans"),
  ("CourtVans", 363, "CourtVans$Host", "trace", "[I", "CourtVans"),
  ("CourtVans", 357, "CourtVans$Host", "ran", "I", "CourtVans")]
def NSM : List (String × Nat × MethodName × String) := [
  ("CourtVans$World", 76, ⟨"CourtVans", "bit", "(II)I"⟩, "CourtVans"),
  ("CourtVans$World", 80, ⟨"CourtVans", "withBit", "(IIZ)I"⟩, "CourtVans"),
  ("CourtVans$World", 87, ⟨"CourtVans", "isWithin", "(III)Z"⟩, "CourtVans"),
  ("CourtVans$Trip", 89, ⟨"CourtVans", "bit", "(II)I"⟩, "CourtVans"),
  ("CourtVans$Trip", 109, ⟨"CourtVans", "withBit", "(IIZ)I"⟩, "CourtVans"),
  ("CourtVans$Band", 28, ⟨"CourtVans", "bit", "(II)I"⟩, "CourtVans"),
  ("CourtVans$Band", 38, ⟨"CourtVans", "withBit", "(IIZ)I"⟩, "CourtVans"),
  ("CourtVans$Loads", 106, ⟨"CourtVans", "copy", "([I[I)V"⟩, "CourtVans"),
  ("CourtVans$Loads", 116, ⟨"CourtVans", "bit", "(II)I"⟩, "CourtVans"),
  ("CourtVans$Loads", 171, ⟨"CourtVans", "withBit", "(IIZ)I"⟩, "CourtVans"),
  ("CourtVans$Cells", 79, ⟨"CourtVans", "bit", "(II)I"⟩, "CourtVans"),
  ("CourtVans$Table", 38, ⟨"CourtVans", "copy", "([I[I)V"⟩, "CourtVans"),
  ("CourtVans$Fines", 64, ⟨"CourtVans", "bit", "(II)I"⟩, "CourtVans"),
  ("CourtVans$Night", 45, ⟨"CourtVans", "bit", "(II)I"⟩, "CourtVans"),
  ("CourtVans$Night", 79, ⟨"CourtVans", "isWithin", "(III)Z"⟩, "CourtVans"),
  ("CourtVans$Night", 102, ⟨"CourtVans", "copy", "([I[I)V"⟩, "CourtVans"),
  ("CourtVans$Host", 57, ⟨"CourtVans", "isWithin", "(III)Z"⟩, "CourtVans"),
  ("CourtVans$World", 68, ⟨"CourtVans", "copy", "([I[I)V"⟩, "CourtVans")]
def jsI : List Nat := [92, 94, 96, 98, 100, 102, 104, 106, 108, 110, 112, 114, 116]
def jsS : List String := ["van", "jail", "road", "court", "none", "by", "over", "pays", "each", "free", "most", "or", ""]
def lenJS : List Nat := [3, 4, 4, 5, 4, 2, 4, 4, 4, 4, 4, 2, 0]
def bytJS : List (List Int32) := [[118, 97, 110], [106, 97, 105, 108], [114, 111, 97, 100], [99, 111, 117, 114, 116], [110, 111, 110, 101], [98, 121], [111, 118, 101, 114], [112, 97, 121, 115], [101, 97, 99, 104], [102, 114, 101, 101], [109, 111, 115, 116], [111, 114], []]
def NW (U : State) : Prop := (∀ q ∈ NSF, va_Nw (.fieldLinkNest q.1 q.2.1 q.2.2.1 q.2.2.2.1 q.2.2.2.2.1 q.2.2.2.2.2) U) ∧ ∀ q ∈ NSM, va_Nw (.methodLinkNest q.1 q.2.1 q.2.2.1 q.2.2.2) U
theorem NW.warm {s U : State} (hW : s.WarmedH U.vm) (h : NW s) : NW U := ⟨fun q hq => va_Nw.warmF hW (h.1 q hq), fun q hq => va_Nw.warmM hW (h.2 q hq)⟩
theorem NW.same {s U : State} (hv : s.vm = U.vm) (h : NW s) : NW U := ⟨fun q hq => va_Nw.same rfl hv (h.1 q hq), fun q hq => va_Nw.same rfl hv (h.2 q hq)⟩
/-- the formatter that the library's index check is handed: a reference or null, nobody asks which -/
def cvFm (sd : Nat → Nat) : Value := if sd 31 = 0 then .null else .ref (sd 30)
theorem cvFm_cat (sd : Nat → Nat) : (cvFm sd).category = 1 := by
  unfold cvFm
  split <;> rfl
def SX (sd sv : Nat → Nat) (A : Nat → Prop) (U : State) : Prop := vk_S 13 lenJS bytJS sd sv A U U.heap ∧ (∀ i, i < 13 → vk_R RX7 (jsI.getD i 0) (jsS.getD i "") (sd i) U) ∧ va_Z "java/lang/String" "COMPACT_STRINGS" "Z" (.int 1) A U U.heap ∧ va_Z "jdk/internal/util/Preconditions" "SIOOBE_FORMATTER" "Ljava/util/function/BiFunction;" (cvFm sd) A U U.heap ∧ ∀ i, i < 13 → sd (14 + i) = sv i
theorem SX.warm {sd sv : Nat → Nat} {A : Nat → Prop} {s U : State} (hW : s.WarmedH U.vm) (hS : ∀ a : Nat, a < s.heap.size → ¬ A a → U.heap[a]? = s.heap[a]?) (h : SX sd sv A s) : SX sd sv A U :=
  ⟨(vk_S.moved hW.alike h.1).kept hS, fun i hi => (h.2.1 i hi).warm hW, (va_Z.moved hW.alike h.2.2.1).kept hS, (va_Z.moved hW.alike h.2.2.2.1).kept hS, h.2.2.2.2⟩
def BIG : List Cond := lw_tbl.filter goodWord
theorem big_of {w : Cond} (h : w ∈ lw_tbl) (hg : goodWord w = true) : w ∈ BIG := List.mem_filter.mpr ⟨h, hg⟩
theorem big_good {w : Cond} (h : w ∈ BIG) : (w.onTables && w.keeps) = true ∨ ∃ ty, w = .arrayClass ty := good_of_word (List.mem_filter.mp h).2
theorem big_in {y : MethodName} {b : ByteArray} {n : Nat} {r : Option FieldType} (h : Cond.code y b n r ∈ BIG) : GoodIn BIG (.code y b n r :: BIG) := fun w hw => (List.mem_cons.mp hw).elim (fun e => e ▸ ⟨h, big_good h⟩) (fun hw => ⟨hw, big_good hw⟩)
/-! values by kinds: 0 int, 1 object of the graph, 2 long, 3 text, 4 the formatter -/
def conc (ad sd : Nat → Nat) (κ : Nat) (v : Int) : Value := match κ with
  | 0 => .int (Int32.ofInt v)
  | 1 => .ref (ad v.toNat)
  | 2 => .long (Int64.ofInt v)
  | 4 => cvFm sd
  | _ => .ref (sd v.toNat)
def okv (κ : Nat) (v : Int) : Prop := match κ with
  | 0 => InR v
  | 1 => 0 ≤ v
  | 2 => InL v
  | _ => 0 ≤ v
def kcat (κ : Nat) : Nat := if κ = 2 then 2 else 1
theorem conc_cat (ad sd : Nat → Nat) (κ : Nat) (v : Int) : (conc ad sd κ v).category = kcat κ := by
  unfold conc kcat
  split
  · rfl
  · rfl
  · rfl
  · exact cvFm_cat sd
  · rename_i h0 h1 h2 h4
    rw [if_neg h2]; rfl
def concs (ad sd : Nat → Nat) : List Nat → List Int → List Value
  | κ :: ks, v :: vs => conc ad sd κ v :: concs ad sd ks vs
  | _, _ => []
def okvs : List Nat → List Int → Prop
  | κ :: ks, v :: vs => okv κ v ∧ okvs ks vs
  | [], [] => True
  | _, _ => False
/-! the graph in the heap -/
def slotV (ad : Nat → Nat) (x : Int) (o : Option Int) : Value := match o with
  | some r => .ref (ad r.toNat)
  | none => .int (Int32.ofInt x)
def cellE (cA : ClassId) (ad : Nat → Nat) (f : Int → Int) (q : cvL) : va_E := match q with
  | .inl (c, fs) => .inr (c, fs.mapIdx fun j o => slotV ad (f j) o)
  | .inr n => .inl (cA, n, .inl fun j => Int32.ofInt (f j))
def wld (cA : ClassId) (ad : Nat → Nat) (σ : cvM) : va_W := LAY.mapIdx fun k q => (ad k, cellE cA ad (σ k) q)
theorem wld_at {cA : ClassId} {ad : Nat → Nat} {σ : cvM} {k : Nat} {q : cvL} (h : LAY[k]? = some q) : (wld cA ad σ)[k]? = some (ad k, cellE cA ad (σ k) q) := by
  unfold wld
  rw [List.getElem?_mapIdx, h]
  rfl
theorem lay_nat {k : Int} {q : cvL} (h : layAt k = some q) : ∃ n : Nat, k = n ∧ LAY[n]? = some q := by
  unfold layAt at h
  split at h
  · cases h
  · rename_i hk
    exact ⟨k.toNat, by omega, h⟩
def Ap (A : Nat → Prop) (ad : Nat → Nat) : Prop := (∀ i j, i < LAY.length → j < LAY.length → ad i = ad j → i = j) ∧ ∀ k, k < LAY.length → A (ad k)
theorem Ap.D {A : Nat → Prop} {ad : Nat → Nat} (h : Ap A ad) (cA : ClassId) (σ : cvM) : va_D A (wld cA ad σ) := by
  have key : ∀ (k : Nat) (q : Nat × va_E), (wld cA ad σ)[k]? = some q → k < LAY.length ∧ q.1 = ad k := by
    intro k q hq
    unfold wld at hq
    rw [List.getElem?_mapIdx] at hq
    cases hl : LAY[k]? with
    | none => rw [hl] at hq; cases hq
    | some x => rw [hl] at hq; cases hq; exact ⟨(List.getElem?_eq_some_iff.mp hl).1, rfl⟩
  refine ⟨fun i j p q hi hj e => ?_, fun k q hk => ?_⟩
  · obtain ⟨h1, e1⟩ := key i p hi
    obtain ⟨h2, e2⟩ := key j q hj
    exact h.1 i j h1 h2 (by rw [← e1, ← e2]; exact e)
  · obtain ⟨h1, e1⟩ := key k q hk
    rw [e1]; exact h.2 k h1
def Hd (D : va_G) (cA : ClassId) (ad sd sv : Nat → Nat) (A : Nat → Prop) (σ : cvM) (U : State) : Prop :=
  va_P D classes (wld cA ad σ) U.heap ∧ va_K D classes [(cA, .int)] U ∧ (∀ k i, InR (σ k i)) ∧ NW U ∧ SX sd sv A U
abbrev cvT : Type := Program × Launch × Jvm.Env × Room × State × MethodId × Array Value × List Frame × Method × Code × va_G × ClassId × (Nat → Nat) × (Nat → Nat) × (Nat → Nat) × (Nat → Prop) × Nat × Nat × (State → Prop)
/-- one method's frame: its bytes, locals' number, class, kinds of its slots, frames and locals' words that its calls may take, its answer, what else it knows -/
abbrev cvI : Type := ByteArray × Nat × String × List Nat × Nat × Nat × Option FieldType × (cvT → Prop)
def LR (ad sd : Nat → Nat) (nL : Nat) (kds : List Nat) (E : cvE) (ls : Array Slot) : Prop := ls.size = nL ∧ lv_wf ls ∧ ∀ (k : Nat) (v : Int), E.getD k none = some v → ls[k]? = some (.val (conc ad sd (kds.getD k 0) v)) ∧ okv (kds.getD k 0) v
def WW (X : cvT) (M : cvI) (pc : Nat) (st : List Value) (E : cvE) (σ : cvM) : Prop := match X with
  | (p, l, e, R, s, m, args, below, meth, c, D, cA, ad, sd, _, A, cells, slots, Q) =>
    ∀ (H : Heap) (ls : Array Slot) (locs : List Loc), va_P D classes (wld cA ad σ) H → (∀ k i, InR (σ k i)) → LR ad sd M.2.1 M.2.2.2.1 E ls → va_S A s.heap H locs → W p l e R s m args below meth c H locs cells slots Q (F0 m pc ls st)
def Cx (X : cvT) (M : cvI) : Prop := match X with
  | (p, l, e, R, s, m, args, below, meth, c, D, cA, ad, sd, sv, A, cells, slots, Q) =>
    p.tables.exec = Jvm.exec ∧ c.code = M.1 ∧ c.maxLocals = M.2.1 ∧ s.vm.findClass M.2.2.1 = some m.cls ∧ (∀ w ∈ BIG, w.before args s = true) ∧ va_K D classes [(cA, .int)] s ∧ Ap A ad ∧ NW s ∧ SX sd sv A s ∧ M.2.2.2.2.1 ≤ R.frames ∧ M.2.2.2.2.2.1 ≤ R.locals ∧ cells ≤ R.cells ∧ slots ≤ R.slots ∧ meth.locks = false ∧ meth.sig.returnType = M.2.2.2.2.2.2.1 ∧ M.2.2.2.2.2.2.2 (p, l, e, R, s, m, args, below, meth, c, D, cA, ad, sd, sv, A, cells, slots, Q)
def xad (X : cvT) : Nat → Nat := X.2.2.2.2.2.2.2.2.2.2.2.2.1
def xsd (X : cvT) : Nat → Nat := X.2.2.2.2.2.2.2.2.2.2.2.2.2.1
