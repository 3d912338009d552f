def ftab : List (List Nat) := [[0, 0, 0, 0, 0, 0, 0], [0, 0, 0, 2, 0, 2], [0, 2], [2, 0, 0], [0, 0, 0, 0, 0, 0, 2, 0, 2], [2, 2, 2, 0, 0, 0, 0, 2, 2, 0, 0, 0, 2, 2], [2, 0, 0], [0, 0, 2, 0, 0, 2, 2, 2, 2, 2, 1, 2, 0, 2], [2, 2, 0], [2, 2, 2, 0, 0, 0, 0], [0, 2, 2, 2, 2, 2, 2, 2, 2, 2, 2, 2, 2, 2, 2, 2, 2, 2, 2, 2, 2, 2, 2, 2, 0, 2, 2, 0, 0, 0, 0, 0, 2, 2, 2, 2, 2, 2, 2, 2, 0, 0, 0, 2, 2, 2, 2, 0, 2, 0, 0, 0]]
abbrev tyL (cy : Nat → ClassId) : List (ClassId × FieldType) := [(cy 11, .int), (cy 12, .long), (cy 13, .boolean), (cy 14, .object "RaftRegistry$Entry"), (cy 15, .object "RaftRegistry$Message"), (cy 16, .object "RaftRegistry$Node")]
def NW : List Cond := [(Jvm.Cond.methodLinkNest "RaftRegistry" (11 : Nat) ({ cls := "RaftRegistry$Mail", name := "<init>", desc := "()V" } : Jvm.MethodName) "RaftRegistry"), (Jvm.Cond.methodLinkNest "RaftRegistry" (14 : Nat) ({ cls := "RaftRegistry$Witness", name := "<init>", desc := "()V" } : Jvm.MethodName) "RaftRegistry"), (Jvm.Cond.methodLinkNest "RaftRegistry" (19 : Nat) ({ cls := "RaftRegistry$Store", name := "<init>", desc := "()V" } : Jvm.MethodName) "RaftRegistry"), (Jvm.Cond.methodLinkNest "RaftRegistry$Node" (11 : Nat) ({ cls := "RaftRegistry$Store", name := "<init>", desc := "()V" } : Jvm.MethodName) "RaftRegistry"), (Jvm.Cond.methodLinkNest "RaftRegistry$Node" (91 : Nat) ({ cls := "RaftRegistry", name := "isNode", desc := "(I)Z" } : Jvm.MethodName) "RaftRegistry"), (Jvm.Cond.methodLinkNest "RaftRegistry$Store" (142 : Nat) ({ cls := "RaftRegistry", name := "isLease", desc := "(I)Z" } : Jvm.MethodName) "RaftRegistry"), (Jvm.Cond.methodLinkNest "RaftRegistry$Store" (151 : Nat) ({ cls := "RaftRegistry", name := "isKey", desc := "(I)Z" } : Jvm.MethodName) "RaftRegistry"), (Jvm.Cond.methodLinkNest "RaftRegistry$Command" (33 : Nat) ({ cls := "RaftRegistry", name := "isKey", desc := "(I)Z" } : Jvm.MethodName) "RaftRegistry"), (Jvm.Cond.methodLinkNest "RaftRegistry$Command" (37 : Nat) ({ cls := "RaftRegistry", name := "isLease", desc := "(I)Z" } : Jvm.MethodName) "RaftRegistry")]
theorem NW_form : ∀ w ∈ NW, ∃ (a : String) (i : Nat) (x : MethodName) (b : String), w = Cond.methodLinkNest a i x b := by
  intro w hw
  simp only [NW, List.mem_cons, List.not_mem_nil, or_false] at hw
  rcases hw with rfl | rfl | rfl | rfl | rfl | rfl | rfl | rfl | rfl <;> exact ⟨_, _, _, _, rfl⟩
def GW : List Cond := lw_tbl.filter goodWord
theorem gw_in {w : Cond} (h : w ∈ lw_tbl) (hg : goodWord w = true) : w ∈ GW := List.mem_filter.mpr ⟨h, hg⟩
theorem gw_t {w : Cond} (h : w ∈ tables_1) (hg : goodWord w = true) : w ∈ GW := gw_in (List.mem_append_right _ h) hg
theorem gw_good : ∀ w ∈ GW, (w.onTables && w.keeps) = true ∨ ∃ ty, w = .arrayClass ty := fun w h => good_of_word (List.mem_filter.mp h).2
theorem gw_sub {y1 : Cond} {y2 : Cond} (h : y2 ∈ GW) : GoodIn (y1 :: GW) (y2 :: GW) := fun w hw => by
  rcases List.mem_cons.mp hw with rfl | hw
  · exact ⟨List.mem_cons_of_mem _ h, gw_good _ h⟩
  · exact ⟨List.mem_cons_of_mem _ hw, gw_good _ hw⟩
theorem gw_self {y2 : Cond} (h : y2 ∈ GW) : GoodIn GW (y2 :: GW) := fun w hw => by
  rcases List.mem_cons.mp hw with rfl | hw
  · exact ⟨h, gw_good _ h⟩
  · exact ⟨hw, gw_good _ hw⟩
/-- of field j of class ci: 0 an int or boolean, 1 a long, 2 a reference -/
def nf (ci : Nat) : Nat := (ftab.getD ci []).length
def fk (ci j : Nat) : Nat := (ftab.getD ci []).getD j 0
/-- the class ci stands in the tables by C, T, N -/
def CK (ci : Nat) (C : String) (T : u_T) (N : Nat) (ty : Nat → FieldType) : Prop := vwCl[ci]? = some (C, T, N) ∧ (∀ w ∈ u_ws C T N, w ∈ GW) ∧ (∀ k, k < N → parseFieldDescriptor (T k).2.2.1 = some (ty k)) ∧ (∀ a, a < N → ∀ b, b < N → a ≠ b → (T a).2.1 ≠ (T b).2.1) ∧ nf ci = N ∧ ci < 11 ∧ Cond.instantiable C N ∈ GW ∧ Cond.initialized C ∈ GW ∧ (∀ j, j < N → defaultValue (ty j) = match fk ci j with | 0 => Value.int 0 | 1 => Value.long 0 | _ => Value.null)
/-- the words of a method that is called by its name -/
def MK (y : MethodName) (bytes : ByteArray) (maxL : Nat) (ret : Option FieldType) (n : Nat) : Prop :=
  Cond.code y bytes maxL ret ∈ GW ∧ Cond.initialized y.cls ∈ GW ∧ (y.cls ≠ "java/lang/invoke/MethodHandle" ∧ y.cls ≠ "java/lang/invoke/VarHandle" ∧ (parseMethodDescriptor y.desc).map (fun d => d.parameters.length) = some n)
theorem gsub {ws : List Cond} (ps : List Nat) (hp : ws = ps.filterMap (fun i => tables_1[i]?)) (hg : ws.all goodWord = true) : ∀ w ∈ ws, w ∈ GW := by
  intro w hw
  refine gw_t ?_ (List.all_eq_true.mp hg w hw)
  rw [hp] at hw
  obtain ⟨i, -, hi⟩ := List.mem_filterMap.mp hw
  exact List.mem_of_getElem? hi

