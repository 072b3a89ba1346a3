/-! the words, the classes, the types of arrays that this claim speaks of -/
abbrev aw_J : Type := Nat → Option va_E
/-- launch, places of classes and slots, array classes, the constants of State, the script: its address, length, ints -/
abbrev aw_G : Type := Launch × va_G × (Nat → ClassId) × (Nat → Nat) × Nat × Nat × (Nat → Int32)
def aw_nw : Cond → Bool
  | .fieldLinkNest .. => true
  | .methodLinkNest .. => true
  | .declares .. => true
  | .castable .. => true
  | _ => false
def aw_TB : List Cond := lw_tbl.filter goodWord
def aw_NB : List Cond := lw_tbl.filter aw_nw
theorem aw_TB_good : ∀ w ∈ aw_TB, (w.onTables && w.keeps) = true ∨ ∃ ty, w = .arrayClass ty := fun w hw => good_of_word (List.mem_filter.mp hw).2
theorem aw_NB_nw : ∀ w ∈ aw_NB, aw_nw w = true := fun w hw => (List.mem_filter.mp hw).2
theorem aw_tb {w : Cond} (h : w ∈ lw_tbl) (hg : goodWord w = true) : w ∈ aw_TB := List.mem_filter.mpr ⟨h, hg⟩
theorem aw_nb {w : Cond} (h : w ∈ lw_tbl) (hg : aw_nw w = true) : w ∈ aw_NB := List.mem_filter.mpr ⟨h, hg⟩
def tn_A : u_T := fun k => match k with
  | 0 => ("ScopeTree$Archive", "files", "[LScopeTree$ClassFile;", true)
  | 1 => ("ScopeTree$Archive", "fileCount", "I", false)
  | 2 => ("ScopeTree$Archive", "descriptors", "[LScopeTree$Descriptor;", true)
  | _ => ("ScopeTree$Archive", "descriptorCount", "I", false)
def ty_A : Nat → FieldType := fun k => match k with
  | 0 => .array (.object "ScopeTree$ClassFile")
  | 1 => .int
  | 2 => .array (.object "ScopeTree$Descriptor")
  | _ => .int
def tn_C : u_T := fun k => match k with
  | 0 => ("ScopeTree$ClassFile", "name", "I", true)
  | 1 => ("ScopeTree$ClassFile", "superName", "I", true)
  | _ => ("ScopeTree$ClassFile", "version", "I", true)
def ty_C : Nat → FieldType := fun k => match k with
  | 0 => .int
  | 1 => .int
  | _ => .int
def tn_D : u_T := fun k => match k with
  | 0 => ("ScopeTree$Descriptor", "plugin", "I", true)
  | _ => ("ScopeTree$Descriptor", "name", "I", true)
def ty_D : Nat → FieldType := fun k => match k with
  | 0 => .int
  | _ => .int
def tn_F : u_T := fun k => match k with
  | 0 => ("ScopeTree$Filter", "packages", "I", true)
  | 1 => ("ScopeTree$Filter", "allowed", "J", true)
  | _ => ("ScopeTree$Filter", "denied", "J", true)
def ty_F : Nat → FieldType := fun k => match k with
  | 0 => .int
  | 1 => .long
  | _ => .long
def tn_L : u_T := fun k => match k with
  | 0 => ("ScopeTree$Loader", "number", "I", true)
  | 1 => ("ScopeTree$Loader", "kind", "I", true)
  | 2 => ("ScopeTree$Loader", "parent", "LScopeTree$Loader;", true)
  | 3 => ("ScopeTree$Loader", "contents", "[LScopeTree$Archive;", true)
  | 4 => ("ScopeTree$Loader", "filter", "LScopeTree$Filter;", true)
  | 5 => ("ScopeTree$Loader", "holders", "I", false)
  | 6 => ("ScopeTree$Loader", "definedCount", "I", false)
  | _ => ("ScopeTree$Loader", "isGone", "Z", false)
def ty_L : Nat → FieldType := fun k => match k with
  | 0 => .int
  | 1 => .int
  | 2 => .object "ScopeTree$Loader"
  | 3 => .array (.object "ScopeTree$Archive")
  | 4 => .object "ScopeTree$Filter"
  | 5 => .int
  | 6 => .int
  | _ => .boolean
def tn_P : u_T := fun k => match k with
  | 0 => ("ScopeTree$Path", "archives", "[I", true)
  | _ => ("ScopeTree$Path", "length", "I", false)
def ty_P : Nat → FieldType := fun k => match k with
  | 0 => .array (.int)
  | _ => .int
def tn_S : u_T := fun k => match k with
  | 0 => ("ScopeTree$Scope", "parent", "LScopeTree$Scope;", true)
  | 1 => ("ScopeTree$Scope", "localPath", "LScopeTree$Path;", true)
  | 2 => ("ScopeTree$Scope", "exportPath", "LScopeTree$Path;", true)
  | 3 => ("ScopeTree$Scope", "filter", "LScopeTree$Filter;", false)
  | 4 => ("ScopeTree$Scope", "state", "LScopeTree$State;", false)
  | 5 => ("ScopeTree$Scope", "baseLoader", "LScopeTree$Loader;", false)
  | 6 => ("ScopeTree$Scope", "exportLoader", "LScopeTree$Loader;", false)
  | 7 => ("ScopeTree$Scope", "localLoader", "LScopeTree$Loader;", false)
  | 8 => ("ScopeTree$Scope", "applied", "[LScopeTree$Type;", true)
  | _ => ("ScopeTree$Scope", "appliedCount", "I", false)
def ty_S : Nat → FieldType := fun k => match k with
  | 0 => .object "ScopeTree$Scope"
  | 1 => .object "ScopeTree$Path"
  | 2 => .object "ScopeTree$Path"
  | 3 => .object "ScopeTree$Filter"
  | 4 => .object "ScopeTree$State"
  | 5 => .object "ScopeTree$Loader"
  | 6 => .object "ScopeTree$Loader"
  | 7 => .object "ScopeTree$Loader"
  | 8 => .array (.object "ScopeTree$Type")
  | _ => .int
def tn_Y : u_T := fun k => match k with
  | 0 => ("ScopeTree$Type", "number", "I", true)
  | 1 => ("ScopeTree$Type", "name", "I", true)
  | 2 => ("ScopeTree$Type", "version", "I", true)
  | 3 => ("ScopeTree$Type", "definer", "LScopeTree$Loader;", true)
  | _ => ("ScopeTree$Type", "superType", "LScopeTree$Type;", true)
def ty_Y : Nat → FieldType := fun k => match k with
  | 0 => .int
  | 1 => .int
  | 2 => .int
  | 3 => .object "ScopeTree$Loader"
  | _ => .object "ScopeTree$Type"
def tn_T : u_T := fun k => match k with
  | 0 => ("ScopeTree", "archives", "[LScopeTree$Archive;", true)
  | 1 => ("ScopeTree", "scopes", "[LScopeTree$Scope;", true)
  | 2 => ("ScopeTree", "scopeCount", "I", false)
  | 3 => ("ScopeTree", "loaders", "[LScopeTree$Loader;", true)
  | 4 => ("ScopeTree", "types", "[LScopeTree$Type;", true)
  | 5 => ("ScopeTree", "typeCount", "I", false)
  | 6 => ("ScopeTree", "openLoaders", "[LScopeTree$Loader;", true)
  | _ => ("ScopeTree", "openNames", "[I", true)
def ty_T : Nat → FieldType := fun k => match k with
  | 0 => .array (.object "ScopeTree$Archive")
  | 1 => .array (.object "ScopeTree$Scope")
  | 2 => .int
  | 3 => .array (.object "ScopeTree$Loader")
  | 4 => .array (.object "ScopeTree$Type")
  | 5 => .int
  | 6 => .array (.object "ScopeTree$Loader")
  | _ => .array (.int)
def tn_M : u_T := fun k => match k with
  | 0 => ("ScopeTreeModel", "thrown", "I", false)
  | 1 => ("ScopeTreeModel", "files", "[I", true)
  | 2 => ("ScopeTreeModel", "file", "[I", true)
  | 3 => ("ScopeTreeModel", "descriptors", "[I", true)
  | 4 => ("ScopeTreeModel", "descriptor", "[I", true)
  | 5 => ("ScopeTreeModel", "there", "[Z", true)
  | 6 => ("ScopeTreeModel", "kind", "[I", true)
  | 7 => ("ScopeTreeModel", "parent", "[I", true)
  | 8 => ("ScopeTreeModel", "pathLength", "[I", true)
  | 9 => ("ScopeTreeModel", "filterPackages", "[I", true)
  | 10 => ("ScopeTreeModel", "filterAllowed", "[J", true)
  | 11 => ("ScopeTreeModel", "filterDenied", "[J", true)
  | 12 => ("ScopeTreeModel", "scopes", "I", false)
  | 13 => ("ScopeTreeModel", "state", "[I", true)
  | 14 => ("ScopeTreeModel", "above", "[I", true)
  | 15 => ("ScopeTreeModel", "paths", "[I", true)
  | 16 => ("ScopeTreeModel", "lengths", "[I", true)
  | 17 => ("ScopeTreeModel", "filtered", "[Z", true)
  | 18 => ("ScopeTreeModel", "packages", "[I", true)
  | 19 => ("ScopeTreeModel", "allowed", "[J", true)
  | 20 => ("ScopeTreeModel", "denied", "[J", true)
  | 21 => ("ScopeTreeModel", "three", "[I", true)
  | 22 => ("ScopeTreeModel", "applied", "[I", true)
  | 23 => ("ScopeTreeModel", "appliedCount", "[I", true)
  | 24 => ("ScopeTreeModel", "classes", "I", false)
  | 25 => ("ScopeTreeModel", "nameOf", "[I", true)
  | 26 => ("ScopeTreeModel", "loaderOf", "[I", true)
  | 27 => ("ScopeTreeModel", "versionOf", "[I", true)
  | 28 => ("ScopeTreeModel", "superOf", "[I", true)
  | 29 => ("ScopeTreeModel", "foundLoader", "I", false)
  | 30 => ("ScopeTreeModel", "foundFile", "I", false)
  | 31 => ("ScopeTreeModel", "waitingLoader", "[I", true)
  | _ => ("ScopeTreeModel", "waitingFile", "[I", true)
def ty_M : Nat → FieldType := fun k => match k with
  | 0 => .int
  | 1 => .array (.int)
  | 2 => .array (.int)
  | 3 => .array (.int)
  | 4 => .array (.int)
  | 5 => .array (.boolean)
  | 6 => .array (.int)
  | 7 => .array (.int)
  | 8 => .array (.int)
  | 9 => .array (.int)
  | 10 => .array (.long)
  | 11 => .array (.long)
  | 12 => .int
  | 13 => .array (.int)
  | 14 => .array (.int)
  | 15 => .array (.int)
  | 16 => .array (.int)
  | 17 => .array (.boolean)
  | 18 => .array (.int)
  | 19 => .array (.long)
  | 20 => .array (.long)
  | 21 => .array (.int)
  | 22 => .array (.int)
  | 23 => .array (.int)
  | 24 => .int
  | 25 => .array (.int)
  | 26 => .array (.int)
  | 27 => .array (.int)
  | 28 => .array (.int)
  | 29 => .int
  | 30 => .int
  | 31 => .array (.int)
  | _ => .array (.int)
def aw_cl : List vw_C := [("ScopeTree$Archive", tn_A, 4), ("ScopeTree$ClassFile", tn_C, 3), ("ScopeTree$Descriptor", tn_D, 2), ("ScopeTree$Filter", tn_F, 3), ("ScopeTree$Loader", tn_L, 8), ("ScopeTree$Path", tn_P, 2), ("ScopeTree$Scope", tn_S, 10), ("ScopeTree$Type", tn_Y, 5), ("ScopeTree", tn_T, 8), ("ScopeTreeModel", tn_M, 33)]
def aw_tys (G : aw_G) : List (ClassId × FieldType) := [(G.2.2.1 0, .int), (G.2.2.1 1, .boolean), (G.2.2.1 2, .long), (G.2.2.1 3, .object "ScopeTree$Archive"), (G.2.2.1 4, .object "ScopeTree$Scope"), (G.2.2.1 5, .object "ScopeTree$Loader"), (G.2.2.1 6, .object "ScopeTree$Type"), (G.2.2.1 7, .object "ScopeTree$ClassFile"), (G.2.2.1 8, .object "ScopeTree$Descriptor")]
def aw_AO : List String := ["ScopeTree$Archive", "ScopeTree$Scope", "ScopeTree$Loader", "ScopeTree$Type", "ScopeTree$ClassFile", "ScopeTree$Descriptor"]
def aw_SB : List (String × Nat × String) := [("ScopeTree", 137, "no such archive"), ("ScopeTree", 86, "no name of a class file"), ("ScopeTree", 91, "no such super or version"), ("ScopeTree", 104, "the archive is full of class files"), ("ScopeTree", 110, "no such plugin or name"), ("ScopeTree", 121, "the archive is full of descriptors"), ("ScopeTree", 275, "no such scope"), ("ScopeTree", 133, "the parent is released"), ("ScopeTree", 135, "no scope number is left"), ("ScopeTree", 282, "the scope is locked or released"), ("ScopeTree", 155, "no such set of packages"), ("ScopeTree", 170, "the parent is not locked"), ("ScopeTree", 178, "too few loader numbers are free"), ("ScopeTree", 195, "scope 0 is never released"), ("ScopeTree", 201, "released, or a child is not"), ("ScopeTree", 215, "no such name"), ("ScopeTree", 284, "the scope is not locked, or released"), ("ScopeTree", 341, "circular"), ("ScopeTree", 343, "deep"), ("ScopeTree", 348, "link error"), ("ScopeTree", 354, "no class number is left"), ("ScopeTree", 319, "no class of that name is found"), ("ScopeTree", 277, "no such class"), ("ScopeTree", 248, "no such question about a class"), ("ScopeTree", 255, "no such plugin")]
def aw_NC : List (String × String) := [("java/lang/IllegalStateException", "java/lang/IllegalArgumentException"), ("java/lang/UnsupportedOperationException", "java/lang/IllegalArgumentException"), ("java/util/NoSuchElementException", "java/lang/IllegalArgumentException"), ("java/lang/IllegalArgumentException", "java/lang/IllegalStateException"), ("java/lang/UnsupportedOperationException", "java/lang/IllegalStateException"), ("java/util/NoSuchElementException", "java/lang/IllegalStateException"), ("java/lang/IllegalArgumentException", "java/lang/UnsupportedOperationException"), ("java/lang/IllegalStateException", "java/lang/UnsupportedOperationException"), ("java/util/NoSuchElementException", "java/lang/UnsupportedOperationException"), ("java/lang/IllegalArgumentException", "java/util/NoSuchElementException"), ("java/lang/IllegalStateException", "java/util/NoSuchElementException"), ("java/lang/UnsupportedOperationException", "java/util/NoSuchElementException")]
def aw_En : String := "ScopeTree$State"
def aw_en : List String := ["OPEN", "LOCKED", "RELEASED"]
