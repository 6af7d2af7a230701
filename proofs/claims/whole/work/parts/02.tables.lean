/-! THE CLASSES, BY TABLES: names, fields, kinds of fields (0 int, 1 boolean, 2 reference), types -/
def cN : Nat → String
  | 0 => "FeatureDesk$Answers"
  | 1 => "FeatureDesk$Condition"
  | 2 => "FeatureDesk$Desk"
  | 3 => "FeatureDesk$Feature"
  | 4 => "FeatureDesk$Persons"
  | 5 => "FeatureDesk$Reader"
  | 6 => "FeatureDesk$Rule"
  | 7 => "FeatureDesk$Shelf"
  | 8 => "FeatureDesk$Speller"
  | 9 => "FeatureDesk$Steps"
  | 10 => "FeatureDesk"
  | 11 => "FeatureDeskModel"
  | _ => ""
def cTl : Nat → List (String × String × Bool)
  | 0 => [("variants", "[I", true), ("reasons", "[I", true), ("numbers", "[I", true), ("path", "[I", true), ("pathLength", "I", false), ("known", "I", false)]
  | 1 => [("kinds", "[I", true), ("x", "[I", true), ("y", "[I", true), ("signs", "[I", true), ("truths", "[Z", true)]
  | 2 => [("persons", "LFeatureDesk$Persons;", true), ("features", "[LFeatureDesk$Feature;", true), ("featureCount", "I", false), ("steps", "LFeatureDesk$Steps;", true), ("now", "I", false), ("seed", "I", false), ("asked", "I", false)]
  | 3 => [("top", "I", false), ("killed", "I", false), ("sticky", "I", false), ("fallback", "I", false), ("rules", "[LFeatureDesk$Rule;", true), ("ruleCount", "I", false), ("needFeatures", "[I", true), ("needVariants", "[I", true), ("needCount", "I", false), ("overrides", "[I", true), ("kept", "[I", true), ("counts", "[I", true), ("layer", "I", false), ("from", "I", false), ("to", "I", false)]
  | 4 => [("keys", "[I", true), ("attributes", "[I", true), ("count", "I", false)]
  | 5 => [("tape", "[I", false), ("size", "I", false), ("place", "I", false), ("fixed", "I", false), ("parts", "[I", true), ("kinds", "[I", true), ("x", "[I", true), ("y", "[I", true), ("signs", "[I", true), ("nodeCount", "I", false), ("loose", "[I", true), ("looseCount", "I", false), ("waiting", "[I", true), ("waitingCount", "I", false), ("openBrackets", "I", false), ("operandDue", "Z", false)]
  | 6 => [("condition", "LFeatureDesk$Condition;", false), ("fixed", "I", false), ("parts", "[I", true)]
  | 7 => [("sort", "I", false), ("size", "I", false), ("elements", "[J", true), ("condition", "LFeatureDesk$Condition;", false), ("node", "I", false)]
  | 8 => [("lengths", "[I", true), ("starts", "[I", true), ("letters", "[I", true), ("size", "I", false)]
  | 9 => [("times", "[I", true), ("features", "[I", true), ("rules", "[I", true), ("variants", "[I", true), ("parts", "[I", true), ("count", "I", false)]
  | 10 => [("desk", "LFeatureDesk$Desk;", true), ("image", "LFeatureDesk$Desk;", true), ("trial", "LFeatureDesk$Desk;", true), ("hasImage", "Z", false), ("answers", "LFeatureDesk$Answers;", true), ("trialAnswers", "LFeatureDesk$Answers;", true), ("leastParts", "[I", true), ("shelves", "[LFeatureDesk$Shelf;", true), ("tape", "[I", true), ("tapeSize", "I", false), ("reader", "LFeatureDesk$Reader;", true), ("speller", "LFeatureDesk$Speller;", true), ("refusals", "[I", true)]
  | 11 => [("g", "[I", true), ("was", "[I", true), ("kept", "[I", true), ("hasImage", "Z", false), ("refusals", "[I", true), ("kind", "[I", false), ("first", "[I", false), ("second", "[I", false), ("sign", "[I", false), ("parts", "I", false), ("tape", "[I", true), ("taped", "I", false), ("place", "I", false), ("number", "I", false), ("shares", "[I", true), ("reason", "I", false), ("why", "I", false), ("got", "[I", true), ("reasons", "[I", true), ("whys", "[I", true), ("worked", "I", false), ("way", "[I", true), ("wayMany", "I", false), ("ahead", "[I", true), ("texted", "I", false), ("asked", "I", false), ("found", "I", false), ("sorts", "[I", true), ("sizes", "[I", true), ("elements", "[J", true), ("trees", "[I", true)]
  | _ => []
def cK : Nat → List Nat
  | 0 => [2, 2, 2, 2, 0, 0]
  | 1 => [2, 2, 2, 2, 2]
  | 2 => [2, 2, 0, 2, 0, 0, 0]
  | 3 => [0, 0, 0, 0, 2, 0, 2, 2, 0, 2, 2, 2, 0, 0, 0]
  | 4 => [2, 2, 0]
  | 5 => [2, 0, 0, 0, 2, 2, 2, 2, 2, 0, 2, 0, 2, 0, 0, 1]
  | 6 => [2, 0, 2]
  | 7 => [0, 0, 2, 2, 0]
  | 8 => [2, 2, 2, 0]
  | 9 => [2, 2, 2, 2, 2, 0]
  | 10 => [2, 2, 2, 1, 2, 2, 2, 2, 2, 0, 2, 2, 2]
  | 11 => [2, 2, 2, 1, 2, 2, 2, 2, 2, 0, 2, 0, 0, 0, 2, 0, 0, 2, 2, 2, 0, 2, 0, 2, 0, 0, 0, 2, 2, 2, 2]
  | _ => []
def cYl : Nat → List FieldType
  | 0 => [(.array .int), (.array .int), (.array .int), (.array .int), .int, .int]
  | 1 => [(.array .int), (.array .int), (.array .int), (.array .int), (.array .boolean)]
  | 2 => [(.object "FeatureDesk$Persons"), (.array (.object "FeatureDesk$Feature")), .int, (.object "FeatureDesk$Steps"), .int, .int, .int]
  | 3 => [.int, .int, .int, .int, (.array (.object "FeatureDesk$Rule")), .int, (.array .int), (.array .int), .int, (.array .int), (.array .int), (.array .int), .int, .int, .int]
  | 4 => [(.array .int), (.array .int), .int]
  | 5 => [(.array .int), .int, .int, .int, (.array .int), (.array .int), (.array .int), (.array .int), (.array .int), .int, (.array .int), .int, (.array .int), .int, .int, .boolean]
  | 6 => [(.object "FeatureDesk$Condition"), .int, (.array .int)]
  | 7 => [.int, .int, (.array .long), (.object "FeatureDesk$Condition"), .int]
  | 8 => [(.array .int), (.array .int), (.array .int), .int]
  | 9 => [(.array .int), (.array .int), (.array .int), (.array .int), (.array .int), .int]
  | 10 => [(.object "FeatureDesk$Desk"), (.object "FeatureDesk$Desk"), (.object "FeatureDesk$Desk"), .boolean, (.object "FeatureDesk$Answers"), (.object "FeatureDesk$Answers"), (.array .int), (.array (.object "FeatureDesk$Shelf")), (.array .int), .int, (.object "FeatureDesk$Reader"), (.object "FeatureDesk$Speller"), (.array .int)]
  | 11 => [(.array .int), (.array .int), (.array .int), .boolean, (.array .int), (.array .int), (.array .int), (.array .int), (.array .int), .int, (.array .int), .int, .int, .int, (.array .int), .int, .int, (.array .int), (.array .int), (.array .int), .int, (.array .int), .int, (.array .int), .int, .int, .int, (.array .int), (.array .int), (.array .long), (.array .int)]
  | _ => []
def cn (ci : Nat) : Nat := (cTl ci).length
def cT (ci : Nat) : u_T := fun k => (cN ci, (cTl ci).getD k ("", "I", false))
def cY (ci k : Nat) : FieldType := (cYl ci).getD k .int
def cKk (ci k : Nat) : Nat := (cK ci).getD k 0
theorem c_all {p : Nat → Nat → Prop} [∀ a b, Decidable (p a b)] (h : (List.range 12).all (fun ci => (List.range (cn ci)).all fun k => decide (p ci k)) = true) : ∀ ci, ci < 12 → ∀ k, k < cn ci → p ci k := by
  intro ci hc k hk
  have h1 := List.all_eq_true.mp h ci (List.mem_range.mpr hc)
  have h2 := List.all_eq_true.mp h1 k (List.mem_range.mpr hk)
  exact of_decide_eq_true h2
theorem c_ok : ∀ ci, ci < 12 → ∀ k, k < cn ci → parseFieldDescriptor (cT ci k).2.2.1 = some (cY ci k) := c_all (by decide +kernel)
theorem c_nm : ∀ ci, ci < 12 → ∀ a, a < cn ci → ∀ b, b < cn ci → a ≠ b → (cT ci a).2.1 ≠ (cT ci b).2.1 := by
  have h := c_all (p := fun ci a => ∀ b, b < cn ci → a ≠ b → (cT ci a).2.1 ≠ (cT ci b).2.1) (by decide +kernel)
  exact h
theorem c_kf : ∀ ci, ci < 12 → ∀ k, k < cn ci → (cKk ci k = 0 ∧ cY ci k = .int) ∨ (cKk ci k = 1 ∧ cY ci k = .boolean) ∨ (cKk ci k = 2 ∧ (cY ci k).isReference = true) := c_all (by decide +kernel)
/-- the good words of the tables, and those of nest mates -/
def bBig : List Jvm.Cond := lw_tbl.filter goodWord
def bNestW : Jvm.Cond → Bool
  | .fieldLinkNest _ _ _ _ _ _ => true
  | .methodLinkNest _ _ _ _ => true
  | _ => false
def bNest : List Jvm.Cond := tables_1.filter bNestW
theorem bm {w : Jvm.Cond} (i : Nat) (h : lw_tbl[i]? = some w) (g : goodWord w = true) : w ∈ bBig := List.mem_filter.mpr ⟨List.mem_of_getElem? h, g⟩
theorem nm {w : Jvm.Cond} (i : Nat) (h : tables_1[i]? = some w) (g : bNestW w = true) : w ∈ bNest := List.mem_filter.mpr ⟨List.mem_of_getElem? h, g⟩
def cLi : Nat → List Nat
  | 0 => [324, 326, 328, 330, 332, 334]
  | 1 => [807, 809, 811, 813, 815]
  | 2 => [292, 294, 296, 298, 300, 302, 304]
  | 3 => [247, 249, 251, 253, 255, 257, 259, 261, 263, 265, 267, 269, 271, 273, 275]
  | 4 => [135, 137, 139]
  | 5 => [363, 365, 367, 369, 371, 373, 375, 377, 379, 381, 383, 385, 387, 389, 391, 393]
  | 6 => [199, 201, 203]
  | 7 => [430, 432, 434, 436, 438]
  | 8 => [406, 408, 410, 412]
  | 9 => [162, 164, 166, 168, 170, 172]
  | 10 => [455, 457, 459, 461, 463, 465, 467, 469, 471, 473, 475, 477, 479]
  | 11 => [1228, 1230, 1232, 1234, 1236, 1238, 1240, 1242, 1244, 1246, 1248, 1250, 1252, 1254, 1256, 1258, 1260, 1262, 1264, 1266, 1268, 1270, 1272, 1274, 1276, 1278, 1280, 1282, 1284, 1286, 1288]
  | _ => []
theorem c_li : ∀ ci, ci < 12 → ∀ k, k < cn ci → lw_tbl[(cLi ci).getD k 0]? = some (u_lay (cN ci) (cT ci) k) ∧ goodWord (u_lay (cN ci) (cT ci) k) = true := c_all (by decide +kernel)
theorem c_in {ci : Nat} (hc : ci < 12) : ∀ w ∈ u_ws (cN ci) (cT ci) (cn ci), w ∈ bBig := by
  intro w hw
  obtain ⟨k, hk, rfl⟩ := List.mem_map.mp hw
  obtain ⟨h1, h2⟩ := c_li ci hc k (List.mem_range.mp hk)
  exact bm _ h1 h2
abbrev MI : Type := MethodName × ByteArray × Nat × Option FieldType
def bFl (own : String) (ix ci k : Nat) : Prop := ci < 12 ∧ k < cn ci ∧ (Jvm.Cond.fieldLink own ix (cN ci) (cT ci k).2.1 (cT ci k).2.2.1 ∈ bBig ∨ ∃ host, Jvm.Cond.fieldLinkNest own ix (cN ci) (cT ci k).2.1 (cT ci k).2.2.1 host ∈ bNest)
def bCm (M2 : MI) (n : Nat) : Prop := Jvm.Cond.code M2.1 M2.2.1 M2.2.2.1 M2.2.2.2 ∈ bBig ∧ Jvm.Cond.initialized M2.1.cls ∈ bBig ∧ (M2.1.cls ≠ "java/lang/invoke/MethodHandle" ∧ M2.1.cls ≠ "java/lang/invoke/VarHandle" ∧ (parseMethodDescriptor M2.1.desc).map (fun d => d.parameters.length) = some n) ∧ M2.2.2.1 ≤ 21
def bLk (own : String) (ix : Nat) (y : MethodName) : Prop := Jvm.Cond.methodLink own ix y ∈ bBig ∨ ∃ host, Jvm.Cond.methodLinkNest own ix y host ∈ bNest
def bCv (M2 : MI) : Prop := Jvm.Cond.instanceMethod M2.1 ∈ bBig ∧ Jvm.Cond.selects M2.1.cls M2.1 M2.1 ∈ bBig
