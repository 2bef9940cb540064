/-! names, fields, methods (printed by wip/gen out of the claim) -/
def RX0 : String := "SchemeEleven$Coder"
def TX0 : u_T := fun k => match k with
  | 0 => ("SchemeEleven$Coder", "text", "LSchemeEleven$Text;", true)
  | 1 => ("SchemeEleven$Coder", "image", "LSchemeEleven$Image;", true)
  | 2 => ("SchemeEleven$Coder", "scopes", "LSchemeEleven$Scopes;", true)
  | 3 => ("SchemeEleven$Coder", "spreader", "LSchemeEleven$Spreader;", true)
  | 4 => ("SchemeEleven$Coder", "tasks", "[I", true)
  | 5 => ("SchemeEleven$Coder", "top", "I", false)
  | 6 => ("SchemeEleven$Coder", "lambdas", "[I", true)
  | 7 => ("SchemeEleven$Coder", "firstLambda", "I", false)
  | 8 => ("SchemeEleven$Coder", "lambdaCount", "I", false)
  | 9 => ("SchemeEleven$Coder", "datum", "I", false)
  | 10 => ("SchemeEleven$Coder", "part", "I", false)
  | 11 => ("SchemeEleven$Coder", "scope", "I", false)
  | 12 => ("SchemeEleven$Coder", "flags", "I", false)
  | _ => ("SchemeEleven$Coder", "patch", "I", false)
def tyX0 : Nat → FieldType := fun k => match k with
  | 0 => .object "SchemeEleven$Text"
  | 1 => .object "SchemeEleven$Image"
  | 2 => .object "SchemeEleven$Scopes"
  | 3 => .object "SchemeEleven$Spreader"
  | 4 => .array .int
  | 5 => .int
  | 6 => .array .int
  | 7 => .int
  | 8 => .int
  | 9 => .int
  | 10 => .int
  | 11 => .int
  | 12 => .int
  | _ => .int
theorem nmX0 : ∀ a, a < 14 → ∀ b, b < 14 → a ≠ b → (TX0 a).2.1 ≠ (TX0 b).2.1 := by decide +kernel
theorem tyX0_ok : ∀ k, k < 14 → parseFieldDescriptor (TX0 k).2.2.1 = some (tyX0 k) := by decide +kernel
def RX1 : String := "SchemeEleven$Heap"
def TX1 : u_T := fun k => match k with
  | 0 => ("SchemeEleven$Heap", "machine", "LSchemeEleven$Machine;", true)
  | 1 => ("SchemeEleven$Heap", "image", "LSchemeEleven$Image;", true)
  | 2 => ("SchemeEleven$Heap", "states", "[I", true)
  | 3 => ("SchemeEleven$Heap", "open", "[I", true)
  | 4 => ("SchemeEleven$Heap", "opened", "I", false)
  | 5 => ("SchemeEleven$Heap", "end", "I", false)
  | _ => ("SchemeEleven$Heap", "packs", "I", false)
def tyX1 : Nat → FieldType := fun k => match k with
  | 0 => .object "SchemeEleven$Machine"
  | 1 => .object "SchemeEleven$Image"
  | 2 => .array .int
  | 3 => .array .int
  | 4 => .int
  | 5 => .int
  | _ => .int
theorem nmX1 : ∀ a, a < 7 → ∀ b, b < 7 → a ≠ b → (TX1 a).2.1 ≠ (TX1 b).2.1 := by decide +kernel
theorem tyX1_ok : ∀ k, k < 7 → parseFieldDescriptor (TX1 k).2.2.1 = some (tyX1 k) := by decide +kernel
def RX2 : String := "SchemeEleven$Image"
def TX2 : u_T := fun k => match k with
  | 0 => ("SchemeEleven$Image", "machine", "LSchemeEleven$Machine;", true)
  | 1 => ("SchemeEleven$Image", "letters", "[I", true)
  | 2 => ("SchemeEleven$Image", "lengths", "[I", true)
  | 3 => ("SchemeEleven$Image", "places", "[I", true)
  | 4 => ("SchemeEleven$Image", "symbols", "I", false)
  | 5 => ("SchemeEleven$Image", "staticsEnd", "I", false)
  | 6 => ("SchemeEleven$Image", "codeEnd", "I", false)
  | 7 => ("SchemeEleven$Image", "oldSymbols", "I", false)
  | 8 => ("SchemeEleven$Image", "oldStaticsEnd", "I", false)
  | _ => ("SchemeEleven$Image", "oldCodeEnd", "I", false)
def tyX2 : Nat → FieldType := fun k => match k with
  | 0 => .object "SchemeEleven$Machine"
  | 1 => .array .int
  | 2 => .array .int
  | 3 => .array .int
  | 4 => .int
  | 5 => .int
  | 6 => .int
  | 7 => .int
  | 8 => .int
  | _ => .int
theorem nmX2 : ∀ a, a < 10 → ∀ b, b < 10 → a ≠ b → (TX2 a).2.1 ≠ (TX2 b).2.1 := by decide +kernel
theorem tyX2_ok : ∀ k, k < 10 → parseFieldDescriptor (TX2 k).2.2.1 = some (tyX2 k) := by decide +kernel
def RX3 : String := "SchemeEleven$Machine"
def TX3 : u_T := fun k => match k with
  | 0 => ("SchemeEleven$Machine", "cells", "[I", true)
  | 1 => ("SchemeEleven$Machine", "\x72", "[I", true)
  | 2 => ("SchemeEleven$Machine", "n", "Z", false)
  | 3 => ("SchemeEleven$Machine", "z", "Z", false)
  | 4 => ("SchemeEleven$Machine", "v", "Z", false)
  | 5 => ("SchemeEleven$Machine", "c", "Z", false)
  | _ => ("SchemeEleven$Machine", "instruction", "I", false)
def tyX3 : Nat → FieldType := fun k => match k with
  | 0 => .array .int
  | 1 => .array .int
  | 2 => .boolean
  | 3 => .boolean
  | 4 => .boolean
  | 5 => .boolean
  | _ => .int
theorem nmX3 : ∀ a, a < 7 → ∀ b, b < 7 → a ≠ b → (TX3 a).2.1 ≠ (TX3 b).2.1 := by decide +kernel
theorem tyX3_ok : ∀ k, k < 7 → parseFieldDescriptor (TX3 k).2.2.1 = some (tyX3 k) := by decide +kernel
def RX4 : String := "SchemeEleven$Pattern"
def TX4 : u_T := fun k => match k with
  | 0 => ("SchemeEleven$Pattern", "text", "LSchemeEleven$Text;", true)
  | 1 => ("SchemeEleven$Pattern", "literals", "I", false)
  | 2 => ("SchemeEleven$Pattern", "nodes", "[I", true)
  | 3 => ("SchemeEleven$Pattern", "values", "[I", true)
  | 4 => ("SchemeEleven$Pattern", "outers", "[I", true)
  | 5 => ("SchemeEleven$Pattern", "inners", "[I", true)
  | 6 => ("SchemeEleven$Pattern", "variables", "I", false)
  | 7 => ("SchemeEleven$Pattern", "bodies", "[I", true)
  | 8 => ("SchemeEleven$Pattern", "lists", "[I", true)
  | 9 => ("SchemeEleven$Pattern", "cursors", "[I", true)
  | 10 => ("SchemeEleven$Pattern", "firstVariables", "[I", true)
  | 11 => ("SchemeEleven$Pattern", "nextVariables", "[I", true)
  | 12 => ("SchemeEleven$Pattern", "nextGroups", "[I", true)
  | 13 => ("SchemeEleven$Pattern", "groups", "I", false)
  | 14 => ("SchemeEleven$Pattern", "outer", "I", false)
  | 15 => ("SchemeEleven$Pattern", "variableAt", "I", false)
  | 16 => ("SchemeEleven$Pattern", "groupAt", "I", false)
  | 17 => ("SchemeEleven$Pattern", "abreast", "[I", true)
  | _ => ("SchemeEleven$Pattern", "abreastCount", "[I", true)
def tyX4 : Nat → FieldType := fun k => match k with
  | 0 => .object "SchemeEleven$Text"
  | 1 => .int
  | 2 => .array .int
  | 3 => .array .int
  | 4 => .array .int
  | 5 => .array .int
  | 6 => .int
  | 7 => .array .int
  | 8 => .array .int
  | 9 => .array .int
  | 10 => .array .int
  | 11 => .array .int
  | 12 => .array .int
  | 13 => .int
  | 14 => .int
  | 15 => .int
  | 16 => .int
  | 17 => .array .int
  | _ => .array .int
theorem nmX4 : ∀ a, a < 19 → ∀ b, b < 19 → a ≠ b → (TX4 a).2.1 ≠ (TX4 b).2.1 := by decide +kernel
theorem tyX4_ok : ∀ k, k < 19 → parseFieldDescriptor (TX4 k).2.2.1 = some (tyX4 k) := by decide +kernel
def RX5 : String := "SchemeEleven$Reader"
def TX5 : u_T := fun k => match k with
  | 0 => ("SchemeEleven$Reader", "text", "LSchemeEleven$Text;", true)
  | 1 => ("SchemeEleven$Reader", "image", "LSchemeEleven$Image;", true)
  | 2 => ("SchemeEleven$Reader", "heads", "[I", true)
  | 3 => ("SchemeEleven$Reader", "forms", "I", false)
  | 4 => ("SchemeEleven$Reader", "states", "[I", true)
  | 5 => ("SchemeEleven$Reader", "begins", "[I", true)
  | 6 => ("SchemeEleven$Reader", "lists", "[I", true)
  | 7 => ("SchemeEleven$Reader", "lasts", "[I", true)
  | 8 => ("SchemeEleven$Reader", "open", "I", false)
  | _ => ("SchemeEleven$Reader", "ended", "I", false)
def tyX5 : Nat → FieldType := fun k => match k with
  | 0 => .object "SchemeEleven$Text"
  | 1 => .object "SchemeEleven$Image"
  | 2 => .array .int
  | 3 => .int
  | 4 => .array .int
  | 5 => .array .int
  | 6 => .array .int
  | 7 => .array .int
  | 8 => .int
  | _ => .int
theorem nmX5 : ∀ a, a < 10 → ∀ b, b < 10 → a ≠ b → (TX5 a).2.1 ≠ (TX5 b).2.1 := by decide +kernel
theorem tyX5_ok : ∀ k, k < 10 → parseFieldDescriptor (TX5 k).2.2.1 = some (tyX5 k) := by decide +kernel
def RX6 : String := "SchemeEleven$Runner"
def TX6 : u_T := fun k => match k with
  | 0 => ("SchemeEleven$Runner", "machine", "LSchemeEleven$Machine;", true)
  | 1 => ("SchemeEleven$Runner", "\x72", "[I", true)
  | 2 => ("SchemeEleven$Runner", "heap", "LSchemeEleven$Heap;", true)
  | 3 => ("SchemeEleven$Runner", "scribe", "LSchemeEleven$Scribe;", true)
  | 4 => ("SchemeEleven$Runner", "waiting", "[I", true)
  | 5 => ("SchemeEleven$Runner", "first", "I", false)
  | 6 => ("SchemeEleven$Runner", "waits", "I", false)
  | 7 => ("SchemeEleven$Runner", "underWay", "Z", false)
  | 8 => ("SchemeEleven$Runner", "done", "I", false)
  | 9 => ("SchemeEleven$Runner", "error", "I", false)
  | 10 => ("SchemeEleven$Runner", "row", "[I", true)
  | 11 => ("SchemeEleven$Runner", "arguments", "I", false)
  | 12 => ("SchemeEleven$Runner", "procedure", "I", false)
  | 13 => ("SchemeEleven$Runner", "input", "[I", true)
  | _ => ("SchemeEleven$Runner", "inputs", "I", false)
def tyX6 : Nat → FieldType := fun k => match k with
  | 0 => .object "SchemeEleven$Machine"
  | 1 => .array .int
  | 2 => .object "SchemeEleven$Heap"
  | 3 => .object "SchemeEleven$Scribe"
  | 4 => .array .int
  | 5 => .int
  | 6 => .int
  | 7 => .boolean
  | 8 => .int
  | 9 => .int
  | 10 => .array .int
  | 11 => .int
  | 12 => .int
  | 13 => .array .int
  | _ => .int
theorem nmX6 : ∀ a, a < 15 → ∀ b, b < 15 → a ≠ b → (TX6 a).2.1 ≠ (TX6 b).2.1 := by decide +kernel
theorem tyX6_ok : ∀ k, k < 15 → parseFieldDescriptor (TX6 k).2.2.1 = some (tyX6 k) := by decide +kernel
def RX7 : String := "SchemeEleven$Scopes"
def TX7 : u_T := fun k => match k with
  | 0 => ("SchemeEleven$Scopes", "text", "LSchemeEleven$Text;", true)
  | 1 => ("SchemeEleven$Scopes", "names", "[I", true)
  | 2 => ("SchemeEleven$Scopes", "infos", "[I", true)
  | 3 => ("SchemeEleven$Scopes", "outers", "[I", true)
  | 4 => ("SchemeEleven$Scopes", "nexts", "[I", true)
  | 5 => ("SchemeEleven$Scopes", "told", "I", false)
  | 6 => ("SchemeEleven$Scopes", "rules", "[I", true)
  | 7 => ("SchemeEleven$Scopes", "parts", "[I", true)
  | 8 => ("SchemeEleven$Scopes", "oldRules", "[I", true)
  | 9 => ("SchemeEleven$Scopes", "oldParts", "[I", true)
  | 10 => ("SchemeEleven$Scopes", "macros", "I", false)
  | 11 => ("SchemeEleven$Scopes", "allParts", "I", false)
  | 12 => ("SchemeEleven$Scopes", "oldMacros", "I", false)
  | 13 => ("SchemeEleven$Scopes", "oldAllParts", "I", false)
  | _ => ("SchemeEleven$Scopes", "changed", "Z", false)
def tyX7 : Nat → FieldType := fun k => match k with
  | 0 => .object "SchemeEleven$Text"
  | 1 => .array .int
  | 2 => .array .int
  | 3 => .array .int
  | 4 => .array .int
  | 5 => .int
  | 6 => .array .int
  | 7 => .array .int
  | 8 => .array .int
  | 9 => .array .int
  | 10 => .int
  | 11 => .int
  | 12 => .int
  | 13 => .int
  | _ => .boolean
theorem nmX7 : ∀ a, a < 15 → ∀ b, b < 15 → a ≠ b → (TX7 a).2.1 ≠ (TX7 b).2.1 := by decide +kernel
theorem tyX7_ok : ∀ k, k < 15 → parseFieldDescriptor (TX7 k).2.2.1 = some (tyX7 k) := by decide +kernel
def RX8 : String := "SchemeEleven$Scribe"
def TX8 : u_T := fun k => match k with
  | 0 => ("SchemeEleven$Scribe", "image", "LSchemeEleven$Image;", true)
  | 1 => ("SchemeEleven$Scribe", "heap", "LSchemeEleven$Heap;", true)
  | 2 => ("SchemeEleven$Scribe", "line", "[I", true)
  | 3 => ("SchemeEleven$Scribe", "length", "I", false)
  | 4 => ("SchemeEleven$Scribe", "parts", "I", false)
  | 5 => ("SchemeEleven$Scribe", "ended", "Z", false)
  | 6 => ("SchemeEleven$Scribe", "paper", "[I", true)
  | 7 => ("SchemeEleven$Scribe", "kept", "I", false)
  | _ => ("SchemeEleven$Scribe", "written", "I", false)
def tyX8 : Nat → FieldType := fun k => match k with
  | 0 => .object "SchemeEleven$Image"
  | 1 => .object "SchemeEleven$Heap"
  | 2 => .array .int
  | 3 => .int
  | 4 => .int
  | 5 => .boolean
  | 6 => .array .int
  | 7 => .int
  | _ => .int
theorem nmX8 : ∀ a, a < 9 → ∀ b, b < 9 → a ≠ b → (TX8 a).2.1 ≠ (TX8 b).2.1 := by decide +kernel
theorem tyX8_ok : ∀ k, k < 9 → parseFieldDescriptor (TX8 k).2.2.1 = some (tyX8 k) := by decide +kernel
def RX9 : String := "SchemeEleven$Spreader"
def TX9 : u_T := fun k => match k with
  | 0 => ("SchemeEleven$Spreader", "text", "LSchemeEleven$Text;", true)
  | 1 => ("SchemeEleven$Spreader", "scopes", "LSchemeEleven$Scopes;", true)
  | 2 => ("SchemeEleven$Spreader", "pattern", "LSchemeEleven$Pattern;", true)
  | 3 => ("SchemeEleven$Spreader", "uses", "I", false)
  | 4 => ("SchemeEleven$Spreader", "made", "I", false)
  | 5 => ("SchemeEleven$Spreader", "seen", "I", false)
  | 6 => ("SchemeEleven$Spreader", "useScope", "I", false)
  | 7 => ("SchemeEleven$Spreader", "toldScope", "I", false)
  | 8 => ("SchemeEleven$Spreader", "place", "I", false)
  | 9 => ("SchemeEleven$Spreader", "aliases", "[I", true)
  | _ => ("SchemeEleven$Spreader", "aliased", "I", false)
def tyX9 : Nat → FieldType := fun k => match k with
  | 0 => .object "SchemeEleven$Text"
  | 1 => .object "SchemeEleven$Scopes"
  | 2 => .object "SchemeEleven$Pattern"
  | 3 => .int
  | 4 => .int
  | 5 => .int
  | 6 => .int
  | 7 => .int
  | 8 => .int
  | 9 => .array .int
  | _ => .int
theorem nmX9 : ∀ a, a < 11 → ∀ b, b < 11 → a ≠ b → (TX9 a).2.1 ≠ (TX9 b).2.1 := by decide +kernel
theorem tyX9_ok : ∀ k, k < 11 → parseFieldDescriptor (TX9 k).2.2.1 = some (tyX9 k) := by decide +kernel
def RX10 : String := "SchemeEleven$Text"
def TX10 : u_T := fun k => match k with
  | 0 => ("SchemeEleven$Text", "tags", "[I", true)
  | 1 => ("SchemeEleven$Text", "firsts", "[I", true)
  | 2 => ("SchemeEleven$Text", "seconds", "[I", true)
  | 3 => ("SchemeEleven$Text", "used", "I", false)
  | 4 => ("SchemeEleven$Text", "half", "I", false)
  | 5 => ("SchemeEleven$Text", "keptUsed", "I", false)
  | 6 => ("SchemeEleven$Text", "fault", "I", false)
  | 7 => ("SchemeEleven$Text", "faultPlace", "I", false)
  | _ => ("SchemeEleven$Text", "measured", "I", false)
def tyX10 : Nat → FieldType := fun k => match k with
  | 0 => .array .int
  | 1 => .array .int
  | 2 => .array .int
  | 3 => .int
  | 4 => .int
  | 5 => .int
  | 6 => .int
  | 7 => .int
  | _ => .int
theorem nmX10 : ∀ a, a < 9 → ∀ b, b < 9 → a ≠ b → (TX10 a).2.1 ≠ (TX10 b).2.1 := by decide +kernel
theorem tyX10_ok : ∀ k, k < 9 → parseFieldDescriptor (TX10 k).2.2.1 = some (tyX10 k) := by decide +kernel
def RX11 : String := "SchemeEleven"
def TX11 : u_T := fun k => match k with
  | 0 => ("SchemeEleven", "tape", "[I", true)
  | 1 => ("SchemeEleven", "taped", "I", false)
  | 2 => ("SchemeEleven", "bench", "LSchemeEleven$Machine;", true)
  | 3 => ("SchemeEleven", "benchSteps", "I", false)
  | 4 => ("SchemeEleven", "machine", "LSchemeEleven$Machine;", true)
  | 5 => ("SchemeEleven", "image", "LSchemeEleven$Image;", true)
  | 6 => ("SchemeEleven", "heap", "LSchemeEleven$Heap;", true)
  | 7 => ("SchemeEleven", "scribe", "LSchemeEleven$Scribe;", true)
  | 8 => ("SchemeEleven", "runner", "LSchemeEleven$Runner;", true)
  | 9 => ("SchemeEleven", "text", "LSchemeEleven$Text;", true)
  | 10 => ("SchemeEleven", "scopes", "LSchemeEleven$Scopes;", true)
  | 11 => ("SchemeEleven", "reader", "LSchemeEleven$Reader;", true)
  | 12 => ("SchemeEleven", "coder", "LSchemeEleven$Coder;", true)
  | 13 => ("SchemeEleven", "starts", "[I", true)
  | 14 => ("SchemeEleven", "page", "[I", true)
  | 15 => ("SchemeEleven", "paged", "I", false)
  | 16 => ("SchemeEleven", "faultKind", "I", false)
  | _ => ("SchemeEleven", "faultPlace", "I", false)
def tyX11 : Nat → FieldType := fun k => match k with
  | 0 => .array .int
  | 1 => .int
  | 2 => .object "SchemeEleven$Machine"
  | 3 => .int
  | 4 => .object "SchemeEleven$Machine"
  | 5 => .object "SchemeEleven$Image"
  | 6 => .object "SchemeEleven$Heap"
  | 7 => .object "SchemeEleven$Scribe"
  | 8 => .object "SchemeEleven$Runner"
  | 9 => .object "SchemeEleven$Text"
  | 10 => .object "SchemeEleven$Scopes"
  | 11 => .object "SchemeEleven$Reader"
  | 12 => .object "SchemeEleven$Coder"
  | 13 => .array .int
  | 14 => .array .int
  | 15 => .int
  | 16 => .int
  | _ => .int
theorem nmX11 : ∀ a, a < 18 → ∀ b, b < 18 → a ≠ b → (TX11 a).2.1 ≠ (TX11 b).2.1 := by decide +kernel
theorem tyX11_ok : ∀ k, k < 18 → parseFieldDescriptor (TX11 k).2.2.1 = some (tyX11 k) := by decide +kernel
def RX12 : String := "SchemeElevenModel"
def TX12 : u_T := fun k => match k with
  | 0 => ("SchemeElevenModel", "memory", "[[I", true)
  | 1 => ("SchemeElevenModel", "registers", "[[I", true)
  | 2 => ("SchemeElevenModel", "flags", "[[I", true)
  | 3 => ("SchemeElevenModel", "m", "I", false)
  | 4 => ("SchemeElevenModel", "stop", "I", false)
  | 5 => ("SchemeElevenModel", "emt", "I", false)
  | 6 => ("SchemeElevenModel", "isRegister", "Z", false)
  | 7 => ("SchemeElevenModel", "at", "I", false)
  | 8 => ("SchemeElevenModel", "latest", "I", false)
  | 9 => ("SchemeElevenModel", "staticEnd", "I", false)
  | 10 => ("SchemeElevenModel", "codeEnd", "I", false)
  | 11 => ("SchemeElevenModel", "heapEnd", "I", false)
  | 12 => ("SchemeElevenModel", "packed", "I", false)
  | 13 => ("SchemeElevenModel", "begins", "[Z", true)
  | 14 => ("SchemeElevenModel", "reached", "[Z", true)
  | 15 => ("SchemeElevenModel", "moved", "[I", true)
  | 16 => ("SchemeElevenModel", "waits", "[I", true)
  | 17 => ("SchemeElevenModel", "many", "I", false)
  | 18 => ("SchemeElevenModel", "isDone", "Z", false)
  | 19 => ("SchemeElevenModel", "arguments", "[I", true)
  | 20 => ("SchemeElevenModel", "argumentMany", "I", false)
  | 21 => ("SchemeElevenModel", "operator", "I", false)
  | 22 => ("SchemeElevenModel", "inputs", "[I", true)
  | 23 => ("SchemeElevenModel", "inputMany", "I", false)
  | 24 => ("SchemeElevenModel", "out", "[I", true)
  | 25 => ("SchemeElevenModel", "outMany", "I", false)
  | 26 => ("SchemeElevenModel", "kept", "I", false)
  | 27 => ("SchemeElevenModel", "line", "[I", true)
  | 28 => ("SchemeElevenModel", "lineSize", "I", false)
  | 29 => ("SchemeElevenModel", "items", "I", false)
  | 30 => ("SchemeElevenModel", "ended", "Z", false)
  | 31 => ("SchemeElevenModel", "tape", "[I", true)
  | 32 => ("SchemeElevenModel", "taped", "I", false)
  | 33 => ("SchemeElevenModel", "kind", "[I", true)
  | 34 => ("SchemeElevenModel", "head", "[I", true)
  | 35 => ("SchemeElevenModel", "rest", "[I", true)
  | 36 => ("SchemeElevenModel", "place", "[I", true)
  | 37 => ("SchemeElevenModel", "parts", "[I", true)
  | 38 => ("SchemeElevenModel", "depth", "[I", true)
  | 39 => ("SchemeElevenModel", "data", "I", false)
  | 40 => ("SchemeElevenModel", "fault", "I", false)
  | 41 => ("SchemeElevenModel", "faultAt", "I", false)
  | 42 => ("SchemeElevenModel", "letters", "[I", true)
  | 43 => ("SchemeElevenModel", "letterMany", "[I", true)
  | 44 => ("SchemeElevenModel", "symbolAt", "[I", true)
  | 45 => ("SchemeElevenModel", "symbols", "I", false)
  | 46 => ("SchemeElevenModel", "text", "[I", false)
  | 47 => ("SchemeElevenModel", "textSize", "I", false)
  | 48 => ("SchemeElevenModel", "pos", "I", false)
  | 49 => ("SchemeElevenModel", "from", "I", false)
  | 50 => ("SchemeElevenModel", "roots", "[I", true)
  | 51 => ("SchemeElevenModel", "forms", "I", false)
  | 52 => ("SchemeElevenModel", "first", "[I", true)
  | 53 => ("SchemeElevenModel", "latestPair", "[I", true)
  | 54 => ("SchemeElevenModel", "state", "[I", true)
  | 55 => ("SchemeElevenModel", "openAt", "[I", true)
  | 56 => ("SchemeElevenModel", "open", "I", false)
  | 57 => ("SchemeElevenModel", "row", "[I", true)
  | 58 => ("SchemeElevenModel", "aliasOf", "[I", true)
  | 59 => ("SchemeElevenModel", "aliasIn", "[I", true)
  | 60 => ("SchemeElevenModel", "aliases", "I", false)
  | 61 => ("SchemeElevenModel", "scopeAround", "[I", true)
  | 62 => ("SchemeElevenModel", "scopeFrom", "[I", true)
  | 63 => ("SchemeElevenModel", "scopeIsRib", "[I", true)
  | 64 => ("SchemeElevenModel", "scopes", "I", false)
  | 65 => ("SchemeElevenModel", "toldName", "[I", true)
  | 66 => ("SchemeElevenModel", "toldRules", "[I", true)
  | 67 => ("SchemeElevenModel", "toldMany", "I", false)
  | 68 => ("SchemeElevenModel", "macros", "I", false)
  | 69 => ("SchemeElevenModel", "macroName", "[I", true)
  | 70 => ("SchemeElevenModel", "macroRules", "[I", true)
  | 71 => ("SchemeElevenModel", "meant", "I", false)
  | 72 => ("SchemeElevenModel", "meantId", "I", false)
  | 73 => ("SchemeElevenModel", "meantScope", "I", false)
  | 74 => ("SchemeElevenModel", "variable", "[I", true)
  | 75 => ("SchemeElevenModel", "variableDepth", "[I", true)
  | 76 => ("SchemeElevenModel", "variables", "I", false)
  | 77 => ("SchemeElevenModel", "literals", "I", false)
  | 78 => ("SchemeElevenModel", "turn", "[I", true)
  | 79 => ("SchemeElevenModel", "manyParts", "I", false)
  | 80 => ("SchemeElevenModel", "uses", "I", false)
  | 81 => ("SchemeElevenModel", "madeParts", "I", false)
  | 82 => ("SchemeElevenModel", "useAt", "I", false)
  | 83 => ("SchemeElevenModel", "useTold", "I", false)
  | 84 => ("SchemeElevenModel", "pattern", "I", false)
  | 85 => ("SchemeElevenModel", "against", "I", false)
  | 86 => ("SchemeElevenModel", "firstAlias", "I", false)
  | 87 => ("SchemeElevenModel", "pendingNames", "[I", true)
  | 88 => ("SchemeElevenModel", "pendingBody", "[I", true)
  | 89 => ("SchemeElevenModel", "pendingScope", "[I", true)
  | 90 => ("SchemeElevenModel", "pendingPlace", "[I", true)
  | 91 => ("SchemeElevenModel", "pendingLevel", "[I", true)
  | 92 => ("SchemeElevenModel", "pendingAt", "[I", true)
  | 93 => ("SchemeElevenModel", "pendings", "I", false)
  | 94 => ("SchemeElevenModel", "names", "[I", true)
  | 95 => ("SchemeElevenModel", "nameMany", "I", false)
  | 96 => ("SchemeElevenModel", "hasOthers", "Z", false)
  | 97 => ("SchemeElevenModel", "waitingDatum", "[I", true)
  | 98 => ("SchemeElevenModel", "waitingPlace", "[I", true)
  | 99 => ("SchemeElevenModel", "formAt", "[I", true)
  | 100 => ("SchemeElevenModel", "formMany", "I", false)
  | 101 => ("SchemeElevenModel", "nextForm", "I", false)
  | 102 => ("SchemeElevenModel", "begun", "Z", false)
  | 103 => ("SchemeElevenModel", "doneForms", "I", false)
  | 104 => ("SchemeElevenModel", "error", "I", false)
  | 105 => ("SchemeElevenModel", "formStart", "[I", true)
  | 106 => ("SchemeElevenModel", "formCount", "I", false)
  | 107 => ("SchemeElevenModel", "keptFrom", "I", false)
  | 108 => ("SchemeElevenModel", "keptMany", "I", false)
  | 109 => ("SchemeElevenModel", "savedData", "[[I", true)
  | 110 => ("SchemeElevenModel", "dataRows", "[[I", true)
  | 111 => ("SchemeElevenModel", "savedName", "[I", true)
  | 112 => ("SchemeElevenModel", "savedRules", "[I", true)
  | _ => ("SchemeElevenModel", "starter", "[I", true)
def tyX12 : Nat → FieldType := fun k => match k with
  | 0 => .array (.array .int)
  | 1 => .array (.array .int)
  | 2 => .array (.array .int)
  | 3 => .int
  | 4 => .int
  | 5 => .int
  | 6 => .boolean
  | 7 => .int
  | 8 => .int
  | 9 => .int
  | 10 => .int
  | 11 => .int
  | 12 => .int
  | 13 => .array .boolean
  | 14 => .array .boolean
  | 15 => .array .int
  | 16 => .array .int
  | 17 => .int
  | 18 => .boolean
  | 19 => .array .int
  | 20 => .int
  | 21 => .int
  | 22 => .array .int
  | 23 => .int
  | 24 => .array .int
  | 25 => .int
  | 26 => .int
  | 27 => .array .int
  | 28 => .int
  | 29 => .int
  | 30 => .boolean
  | 31 => .array .int
  | 32 => .int
  | 33 => .array .int
  | 34 => .array .int
  | 35 => .array .int
  | 36 => .array .int
  | 37 => .array .int
  | 38 => .array .int
  | 39 => .int
  | 40 => .int
  | 41 => .int
  | 42 => .array .int
  | 43 => .array .int
  | 44 => .array .int
  | 45 => .int
  | 46 => .array .int
  | 47 => .int
  | 48 => .int
  | 49 => .int
  | 50 => .array .int
  | 51 => .int
  | 52 => .array .int
  | 53 => .array .int
  | 54 => .array .int
  | 55 => .array .int
  | 56 => .int
  | 57 => .array .int
  | 58 => .array .int
  | 59 => .array .int
  | 60 => .int
  | 61 => .array .int
  | 62 => .array .int
  | 63 => .array .int
  | 64 => .int
  | 65 => .array .int
  | 66 => .array .int
  | 67 => .int
  | 68 => .int
  | 69 => .array .int
  | 70 => .array .int
  | 71 => .int
  | 72 => .int
  | 73 => .int
  | 74 => .array .int
  | 75 => .array .int
  | 76 => .int
  | 77 => .int
  | 78 => .array .int
  | 79 => .int
  | 80 => .int
  | 81 => .int
  | 82 => .int
  | 83 => .int
  | 84 => .int
  | 85 => .int
  | 86 => .int
  | 87 => .array .int
  | 88 => .array .int
  | 89 => .array .int
  | 90 => .array .int
  | 91 => .array .int
  | 92 => .array .int
  | 93 => .int
  | 94 => .array .int
  | 95 => .int
  | 96 => .boolean
  | 97 => .array .int
  | 98 => .array .int
  | 99 => .array .int
  | 100 => .int
  | 101 => .int
  | 102 => .boolean
  | 103 => .int
  | 104 => .int
  | 105 => .array .int
  | 106 => .int
  | 107 => .int
  | 108 => .int
  | 109 => .array (.array .int)
  | 110 => .array (.array .int)
  | 111 => .array .int
  | 112 => .array .int
  | _ => .array .int
theorem nmX12 : ∀ a, a < 114 → ∀ b, b < 114 → a ≠ b → (TX12 a).2.1 ≠ (TX12 b).2.1 := by decide +kernel
theorem tyX12_ok : ∀ k, k < 114 → parseFieldDescriptor (TX12 k).2.2.1 = some (tyX12 k) := by decide +kernel
abbrev vwCl : List vw_C := [(RX0, TX0, 14), (RX1, TX1, 7), (RX2, TX2, 10), (RX3, TX3, 7), (RX4, TX4, 19), (RX5, TX5, 10), (RX6, TX6, 15), (RX7, TX7, 15), (RX8, TX8, 9), (RX9, TX9, 11), (RX10, TX10, 9), (RX11, TX11, 18), (RX12, TX12, 114)]
/-! the tables' good words -/
noncomputable def zTw : List Cond := lw_tbl.filter goodWord
theorem zTw_of {w : Cond} (h : w ∈ lw_tbl) (hg : goodWord w = true) : w ∈ zTw := List.mem_filter.mpr ⟨h, hg⟩
theorem zTw_gd : zGd zTw := fun w h => good_of_word (List.mem_filter.mp h).2
theorem zt_in_1 {w : Cond} (h : w ∈ tables_1_1) : w ∈ lw_tbl := List.mem_append_right _ (show w ∈ tables_1 from List.mem_append_left _ h)
theorem zt_in_2 {w : Cond} (h : w ∈ tables_1_2) : w ∈ lw_tbl := List.mem_append_right _ (show w ∈ tables_1 from List.mem_append_right _ (List.mem_append_left _ h))
theorem zt_in_3 {w : Cond} (h : w ∈ tables_1_3) : w ∈ lw_tbl := List.mem_append_right _ (show w ∈ tables_1 from List.mem_append_right _ (List.mem_append_right _ (List.mem_append_left _ h)))
theorem zt_in_4 {w : Cond} (h : w ∈ tables_1_4) : w ∈ lw_tbl := List.mem_append_right _ (show w ∈ tables_1 from List.mem_append_right _ (List.mem_append_right _ (List.mem_append_right _ (List.mem_append_left _ h))))
theorem zt_in_5 {w : Cond} (h : w ∈ tables_1_5) : w ∈ lw_tbl := List.mem_append_right _ (show w ∈ tables_1 from List.mem_append_right _ (List.mem_append_right _ (List.mem_append_right _ (List.mem_append_right _ (List.mem_append_left _ h)))))
theorem zt_in_6 {w : Cond} (h : w ∈ tables_1_6) : w ∈ lw_tbl := List.mem_append_right _ (show w ∈ tables_1 from List.mem_append_right _ (List.mem_append_right _ (List.mem_append_right _ (List.mem_append_right _ (List.mem_append_right _ (List.mem_append_left _ h))))))
theorem zt_in_7 {w : Cond} (h : w ∈ tables_1_7) : w ∈ lw_tbl := List.mem_append_right _ (show w ∈ tables_1 from List.mem_append_right _ (List.mem_append_right _ (List.mem_append_right _ (List.mem_append_right _ (List.mem_append_right _ (List.mem_append_right _ (List.mem_append_left _ h)))))))
theorem zt_in_8 {w : Cond} (h : w ∈ tables_1_8) : w ∈ lw_tbl := List.mem_append_right _ (show w ∈ tables_1 from List.mem_append_right _ (List.mem_append_right _ (List.mem_append_right _ (List.mem_append_right _ (List.mem_append_right _ (List.mem_append_right _ (List.mem_append_right _ (List.mem_append_left _ h))))))))
theorem zt_in_9 {w : Cond} (h : w ∈ tables_1_9) : w ∈ lw_tbl := List.mem_append_right _ (show w ∈ tables_1 from List.mem_append_right _ (List.mem_append_right _ (List.mem_append_right _ (List.mem_append_right _ (List.mem_append_right _ (List.mem_append_right _ (List.mem_append_right _ (List.mem_append_right _ (List.mem_append_left _ h)))))))))
theorem zt_in_10 {w : Cond} (h : w ∈ tables_1_10) : w ∈ lw_tbl := List.mem_append_right _ (show w ∈ tables_1 from List.mem_append_right _ (List.mem_append_right _ (List.mem_append_right _ (List.mem_append_right _ (List.mem_append_right _ (List.mem_append_right _ (List.mem_append_right _ (List.mem_append_right _ (List.mem_append_right _ (List.mem_append_left _ h))))))))))
theorem zt_in_11 {w : Cond} (h : w ∈ tables_1_11) : w ∈ lw_tbl := List.mem_append_right _ (show w ∈ tables_1 from List.mem_append_right _ (List.mem_append_right _ (List.mem_append_right _ (List.mem_append_right _ (List.mem_append_right _ (List.mem_append_right _ (List.mem_append_right _ (List.mem_append_right _ (List.mem_append_right _ (List.mem_append_right _ (List.mem_append_left _ h)))))))))))
theorem zt_in_12 {w : Cond} (h : w ∈ tables_1_12) : w ∈ lw_tbl := List.mem_append_right _ (show w ∈ tables_1 from List.mem_append_right _ (List.mem_append_right _ (List.mem_append_right _ (List.mem_append_right _ (List.mem_append_right _ (List.mem_append_right _ (List.mem_append_right _ (List.mem_append_right _ (List.mem_append_right _ (List.mem_append_right _ (List.mem_append_right _ (h))))))))))))
theorem zv_in_1 {y : MethodName} {n : Nat} (h : (y, n) ∈ lw_privs_1) : Cond.selects y.cls y y ∈ zTw := zTw_of (List.mem_append_left _ (List.mem_map.mpr ⟨(y, n), (show (y, n) ∈ lw_privs from List.mem_append_left _ h), rfl⟩)) rfl
theorem zv_in_2 {y : MethodName} {n : Nat} (h : (y, n) ∈ lw_privs_2) : Cond.selects y.cls y y ∈ zTw := zTw_of (List.mem_append_left _ (List.mem_map.mpr ⟨(y, n), (show (y, n) ∈ lw_privs from List.mem_append_right _ (List.mem_append_left _ h)), rfl⟩)) rfl
theorem zv_in_3 {y : MethodName} {n : Nat} (h : (y, n) ∈ lw_privs_3) : Cond.selects y.cls y y ∈ zTw := zTw_of (List.mem_append_left _ (List.mem_map.mpr ⟨(y, n), (show (y, n) ∈ lw_privs from List.mem_append_right _ (List.mem_append_right _ (List.mem_append_left _ h))), rfl⟩)) rfl
theorem zv_in_4 {y : MethodName} {n : Nat} (h : (y, n) ∈ lw_privs_4) : Cond.selects y.cls y y ∈ zTw := zTw_of (List.mem_append_left _ (List.mem_map.mpr ⟨(y, n), (show (y, n) ∈ lw_privs from List.mem_append_right _ (List.mem_append_right _ (List.mem_append_right _ (List.mem_append_left _ h)))), rfl⟩)) rfl
theorem zv_in_5 {y : MethodName} {n : Nat} (h : (y, n) ∈ lw_privs_5) : Cond.selects y.cls y y ∈ zTw := zTw_of (List.mem_append_left _ (List.mem_map.mpr ⟨(y, n), (show (y, n) ∈ lw_privs from List.mem_append_right _ (List.mem_append_right _ (List.mem_append_right _ (List.mem_append_right _ (List.mem_append_left _ h))))), rfl⟩)) rfl
theorem zv_in_6 {y : MethodName} {n : Nat} (h : (y, n) ∈ lw_privs_6) : Cond.selects y.cls y y ∈ zTw := zTw_of (List.mem_append_left _ (List.mem_map.mpr ⟨(y, n), (show (y, n) ∈ lw_privs from List.mem_append_right _ (List.mem_append_right _ (List.mem_append_right _ (List.mem_append_right _ (List.mem_append_right _ (List.mem_append_left _ h)))))), rfl⟩)) rfl
theorem zv_in_7 {y : MethodName} {n : Nat} (h : (y, n) ∈ lw_privs_7) : Cond.selects y.cls y y ∈ zTw := zTw_of (List.mem_append_left _ (List.mem_map.mpr ⟨(y, n), (show (y, n) ∈ lw_privs from List.mem_append_right _ (List.mem_append_right _ (List.mem_append_right _ (List.mem_append_right _ (List.mem_append_right _ (List.mem_append_right _ (List.mem_append_left _ h))))))), rfl⟩)) rfl
theorem zv_in_8 {y : MethodName} {n : Nat} (h : (y, n) ∈ lw_privs_8) : Cond.selects y.cls y y ∈ zTw := zTw_of (List.mem_append_left _ (List.mem_map.mpr ⟨(y, n), (show (y, n) ∈ lw_privs from List.mem_append_right _ (List.mem_append_right _ (List.mem_append_right _ (List.mem_append_right _ (List.mem_append_right _ (List.mem_append_right _ (List.mem_append_right _ (List.mem_append_left _ h)))))))), rfl⟩)) rfl
theorem zv_in_9 {y : MethodName} {n : Nat} (h : (y, n) ∈ lw_privs_9) : Cond.selects y.cls y y ∈ zTw := zTw_of (List.mem_append_left _ (List.mem_map.mpr ⟨(y, n), (show (y, n) ∈ lw_privs from List.mem_append_right _ (List.mem_append_right _ (List.mem_append_right _ (List.mem_append_right _ (List.mem_append_right _ (List.mem_append_right _ (List.mem_append_right _ (List.mem_append_right _ (List.mem_append_left _ h))))))))), rfl⟩)) rfl
theorem zv_in_10 {y : MethodName} {n : Nat} (h : (y, n) ∈ lw_privs_10) : Cond.selects y.cls y y ∈ zTw := zTw_of (List.mem_append_left _ (List.mem_map.mpr ⟨(y, n), (show (y, n) ∈ lw_privs from List.mem_append_right _ (List.mem_append_right _ (List.mem_append_right _ (List.mem_append_right _ (List.mem_append_right _ (List.mem_append_right _ (List.mem_append_right _ (List.mem_append_right _ (List.mem_append_right _ (List.mem_append_left _ h)))))))))), rfl⟩)) rfl
theorem zv_in_11 {y : MethodName} {n : Nat} (h : (y, n) ∈ lw_privs_11) : Cond.selects y.cls y y ∈ zTw := zTw_of (List.mem_append_left _ (List.mem_map.mpr ⟨(y, n), (show (y, n) ∈ lw_privs from List.mem_append_right _ (List.mem_append_right _ (List.mem_append_right _ (List.mem_append_right _ (List.mem_append_right _ (List.mem_append_right _ (List.mem_append_right _ (List.mem_append_right _ (List.mem_append_right _ (List.mem_append_right _ (List.mem_append_left _ h))))))))))), rfl⟩)) rfl
theorem zv_in_12 {y : MethodName} {n : Nat} (h : (y, n) ∈ lw_privs_12) : Cond.selects y.cls y y ∈ zTw := zTw_of (List.mem_append_left _ (List.mem_map.mpr ⟨(y, n), (show (y, n) ∈ lw_privs from List.mem_append_right _ (List.mem_append_right _ (List.mem_append_right _ (List.mem_append_right _ (List.mem_append_right _ (List.mem_append_right _ (List.mem_append_right _ (List.mem_append_right _ (List.mem_append_right _ (List.mem_append_right _ (List.mem_append_right _ (List.mem_append_left _ h)))))))))))), rfl⟩)) rfl
theorem zv_in_13 {y : MethodName} {n : Nat} (h : (y, n) ∈ lw_privs_13) : Cond.selects y.cls y y ∈ zTw := zTw_of (List.mem_append_left _ (List.mem_map.mpr ⟨(y, n), (show (y, n) ∈ lw_privs from List.mem_append_right _ (List.mem_append_right _ (List.mem_append_right _ (List.mem_append_right _ (List.mem_append_right _ (List.mem_append_right _ (List.mem_append_right _ (List.mem_append_right _ (List.mem_append_right _ (List.mem_append_right _ (List.mem_append_right _ (List.mem_append_right _ (List.mem_append_left _ h))))))))))))), rfl⟩)) rfl
theorem zv_in_14 {y : MethodName} {n : Nat} (h : (y, n) ∈ lw_privs_14) : Cond.selects y.cls y y ∈ zTw := zTw_of (List.mem_append_left _ (List.mem_map.mpr ⟨(y, n), (show (y, n) ∈ lw_privs from List.mem_append_right _ (List.mem_append_right _ (List.mem_append_right _ (List.mem_append_right _ (List.mem_append_right _ (List.mem_append_right _ (List.mem_append_right _ (List.mem_append_right _ (List.mem_append_right _ (List.mem_append_right _ (List.mem_append_right _ (List.mem_append_right _ (List.mem_append_right _ (List.mem_append_left _ h)))))))))))))), rfl⟩)) rfl
theorem zv_in_15 {y : MethodName} {n : Nat} (h : (y, n) ∈ lw_privs_15) : Cond.selects y.cls y y ∈ zTw := zTw_of (List.mem_append_left _ (List.mem_map.mpr ⟨(y, n), (show (y, n) ∈ lw_privs from List.mem_append_right _ (List.mem_append_right _ (List.mem_append_right _ (List.mem_append_right _ (List.mem_append_right _ (List.mem_append_right _ (List.mem_append_right _ (List.mem_append_right _ (List.mem_append_right _ (List.mem_append_right _ (List.mem_append_right _ (List.mem_append_right _ (List.mem_append_right _ (List.mem_append_right _ (List.mem_append_left _ h))))))))))))))), rfl⟩)) rfl
theorem zv_in_16 {y : MethodName} {n : Nat} (h : (y, n) ∈ lw_privs_16) : Cond.selects y.cls y y ∈ zTw := zTw_of (List.mem_append_left _ (List.mem_map.mpr ⟨(y, n), (show (y, n) ∈ lw_privs from List.mem_append_right _ (List.mem_append_right _ (List.mem_append_right _ (List.mem_append_right _ (List.mem_append_right _ (List.mem_append_right _ (List.mem_append_right _ (List.mem_append_right _ (List.mem_append_right _ (List.mem_append_right _ (List.mem_append_right _ (List.mem_append_right _ (List.mem_append_right _ (List.mem_append_right _ (List.mem_append_right _ (List.mem_append_left _ h)))))))))))))))), rfl⟩)) rfl
theorem zv_in_17 {y : MethodName} {n : Nat} (h : (y, n) ∈ lw_privs_17) : Cond.selects y.cls y y ∈ zTw := zTw_of (List.mem_append_left _ (List.mem_map.mpr ⟨(y, n), (show (y, n) ∈ lw_privs from List.mem_append_right _ (List.mem_append_right _ (List.mem_append_right _ (List.mem_append_right _ (List.mem_append_right _ (List.mem_append_right _ (List.mem_append_right _ (List.mem_append_right _ (List.mem_append_right _ (List.mem_append_right _ (List.mem_append_right _ (List.mem_append_right _ (List.mem_append_right _ (List.mem_append_right _ (List.mem_append_right _ (List.mem_append_right _ (List.mem_append_left _ h))))))))))))))))), rfl⟩)) rfl
theorem zv_in_18 {y : MethodName} {n : Nat} (h : (y, n) ∈ lw_privs_18) : Cond.selects y.cls y y ∈ zTw := zTw_of (List.mem_append_left _ (List.mem_map.mpr ⟨(y, n), (show (y, n) ∈ lw_privs from List.mem_append_right _ (List.mem_append_right _ (List.mem_append_right _ (List.mem_append_right _ (List.mem_append_right _ (List.mem_append_right _ (List.mem_append_right _ (List.mem_append_right _ (List.mem_append_right _ (List.mem_append_right _ (List.mem_append_right _ (List.mem_append_right _ (List.mem_append_right _ (List.mem_append_right _ (List.mem_append_right _ (List.mem_append_right _ (List.mem_append_right _ (h)))))))))))))))))), rfl⟩)) rfl
theorem w_0 : Cond.methodLink "java/lang/String" 495 ⟨"java/lang/StringLatin1", "charAt", "([BI)C"⟩ ∈ zTw := zTw_of (zt_in_3 (List.mem_of_getElem? (i := 112) rfl)) rfl
theorem w_1 : Cond.code ⟨"java/lang/StringLatin1", "charAt", "([BI)C"⟩ prog_18_method_2_code 2 (some FieldType.char) ∈ zTw := zTw_of (zt_in_3 (List.mem_of_getElem? (i := 114) rfl)) rfl
theorem w_2 : Cond.initialized "java/lang/StringLatin1" ∈ zTw := zTw_of (zt_in_1 (List.mem_of_getElem? (i := 16) rfl)) rfl
theorem w_3 : Cond.static ⟨"java/lang/StringLatin1", "charAt", "([BI)C"⟩ ∈ zTw := zTw_of (zt_in_3 (List.mem_of_getElem? (i := 113) rfl)) rfl
theorem w_4 : Cond.fieldLink "java/lang/String" 9 "java/lang/String" "value" "[B" ∈ zTw := zTw_of (zt_in_12 (List.mem_of_getElem? (i := 192) rfl)) rfl
theorem w_5 : Cond.methodLink "java/lang/String" 492 ⟨"java/lang/String", "isLatin1", "()Z"⟩ ∈ zTw := zTw_of (zt_in_3 (List.mem_of_getElem? (i := 108) rfl)) rfl
theorem w_6 : Cond.code ⟨"java/lang/String", "isLatin1", "()Z"⟩ prog_17_method_154_code 1 (some FieldType.boolean) ∈ zTw := zTw_of (zt_in_3 (List.mem_of_getElem? (i := 111) rfl)) rfl
theorem w_7 : Cond.initialized "java/lang/String" ∈ zTw := zTw_of (zt_in_1 (List.mem_of_getElem? (i := 15) rfl)) rfl
theorem w_8 : Cond.instanceMethod ⟨"java/lang/String", "isLatin1", "()Z"⟩ ∈ zTw := zTw_of (zt_in_3 (List.mem_of_getElem? (i := 109) rfl)) rfl
theorem w_9 : Cond.selects "java/lang/String" ⟨"java/lang/String", "isLatin1", "()Z"⟩ ⟨"java/lang/String", "isLatin1", "()Z"⟩ ∈ zTw := zTw_of (zt_in_3 (List.mem_of_getElem? (i := 110) rfl)) rfl
theorem w_10 : Cond.fieldLink "java/lang/String" 15 "java/lang/String" "coder" "B" ∈ zTw := zTw_of (zt_in_12 (List.mem_of_getElem? (i := 193) rfl)) rfl
theorem w_11 : Cond.fieldLink "java/lang/String" 38 "java/lang/String" "COMPACT_STRINGS" "Z" ∈ zTw := zTw_of (zt_in_3 (List.mem_of_getElem? (i := 102) rfl)) rfl
theorem w_12 : Cond.methodLink "java/lang/String" 633 ⟨"java/lang/String", "indexOf", "(II)I"⟩ ∈ zTw := zTw_of (zt_in_9 (List.mem_of_getElem? (i := 134) rfl)) rfl
theorem w_13 : Cond.code ⟨"java/lang/String", "indexOf", "(II)I"⟩ prog_17_method_80_code 3 (some FieldType.int) ∈ zTw := zTw_of (zt_in_9 (List.mem_of_getElem? (i := 137) rfl)) rfl
theorem w_14 : Cond.instanceMethod ⟨"java/lang/String", "indexOf", "(II)I"⟩ ∈ zTw := zTw_of (zt_in_9 (List.mem_of_getElem? (i := 135) rfl)) rfl
theorem w_15 : Cond.selects "java/lang/String" ⟨"java/lang/String", "indexOf", "(II)I"⟩ ⟨"java/lang/String", "indexOf", "(II)I"⟩ ∈ zTw := zTw_of (zt_in_9 (List.mem_of_getElem? (i := 136) rfl)) rfl
theorem w_16 : Cond.methodLink "java/lang/String" 637 ⟨"java/lang/StringLatin1", "indexOf", "([BIII)I"⟩ ∈ zTw := zTw_of (zt_in_9 (List.mem_of_getElem? (i := 139) rfl)) rfl
theorem w_17 : Cond.code ⟨"java/lang/StringLatin1", "indexOf", "([BIII)I"⟩ prog_18_method_22_code 4 (some FieldType.int) ∈ zTw := zTw_of (zt_in_9 (List.mem_of_getElem? (i := 141) rfl)) rfl
theorem w_18 : Cond.static ⟨"java/lang/StringLatin1", "indexOf", "([BIII)I"⟩ ∈ zTw := zTw_of (zt_in_9 (List.mem_of_getElem? (i := 140) rfl)) rfl
theorem w_19 : Cond.methodLink "java/lang/String" 505 ⟨"java/lang/String", "length", "()I"⟩ ∈ zTw := zTw_of (zt_in_9 (List.mem_of_getElem? (i := 138) rfl)) rfl
theorem w_20 : Cond.code ⟨"java/lang/String", "length", "()I"⟩ prog_17_method_54_code 1 (some FieldType.int) ∈ zTw := zTw_of (zt_in_3 (List.mem_of_getElem? (i := 97) rfl)) rfl
theorem w_21 : Cond.instanceMethod ⟨"java/lang/String", "length", "()I"⟩ ∈ zTw := zTw_of (zt_in_3 (List.mem_of_getElem? (i := 95) rfl)) rfl
theorem w_22 : Cond.selects "java/lang/String" ⟨"java/lang/String", "length", "()I"⟩ ⟨"java/lang/String", "length", "()I"⟩ ∈ zTw := zTw_of (zt_in_3 (List.mem_of_getElem? (i := 96) rfl)) rfl
theorem w_23 : Cond.methodLink "java/lang/String" 335 ⟨"java/lang/String", "coder", "()B"⟩ ∈ zTw := zTw_of (zt_in_3 (List.mem_of_getElem? (i := 98) rfl)) rfl
theorem w_24 : Cond.code ⟨"java/lang/String", "coder", "()B"⟩ prog_17_method_152_code 1 (some FieldType.byte) ∈ zTw := zTw_of (zt_in_3 (List.mem_of_getElem? (i := 101) rfl)) rfl
theorem w_25 : Cond.instanceMethod ⟨"java/lang/String", "coder", "()B"⟩ ∈ zTw := zTw_of (zt_in_3 (List.mem_of_getElem? (i := 99) rfl)) rfl
theorem w_26 : Cond.selects "java/lang/String" ⟨"java/lang/String", "coder", "()B"⟩ ⟨"java/lang/String", "coder", "()B"⟩ ∈ zTw := zTw_of (zt_in_3 (List.mem_of_getElem? (i := 100) rfl)) rfl
theorem w_27 : Cond.methodLink "java/lang/StringLatin1" 9 ⟨"java/lang/String", "checkIndex", "(II)V"⟩ ∈ zTw := zTw_of (zt_in_3 (List.mem_of_getElem? (i := 115) rfl)) rfl
theorem w_28 : Cond.methodLink "java/lang/StringLatin1" 95 ⟨"java/lang/StringLatin1", "indexOfChar", "([BIII)I"⟩ ∈ zTw := zTw_of (zt_in_9 (List.mem_of_getElem? (i := 147) rfl)) rfl
theorem w_29 : Cond.code ⟨"java/lang/StringLatin1", "indexOfChar", "([BIII)I"⟩ prog_18_method_23_code 6 (some FieldType.int) ∈ zTw := zTw_of (zt_in_9 (List.mem_of_getElem? (i := 149) rfl)) rfl
theorem w_30 : Cond.static ⟨"java/lang/StringLatin1", "indexOfChar", "([BIII)I"⟩ ∈ zTw := zTw_of (zt_in_9 (List.mem_of_getElem? (i := 148) rfl)) rfl
theorem w_31 : Cond.methodLink "java/lang/StringLatin1" 38 ⟨"java/lang/Math", "min", "(II)I"⟩ ∈ zTw := zTw_of (zt_in_9 (List.mem_of_getElem? (i := 146) rfl)) rfl
theorem w_32 : Cond.static ⟨"java/lang/Math", "min", "(II)I"⟩ ∈ zTw := zTw_of (zt_in_3 (List.mem_of_getElem? (i := 150) rfl)) rfl
theorem w_33 : Cond.initialized "java/lang/Math" ∈ zTw := zTw_of (zt_in_1 (List.mem_of_getElem? (i := 3) rfl)) rfl
theorem w_34 : Cond.code ⟨"java/lang/Math", "min", "(II)I"⟩ prog_16_method_69_code 2 (some FieldType.int) ∈ zTw := zTw_of (zt_in_3 (List.mem_of_getElem? (i := 151) rfl)) rfl
theorem w_35 : Cond.methodLink "java/lang/StringLatin1" 92 ⟨"java/lang/Math", "max", "(II)I"⟩ ∈ zTw := zTw_of (zt_in_9 (List.mem_of_getElem? (i := 145) rfl)) rfl
theorem w_36 : Cond.static ⟨"java/lang/Math", "max", "(II)I"⟩ ∈ zTw := zTw_of (zt_in_1 (List.mem_of_getElem? (i := 37) rfl)) rfl
theorem w_37 : Cond.code ⟨"java/lang/Math", "max", "(II)I"⟩ prog_16_method_65_code 2 (some FieldType.int) ∈ zTw := zTw_of (zt_in_1 (List.mem_of_getElem? (i := 38) rfl)) rfl
theorem w_38 : Cond.methodLink "java/lang/StringLatin1" 88 ⟨"java/lang/StringLatin1", "canEncode", "(I)Z"⟩ ∈ zTw := zTw_of (zt_in_9 (List.mem_of_getElem? (i := 142) rfl)) rfl
theorem w_39 : Cond.code ⟨"java/lang/StringLatin1", "canEncode", "(I)Z"⟩ prog_18_method_4_code 1 (some FieldType.boolean) ∈ zTw := zTw_of (zt_in_9 (List.mem_of_getElem? (i := 144) rfl)) rfl
theorem w_40 : Cond.static ⟨"java/lang/StringLatin1", "canEncode", "(I)Z"⟩ ∈ zTw := zTw_of (zt_in_9 (List.mem_of_getElem? (i := 143) rfl)) rfl
theorem w_41 : Cond.methodLink "SchemeEleven$Coder" 39 ⟨"SchemeEleven$Spreader", "begin", "()V"⟩ ∈ zTw := zTw_of (zt_in_4 (List.mem_of_getElem? (i := 46) rfl)) rfl
theorem w_42 : Cond.code ⟨"SchemeEleven$Spreader", "begin", "()V"⟩ prog_11_method_2_code 1 none ∈ zTw := zTw_of (zt_in_4 (List.mem_of_getElem? (i := 49) rfl)) rfl
theorem w_43 : Cond.initialized "SchemeEleven$Spreader" ∈ zTw := zTw_of (zt_in_1 (List.mem_of_getElem? (i := 12) rfl)) rfl
theorem w_44 : Cond.instanceMethod ⟨"SchemeEleven$Spreader", "begin", "()V"⟩ ∈ zTw := zTw_of (zt_in_4 (List.mem_of_getElem? (i := 47) rfl)) rfl
theorem w_45 : Cond.selects "SchemeEleven$Spreader" ⟨"SchemeEleven$Spreader", "begin", "()V"⟩ ⟨"SchemeEleven$Spreader", "begin", "()V"⟩ ∈ zTw := zTw_of (zt_in_4 (List.mem_of_getElem? (i := 48) rfl)) rfl
theorem w_46 : Cond.fieldLink "SchemeEleven$Coder" 35 "SchemeEleven$Coder" "spreader" "LSchemeEleven$Spreader;" ∈ zTw := zTw_of (zt_in_3 (List.mem_of_getElem? (i := 1) rfl)) rfl
theorem w_47 : Cond.methodLink "SchemeEleven$Coder" 55 ⟨"SchemeEleven$Coder", "push", "(IIIII)V"⟩ ∈ zTw := zTw_of (zt_in_4 (List.mem_of_getElem? (i := 58) rfl)) rfl
theorem w_48 : Cond.code ⟨"SchemeEleven$Coder", "push", "(IIIII)V"⟩ prog_2_method_6_code 7 none ∈ zTw := zTw_of (zt_in_4 (List.mem_of_getElem? (i := 61) rfl)) rfl
theorem w_49 : Cond.initialized "SchemeEleven$Coder" ∈ zTw := zTw_of (zt_in_1 (List.mem_of_getElem? (i := 11) rfl)) rfl
theorem w_50 : Cond.instanceMethod ⟨"SchemeEleven$Coder", "push", "(IIIII)V"⟩ ∈ zTw := zTw_of (zt_in_4 (List.mem_of_getElem? (i := 60) rfl)) rfl
theorem w_51 : Cond.fieldLink "SchemeEleven$Coder" 52 "SchemeEleven$Coder" "scope" "I" ∈ zTw := zTw_of (zt_in_3 (List.mem_of_getElem? (i := 9) rfl)) rfl
theorem w_52 : Cond.fieldLink "SchemeEleven$Coder" 49 "SchemeEleven$Coder" "lambdaCount" "I" ∈ zTw := zTw_of (zt_in_3 (List.mem_of_getElem? (i := 6) rfl)) rfl
theorem w_53 : Cond.fieldLink "SchemeEleven$Coder" 46 "SchemeEleven$Coder" "firstLambda" "I" ∈ zTw := zTw_of (zt_in_3 (List.mem_of_getElem? (i := 5) rfl)) rfl
theorem w_54 : Cond.fieldLink "SchemeEleven$Coder" 42 "SchemeEleven$Coder" "top" "I" ∈ zTw := zTw_of (zt_in_3 (List.mem_of_getElem? (i := 3) rfl)) rfl
theorem w_55 : Cond.methodLink "SchemeEleven$Coder" 119 ⟨"SchemeEleven$Coder", "emit", "(I)V"⟩ ∈ zTw := zTw_of (zt_in_4 (List.mem_of_getElem? (i := 126) rfl)) rfl
theorem w_56 : Cond.code ⟨"SchemeEleven$Coder", "emit", "(I)V"⟩ prog_2_method_10_code 2 none ∈ zTw := zTw_of (zt_in_4 (List.mem_of_getElem? (i := 129) rfl)) rfl
theorem w_57 : Cond.instanceMethod ⟨"SchemeEleven$Coder", "emit", "(I)V"⟩ ∈ zTw := zTw_of (zt_in_4 (List.mem_of_getElem? (i := 128) rfl)) rfl
theorem w_58 : Cond.constant "SchemeEleven$Coder" 190 (34820 : Int32) ∈ zTw := zTw_of (zt_in_4 (List.mem_of_getElem? (i := 171) rfl)) rfl
theorem w_59 : Cond.methodLink "SchemeEleven$Coder" 186 ⟨"SchemeEleven$Coder", "inTail", "()Z"⟩ ∈ zTw := zTw_of (zt_in_4 (List.mem_of_getElem? (i := 167) rfl)) rfl
theorem w_60 : Cond.code ⟨"SchemeEleven$Coder", "inTail", "()Z"⟩ prog_2_method_8_code 1 (some FieldType.boolean) ∈ zTw := zTw_of (zt_in_4 (List.mem_of_getElem? (i := 170) rfl)) rfl
theorem w_61 : Cond.instanceMethod ⟨"SchemeEleven$Coder", "inTail", "()Z"⟩ ∈ zTw := zTw_of (zt_in_4 (List.mem_of_getElem? (i := 169) rfl)) rfl
theorem w_62 : Cond.fieldLink "SchemeEleven$Coder" 73 "SchemeEleven$Coder" "flags" "I" ∈ zTw := zTw_of (zt_in_3 (List.mem_of_getElem? (i := 10) rfl)) rfl
theorem w_63 : Cond.methodLink "SchemeEleven$Coder" 235 ⟨"SchemeEleven$Coder", "third", "()I"⟩ ∈ zTw := zTw_of (zt_in_4 (List.mem_of_getElem? (i := 214) rfl)) rfl
theorem w_64 : Cond.code ⟨"SchemeEleven$Coder", "third", "()I"⟩ prog_2_method_15_code 1 (some FieldType.int) ∈ zTw := zTw_of (zt_in_4 (List.mem_of_getElem? (i := 217) rfl)) rfl
theorem w_65 : Cond.instanceMethod ⟨"SchemeEleven$Coder", "third", "()I"⟩ ∈ zTw := zTw_of (zt_in_4 (List.mem_of_getElem? (i := 216) rfl)) rfl
theorem w_66 : Cond.fieldLink "SchemeEleven$Coder" 67 "SchemeEleven$Coder" "datum" "I" ∈ zTw := zTw_of (zt_in_3 (List.mem_of_getElem? (i := 7) rfl)) rfl
theorem w_67 : Cond.methodLink "SchemeEleven$Coder" 250 ⟨"SchemeEleven$Text", "hasAlias", "(I)Z"⟩ ∈ zTw := zTw_of (zt_in_5 (List.mem_of_getElem? (i := 0) rfl)) rfl
theorem w_68 : Cond.code ⟨"SchemeEleven$Text", "hasAlias", "(I)Z"⟩ prog_12_method_23_code 2 (some FieldType.boolean) ∈ zTw := zTw_of (zt_in_5 (List.mem_of_getElem? (i := 3) rfl)) rfl
theorem w_69 : Cond.initialized "SchemeEleven$Text" ∈ zTw := zTw_of (zt_in_1 (List.mem_of_getElem? (i := 8) rfl)) rfl
theorem w_70 : Cond.instanceMethod ⟨"SchemeEleven$Text", "hasAlias", "(I)Z"⟩ ∈ zTw := zTw_of (zt_in_5 (List.mem_of_getElem? (i := 1) rfl)) rfl
theorem w_71 : Cond.selects "SchemeEleven$Text" ⟨"SchemeEleven$Text", "hasAlias", "(I)Z"⟩ ⟨"SchemeEleven$Text", "hasAlias", "(I)Z"⟩ ∈ zTw := zTw_of (zt_in_5 (List.mem_of_getElem? (i := 2) rfl)) rfl
theorem w_72 : Cond.fieldLink "SchemeEleven$Coder" 18 "SchemeEleven$Coder" "text" "LSchemeEleven$Text;" ∈ zTw := zTw_of (zt_in_2 (List.mem_of_getElem? (i := 238) rfl)) rfl
theorem w_73 : Cond.methodLink "SchemeEleven$Coder" 247 ⟨"SchemeEleven$Text", "kind", "(I)I"⟩ ∈ zTw := zTw_of (zt_in_4 (List.mem_of_getElem? (i := 109) rfl)) rfl
theorem w_74 : Cond.code ⟨"SchemeEleven$Text", "kind", "(I)I"⟩ prog_12_method_6_code 2 (some FieldType.int) ∈ zTw := zTw_of (zt_in_4 (List.mem_of_getElem? (i := 112) rfl)) rfl
theorem w_75 : Cond.instanceMethod ⟨"SchemeEleven$Text", "kind", "(I)I"⟩ ∈ zTw := zTw_of (zt_in_4 (List.mem_of_getElem? (i := 110) rfl)) rfl
theorem w_76 : Cond.selects "SchemeEleven$Text" ⟨"SchemeEleven$Text", "kind", "(I)I"⟩ ⟨"SchemeEleven$Text", "kind", "(I)I"⟩ ∈ zTw := zTw_of (zt_in_4 (List.mem_of_getElem? (i := 111) rfl)) rfl
theorem w_77 : Cond.methodLink "SchemeEleven$Coder" 217 ⟨"SchemeEleven$Coder", "second", "()I"⟩ ∈ zTw := zTw_of (zt_in_4 (List.mem_of_getElem? (i := 77) rfl)) rfl
theorem w_78 : Cond.code ⟨"SchemeEleven$Coder", "second", "()I"⟩ prog_2_method_14_code 1 (some FieldType.int) ∈ zTw := zTw_of (zt_in_4 (List.mem_of_getElem? (i := 80) rfl)) rfl
theorem w_79 : Cond.instanceMethod ⟨"SchemeEleven$Coder", "second", "()I"⟩ ∈ zTw := zTw_of (zt_in_4 (List.mem_of_getElem? (i := 79) rfl)) rfl
theorem w_80 : Cond.methodLink "SchemeEleven$Coder" 197 ⟨"SchemeEleven$Text", "count", "(I)I"⟩ ∈ zTw := zTw_of (zt_in_4 (List.mem_of_getElem? (i := 143) rfl)) rfl
theorem w_81 : Cond.code ⟨"SchemeEleven$Text", "count", "(I)I"⟩ prog_12_method_20_code 4 (some FieldType.int) ∈ zTw := zTw_of (zt_in_4 (List.mem_of_getElem? (i := 146) rfl)) rfl
theorem w_82 : Cond.instanceMethod ⟨"SchemeEleven$Text", "count", "(I)I"⟩ ∈ zTw := zTw_of (zt_in_4 (List.mem_of_getElem? (i := 144) rfl)) rfl
theorem w_83 : Cond.selects "SchemeEleven$Text" ⟨"SchemeEleven$Text", "count", "(I)I"⟩ ⟨"SchemeEleven$Text", "count", "(I)I"⟩ ∈ zTw := zTw_of (zt_in_4 (List.mem_of_getElem? (i := 145) rfl)) rfl
theorem w_84 : Cond.methodLink "SchemeEleven$Coder" 214 ⟨"SchemeEleven$Scopes", "isMacro", "(I)Z"⟩ ∈ zTw := zTw_of (zt_in_5 (List.mem_of_getElem? (i := 32) rfl)) rfl
theorem w_85 : Cond.code ⟨"SchemeEleven$Scopes", "isMacro", "(I)Z"⟩ prog_9_method_11_code 2 (some FieldType.boolean) ∈ zTw := zTw_of (zt_in_5 (List.mem_of_getElem? (i := 35) rfl)) rfl
theorem w_86 : Cond.initialized "SchemeEleven$Scopes" ∈ zTw := zTw_of (zt_in_1 (List.mem_of_getElem? (i := 9) rfl)) rfl
theorem w_87 : Cond.instanceMethod ⟨"SchemeEleven$Scopes", "isMacro", "(I)Z"⟩ ∈ zTw := zTw_of (zt_in_5 (List.mem_of_getElem? (i := 33) rfl)) rfl
theorem w_88 : Cond.selects "SchemeEleven$Scopes" ⟨"SchemeEleven$Scopes", "isMacro", "(I)Z"⟩ ⟨"SchemeEleven$Scopes", "isMacro", "(I)Z"⟩ ∈ zTw := zTw_of (zt_in_5 (List.mem_of_getElem? (i := 34) rfl)) rfl
theorem w_89 : Cond.fieldLink "SchemeEleven$Coder" 26 "SchemeEleven$Coder" "scopes" "LSchemeEleven$Scopes;" ∈ zTw := zTw_of (zt_in_3 (List.mem_of_getElem? (i := 0) rfl)) rfl
theorem w_90 : Cond.methodLink "SchemeEleven$Coder" 211 ⟨"SchemeEleven$Scopes", "keywordOf", "(I)I"⟩ ∈ zTw := zTw_of (zt_in_5 (List.mem_of_getElem? (i := 28) rfl)) rfl
theorem w_91 : Cond.code ⟨"SchemeEleven$Scopes", "keywordOf", "(I)I"⟩ prog_9_method_14_code 2 (some FieldType.int) ∈ zTw := zTw_of (zt_in_5 (List.mem_of_getElem? (i := 31) rfl)) rfl
theorem w_92 : Cond.instanceMethod ⟨"SchemeEleven$Scopes", "keywordOf", "(I)I"⟩ ∈ zTw := zTw_of (zt_in_5 (List.mem_of_getElem? (i := 29) rfl)) rfl
theorem w_93 : Cond.selects "SchemeEleven$Scopes" ⟨"SchemeEleven$Scopes", "keywordOf", "(I)I"⟩ ⟨"SchemeEleven$Scopes", "keywordOf", "(I)I"⟩ ∈ zTw := zTw_of (zt_in_5 (List.mem_of_getElem? (i := 30) rfl)) rfl
theorem w_94 : Cond.methodLink "SchemeEleven$Coder" 207 ⟨"SchemeEleven$Coder", "meaningOfFirst", "()I"⟩ ∈ zTw := zTw_of (zt_in_5 (List.mem_of_getElem? (i := 24) rfl)) rfl
theorem w_95 : Cond.code ⟨"SchemeEleven$Coder", "meaningOfFirst", "()I"⟩ prog_2_method_16_code 2 (some FieldType.int) ∈ zTw := zTw_of (zt_in_5 (List.mem_of_getElem? (i := 27) rfl)) rfl
theorem w_96 : Cond.instanceMethod ⟨"SchemeEleven$Coder", "meaningOfFirst", "()I"⟩ ∈ zTw := zTw_of (zt_in_5 (List.mem_of_getElem? (i := 26) rfl)) rfl
theorem w_97 : Cond.methodLink "SchemeEleven$Coder" 174 ⟨"SchemeEleven$Image", "addWord", "(I)Z"⟩ ∈ zTw := zTw_of (zt_in_4 (List.mem_of_getElem? (i := 130) rfl)) rfl
theorem w_98 : Cond.code ⟨"SchemeEleven$Image", "addWord", "(I)Z"⟩ prog_4_method_11_code 2 (some FieldType.boolean) ∈ zTw := zTw_of (zt_in_4 (List.mem_of_getElem? (i := 133) rfl)) rfl
theorem w_99 : Cond.initialized "SchemeEleven$Image" ∈ zTw := zTw_of (zt_in_1 (List.mem_of_getElem? (i := 4) rfl)) rfl
theorem w_100 : Cond.instanceMethod ⟨"SchemeEleven$Image", "addWord", "(I)Z"⟩ ∈ zTw := zTw_of (zt_in_4 (List.mem_of_getElem? (i := 131) rfl)) rfl
theorem w_101 : Cond.selects "SchemeEleven$Image" ⟨"SchemeEleven$Image", "addWord", "(I)Z"⟩ ⟨"SchemeEleven$Image", "addWord", "(I)Z"⟩ ∈ zTw := zTw_of (zt_in_4 (List.mem_of_getElem? (i := 132) rfl)) rfl
theorem w_102 : Cond.fieldLink "SchemeEleven$Coder" 22 "SchemeEleven$Coder" "image" "LSchemeEleven$Image;" ∈ zTw := zTw_of (zt_in_2 (List.mem_of_getElem? (i := 239) rfl)) rfl
theorem w_103 : Cond.methodLink "SchemeEleven$Coder" 32 ⟨"SchemeEleven$Spreader", "<init>", "(LSchemeEleven$Text;LSchemeEleven$Scopes;)V"⟩ ∈ zTw := zTw_of (zt_in_2 (List.mem_of_getElem? (i := 136) rfl)) rfl
theorem w_104 : Cond.code ⟨"SchemeEleven$Spreader", "<init>", "(LSchemeEleven$Text;LSchemeEleven$Scopes;)V"⟩ prog_11_method_1_code 3 none ∈ zTw := zTw_of (zt_in_2 (List.mem_of_getElem? (i := 138) rfl)) rfl
theorem w_105 : Cond.instanceMethod ⟨"SchemeEleven$Spreader", "<init>", "(LSchemeEleven$Text;LSchemeEleven$Scopes;)V"⟩ ∈ zTw := zTw_of (zt_in_2 (List.mem_of_getElem? (i := 137) rfl)) rfl
theorem w_106 : Cond.classLink "SchemeEleven$Coder" 30 "SchemeEleven$Spreader" ∈ zTw := zTw_of (zt_in_2 (List.mem_of_getElem? (i := 134) rfl)) rfl
theorem w_107 : Cond.instantiable "SchemeEleven$Spreader" 11 ∈ zTw := zTw_of (zt_in_2 (List.mem_of_getElem? (i := 135) rfl)) rfl
theorem w_108 : Cond.fieldLink "SchemeEleven$Coder" 15 "SchemeEleven$Coder" "lambdas" "[I" ∈ zTw := zTw_of (zt_in_3 (List.mem_of_getElem? (i := 4) rfl)) rfl
theorem w_109 : Cond.arrayClass FieldType.int ∈ zTw := zTw_of (zt_in_1 (List.mem_of_getElem? (i := 65) rfl)) rfl
theorem w_110 : Cond.fieldLink "SchemeEleven$Coder" 11 "SchemeEleven$Coder" "tasks" "[I" ∈ zTw := zTw_of (zt_in_3 (List.mem_of_getElem? (i := 2) rfl)) rfl
theorem w_111 : Cond.methodLink "SchemeEleven$Coder" 3 ⟨"java/lang/Object", "<init>", "()V"⟩ ∈ zTw := zTw_of (zt_in_2 (List.mem_of_getElem? (i := 133) rfl)) rfl
theorem w_112 : Cond.instanceMethod ⟨"java/lang/Object", "<init>", "()V"⟩ ∈ zTw := zTw_of (zt_in_1 (List.mem_of_getElem? (i := 28) rfl)) rfl
theorem w_113 : Cond.methodLink "SchemeEleven$Coder" 203 ⟨"SchemeEleven$Scopes", "meaning", "(II)I"⟩ ∈ zTw := zTw_of (zt_in_4 (List.mem_of_getElem? (i := 184) rfl)) rfl
theorem w_114 : Cond.code ⟨"SchemeEleven$Scopes", "meaning", "(II)I"⟩ prog_9_method_9_code 7 (some FieldType.int) ∈ zTw := zTw_of (zt_in_4 (List.mem_of_getElem? (i := 187) rfl)) rfl
theorem w_115 : Cond.instanceMethod ⟨"SchemeEleven$Scopes", "meaning", "(II)I"⟩ ∈ zTw := zTw_of (zt_in_4 (List.mem_of_getElem? (i := 185) rfl)) rfl
theorem w_116 : Cond.selects "SchemeEleven$Scopes" ⟨"SchemeEleven$Scopes", "meaning", "(II)I"⟩ ⟨"SchemeEleven$Scopes", "meaning", "(II)I"⟩ ∈ zTw := zTw_of (zt_in_4 (List.mem_of_getElem? (i := 186) rfl)) rfl
theorem w_117 : Cond.methodLink "SchemeEleven$Coder" 200 ⟨"SchemeEleven$Text", "isName", "(I)Z"⟩ ∈ zTw := zTw_of (zt_in_4 (List.mem_of_getElem? (i := 97) rfl)) rfl
theorem w_118 : Cond.code ⟨"SchemeEleven$Text", "isName", "(I)Z"⟩ prog_12_method_13_code 2 (some FieldType.boolean) ∈ zTw := zTw_of (zt_in_4 (List.mem_of_getElem? (i := 100) rfl)) rfl
theorem w_119 : Cond.instanceMethod ⟨"SchemeEleven$Text", "isName", "(I)Z"⟩ ∈ zTw := zTw_of (zt_in_4 (List.mem_of_getElem? (i := 98) rfl)) rfl
theorem w_120 : Cond.selects "SchemeEleven$Text" ⟨"SchemeEleven$Text", "isName", "(I)Z"⟩ ⟨"SchemeEleven$Text", "isName", "(I)Z"⟩ ∈ zTw := zTw_of (zt_in_4 (List.mem_of_getElem? (i := 99) rfl)) rfl
theorem w_121 : Cond.methodLink "SchemeEleven$Coder" 194 ⟨"SchemeEleven$Text", "first", "(I)I"⟩ ∈ zTw := zTw_of (zt_in_4 (List.mem_of_getElem? (i := 85) rfl)) rfl
theorem w_122 : Cond.code ⟨"SchemeEleven$Text", "first", "(I)I"⟩ prog_12_method_9_code 2 (some FieldType.int) ∈ zTw := zTw_of (zt_in_4 (List.mem_of_getElem? (i := 88) rfl)) rfl
theorem w_123 : Cond.instanceMethod ⟨"SchemeEleven$Text", "first", "(I)I"⟩ ∈ zTw := zTw_of (zt_in_4 (List.mem_of_getElem? (i := 86) rfl)) rfl
theorem w_124 : Cond.selects "SchemeEleven$Text" ⟨"SchemeEleven$Text", "first", "(I)I"⟩ ⟨"SchemeEleven$Text", "first", "(I)I"⟩ ∈ zTw := zTw_of (zt_in_4 (List.mem_of_getElem? (i := 87) rfl)) rfl
theorem w_125 : Cond.methodLink "SchemeEleven$Coder" 191 ⟨"SchemeEleven$Text", "rest", "(I)I"⟩ ∈ zTw := zTw_of (zt_in_4 (List.mem_of_getElem? (i := 81) rfl)) rfl
theorem w_126 : Cond.code ⟨"SchemeEleven$Text", "rest", "(I)I"⟩ prog_12_method_10_code 2 (some FieldType.int) ∈ zTw := zTw_of (zt_in_4 (List.mem_of_getElem? (i := 84) rfl)) rfl
theorem w_127 : Cond.instanceMethod ⟨"SchemeEleven$Text", "rest", "(I)I"⟩ ∈ zTw := zTw_of (zt_in_4 (List.mem_of_getElem? (i := 82) rfl)) rfl
theorem w_128 : Cond.selects "SchemeEleven$Text" ⟨"SchemeEleven$Text", "rest", "(I)I"⟩ ⟨"SchemeEleven$Text", "rest", "(I)I"⟩ ∈ zTw := zTw_of (zt_in_4 (List.mem_of_getElem? (i := 83) rfl)) rfl
theorem w_129 : Cond.methodLink "SchemeEleven$Coder" 244 ⟨"SchemeEleven$Coder", "codeConstant", "(I)V"⟩ ∈ zTw := zTw_of (zt_in_4 (List.mem_of_getElem? (i := 163) rfl)) rfl
theorem w_130 : Cond.code ⟨"SchemeEleven$Coder", "codeConstant", "(I)V"⟩ prog_2_method_13_code 2 none ∈ zTw := zTw_of (zt_in_4 (List.mem_of_getElem? (i := 166) rfl)) rfl
theorem w_131 : Cond.instanceMethod ⟨"SchemeEleven$Coder", "codeConstant", "(I)V"⟩ ∈ zTw := zTw_of (zt_in_4 (List.mem_of_getElem? (i := 165) rfl)) rfl
theorem w_132 : Cond.methodLink "SchemeEleven$Coder" 238 ⟨"SchemeEleven$Image", "placeOf", "(I)I"⟩ ∈ zTw := zTw_of (zt_in_4 (List.mem_of_getElem? (i := 158) rfl)) rfl
theorem w_133 : Cond.code ⟨"SchemeEleven$Image", "placeOf", "(I)I"⟩ prog_4_method_5_code 2 (some FieldType.int) ∈ zTw := zTw_of (zt_in_4 (List.mem_of_getElem? (i := 10) rfl)) rfl
theorem w_134 : Cond.instanceMethod ⟨"SchemeEleven$Image", "placeOf", "(I)I"⟩ ∈ zTw := zTw_of (zt_in_4 (List.mem_of_getElem? (i := 8) rfl)) rfl
theorem w_135 : Cond.selects "SchemeEleven$Image" ⟨"SchemeEleven$Image", "placeOf", "(I)I"⟩ ⟨"SchemeEleven$Image", "placeOf", "(I)I"⟩ ∈ zTw := zTw_of (zt_in_4 (List.mem_of_getElem? (i := 9) rfl)) rfl
theorem w_136 : Cond.methodLink "SchemeEleven$Coder" 253 ⟨"SchemeEleven$Scopes", "tellMacro", "(II)Z"⟩ ∈ zTw := zTw_of (zt_in_5 (List.mem_of_getElem? (i := 154) rfl)) rfl
theorem w_137 : Cond.code ⟨"SchemeEleven$Scopes", "tellMacro", "(II)Z"⟩ prog_9_method_6_code 5 (some FieldType.boolean) ∈ zTw := zTw_of (zt_in_5 (List.mem_of_getElem? (i := 157) rfl)) rfl
theorem w_138 : Cond.instanceMethod ⟨"SchemeEleven$Scopes", "tellMacro", "(II)Z"⟩ ∈ zTw := zTw_of (zt_in_5 (List.mem_of_getElem? (i := 155) rfl)) rfl
theorem w_139 : Cond.selects "SchemeEleven$Scopes" ⟨"SchemeEleven$Scopes", "tellMacro", "(II)Z"⟩ ⟨"SchemeEleven$Scopes", "tellMacro", "(II)Z"⟩ ∈ zTw := zTw_of (zt_in_5 (List.mem_of_getElem? (i := 156) rfl)) rfl
theorem w_140 : Cond.fieldLink "SchemeEleven$Coder" 70 "SchemeEleven$Coder" "part" "I" ∈ zTw := zTw_of (zt_in_3 (List.mem_of_getElem? (i := 8) rfl)) rfl
theorem w_141 : Cond.methodLink "SchemeEleven$Coder" 228 ⟨"SchemeEleven$Text", "symbolAtLast", "(I)I"⟩ ∈ zTw := zTw_of (zt_in_4 (List.mem_of_getElem? (i := 154) rfl)) rfl
theorem w_142 : Cond.code ⟨"SchemeEleven$Text", "symbolAtLast", "(I)I"⟩ prog_12_method_15_code 3 (some FieldType.int) ∈ zTw := zTw_of (zt_in_4 (List.mem_of_getElem? (i := 157) rfl)) rfl
theorem w_143 : Cond.instanceMethod ⟨"SchemeEleven$Text", "symbolAtLast", "(I)I"⟩ ∈ zTw := zTw_of (zt_in_4 (List.mem_of_getElem? (i := 155) rfl)) rfl
theorem w_144 : Cond.selects "SchemeEleven$Text" ⟨"SchemeEleven$Text", "symbolAtLast", "(I)I"⟩ ⟨"SchemeEleven$Text", "symbolAtLast", "(I)I"⟩ ∈ zTw := zTw_of (zt_in_4 (List.mem_of_getElem? (i := 156) rfl)) rfl
theorem w_145 : Cond.methodLink "SchemeEleven$Coder" 148 ⟨"SchemeEleven$Coder", "tellMacro", "(Z)V"⟩ ∈ zTw := zTw_of (zt_in_5 (List.mem_of_getElem? (i := 150) rfl)) rfl
theorem w_146 : Cond.code ⟨"SchemeEleven$Coder", "tellMacro", "(Z)V"⟩ prog_2_method_21_code 3 none ∈ zTw := zTw_of (zt_in_5 (List.mem_of_getElem? (i := 153) rfl)) rfl
theorem w_147 : Cond.instanceMethod ⟨"SchemeEleven$Coder", "tellMacro", "(Z)V"⟩ ∈ zTw := zTw_of (zt_in_5 (List.mem_of_getElem? (i := 152) rfl)) rfl
theorem w_148 : Cond.methodLink "SchemeEleven$Coder" 144 ⟨"SchemeEleven$Spreader", "isRules", "(I)Z"⟩ ∈ zTw := zTw_of (zt_in_5 (List.mem_of_getElem? (i := 81) rfl)) rfl
theorem w_149 : Cond.code ⟨"SchemeEleven$Spreader", "isRules", "(I)Z"⟩ prog_11_method_3_code 5 (some FieldType.boolean) ∈ zTw := zTw_of (zt_in_5 (List.mem_of_getElem? (i := 84) rfl)) rfl
theorem w_150 : Cond.instanceMethod ⟨"SchemeEleven$Spreader", "isRules", "(I)Z"⟩ ∈ zTw := zTw_of (zt_in_5 (List.mem_of_getElem? (i := 82) rfl)) rfl
theorem w_151 : Cond.selects "SchemeEleven$Spreader" ⟨"SchemeEleven$Spreader", "isRules", "(I)Z"⟩ ⟨"SchemeEleven$Spreader", "isRules", "(I)Z"⟩ ∈ zTw := zTw_of (zt_in_5 (List.mem_of_getElem? (i := 83) rfl)) rfl
theorem w_152 : Cond.methodLink "SchemeEleven$Coder" 103 ⟨"SchemeEleven$Coder", "codeForm", "()V"⟩ ∈ zTw := zTw_of (zt_in_5 (List.mem_of_getElem? (i := 20) rfl)) rfl
theorem w_153 : Cond.code ⟨"SchemeEleven$Coder", "codeForm", "()V"⟩ prog_2_method_17_code 3 none ∈ zTw := zTw_of (zt_in_5 (List.mem_of_getElem? (i := 23) rfl)) rfl
theorem w_154 : Cond.instanceMethod ⟨"SchemeEleven$Coder", "codeForm", "()V"⟩ ∈ zTw := zTw_of (zt_in_5 (List.mem_of_getElem? (i := 22) rfl)) rfl
theorem w_155 : Cond.methodLink "SchemeEleven$Coder" 97 ⟨"SchemeEleven$Coder", "codeDefineSyntax", "()V"⟩ ∈ zTw := zTw_of (zt_in_4 (List.mem_of_getElem? (i := 236) rfl)) rfl
theorem w_156 : Cond.code ⟨"SchemeEleven$Coder", "codeDefineSyntax", "()V"⟩ prog_2_method_20_code 2 none ∈ zTw := zTw_of (zt_in_4 (List.mem_of_getElem? (i := 239) rfl)) rfl
theorem w_157 : Cond.instanceMethod ⟨"SchemeEleven$Coder", "codeDefineSyntax", "()V"⟩ ∈ zTw := zTw_of (zt_in_4 (List.mem_of_getElem? (i := 238) rfl)) rfl
theorem w_158 : Cond.fieldLink "SchemeEleven$Coder" 76 "SchemeEleven$Coder" "patch" "I" ∈ zTw := zTw_of (zt_in_3 (List.mem_of_getElem? (i := 11) rfl)) rfl
theorem w_159 : Cond.fieldLink "SchemeEleven$Heap" 31 "SchemeEleven$Heap" "packs" "I" ∈ zTw := zTw_of (zt_in_1 (List.mem_of_getElem? (i := 126) rfl)) rfl
theorem w_160 : Cond.fieldLink "SchemeEleven$Heap" 19 "SchemeEleven$Heap" "end" "I" ∈ zTw := zTw_of (zt_in_1 (List.mem_of_getElem? (i := 124) rfl)) rfl
theorem w_161 : Cond.constant "SchemeEleven$Heap" 18 (32768 : Int32) ∈ zTw := zTw_of (zt_in_1 (List.mem_of_getElem? (i := 117) rfl)) rfl
theorem w_162 : Cond.fieldLink "SchemeEleven$Heap" 27 "SchemeEleven$Heap" "image" "LSchemeEleven$Image;" ∈ zTw := zTw_of (zt_in_1 (List.mem_of_getElem? (i := 120) rfl)) rfl
theorem w_163 : Cond.fieldLink "SchemeEleven$Heap" 23 "SchemeEleven$Heap" "machine" "LSchemeEleven$Machine;" ∈ zTw := zTw_of (zt_in_1 (List.mem_of_getElem? (i := 118) rfl)) rfl
theorem w_164 : Cond.fieldLink "SchemeEleven$Heap" 15 "SchemeEleven$Heap" "open" "[I" ∈ zTw := zTw_of (zt_in_1 (List.mem_of_getElem? (i := 122) rfl)) rfl
theorem w_165 : Cond.fieldLink "SchemeEleven$Heap" 11 "SchemeEleven$Heap" "states" "[I" ∈ zTw := zTw_of (zt_in_1 (List.mem_of_getElem? (i := 121) rfl)) rfl
theorem w_166 : Cond.methodLink "SchemeEleven$Heap" 3 ⟨"java/lang/Object", "<init>", "()V"⟩ ∈ zTw := zTw_of (zt_in_1 (List.mem_of_getElem? (i := 116) rfl)) rfl
theorem w_167 : Cond.fieldLink "SchemeEleven$Image" 21 "SchemeEleven$Image" "staticsEnd" "I" ∈ zTw := zTw_of (zt_in_1 (List.mem_of_getElem? (i := 81) rfl)) rfl
theorem w_168 : Cond.methodLink "SchemeEleven$Image" 44 ⟨"SchemeEleven$Machine", "put", "(II)V"⟩ ∈ zTw := zTw_of (zt_in_3 (List.mem_of_getElem? (i := 226) rfl)) rfl
theorem w_169 : Cond.code ⟨"SchemeEleven$Machine", "put", "(II)V"⟩ prog_5_method_5_code 4 none ∈ zTw := zTw_of (zt_in_3 (List.mem_of_getElem? (i := 229) rfl)) rfl
theorem w_170 : Cond.initialized "SchemeEleven$Machine" ∈ zTw := zTw_of (zt_in_1 (List.mem_of_getElem? (i := 2) rfl)) rfl
theorem w_171 : Cond.instanceMethod ⟨"SchemeEleven$Machine", "put", "(II)V"⟩ ∈ zTw := zTw_of (zt_in_3 (List.mem_of_getElem? (i := 227) rfl)) rfl
theorem w_172 : Cond.selects "SchemeEleven$Machine" ⟨"SchemeEleven$Machine", "put", "(II)V"⟩ ⟨"SchemeEleven$Machine", "put", "(II)V"⟩ ∈ zTw := zTw_of (zt_in_3 (List.mem_of_getElem? (i := 228) rfl)) rfl
theorem w_173 : Cond.fieldLink "SchemeEleven$Image" 28 "SchemeEleven$Image" "machine" "LSchemeEleven$Machine;" ∈ zTw := zTw_of (zt_in_1 (List.mem_of_getElem? (i := 73) rfl)) rfl
theorem w_174 : Cond.fieldLink "SchemeEleven$Image" 32 "SchemeEleven$Image" "symbols" "I" ∈ zTw := zTw_of (zt_in_1 (List.mem_of_getElem? (i := 78) rfl)) rfl
theorem w_175 : Cond.fieldLink "SchemeEleven$Image" 18 "SchemeEleven$Image" "places" "[I" ∈ zTw := zTw_of (zt_in_1 (List.mem_of_getElem? (i := 77) rfl)) rfl
theorem w_176 : Cond.fieldLink "SchemeEleven$Image" 15 "SchemeEleven$Image" "lengths" "[I" ∈ zTw := zTw_of (zt_in_1 (List.mem_of_getElem? (i := 76) rfl)) rfl
theorem w_177 : Cond.fieldLink "SchemeEleven$Image" 9 "SchemeEleven$Image" "letters" "[I" ∈ zTw := zTw_of (zt_in_1 (List.mem_of_getElem? (i := 75) rfl)) rfl
theorem w_178 : Cond.methodLink "SchemeEleven$Image" 54 ⟨"SchemeEleven$Image", "addStatic", "(III)I"⟩ ∈ zTw := zTw_of (zt_in_3 (List.mem_of_getElem? (i := 222) rfl)) rfl
theorem w_179 : Cond.code ⟨"SchemeEleven$Image", "addStatic", "(III)I"⟩ prog_4_method_10_code 5 (some FieldType.int) ∈ zTw := zTw_of (zt_in_3 (List.mem_of_getElem? (i := 225) rfl)) rfl
theorem w_180 : Cond.instanceMethod ⟨"SchemeEleven$Image", "addStatic", "(III)I"⟩ ∈ zTw := zTw_of (zt_in_3 (List.mem_of_getElem? (i := 223) rfl)) rfl
theorem w_181 : Cond.selects "SchemeEleven$Image" ⟨"SchemeEleven$Image", "addStatic", "(III)I"⟩ ⟨"SchemeEleven$Image", "addStatic", "(III)I"⟩ ∈ zTw := zTw_of (zt_in_3 (List.mem_of_getElem? (i := 224) rfl)) rfl
theorem w_182 : Cond.fieldLink "SchemeEleven$Image" 25 "SchemeEleven$Image" "codeEnd" "I" ∈ zTw := zTw_of (zt_in_1 (List.mem_of_getElem? (i := 84) rfl)) rfl
theorem w_183 : Cond.constant "SchemeEleven$Image" 58 (32768 : Int32) ∈ zTw := zTw_of (zt_in_4 (List.mem_of_getElem? (i := 134) rfl)) rfl
theorem w_184 : Cond.methodLink "SchemeEleven$Image" 50 ⟨"SchemeEleven$Image", "same", "(I[III)Z"⟩ ∈ zTw := zTw_of (zt_in_3 (List.mem_of_getElem? (i := 214) rfl)) rfl
theorem w_185 : Cond.code ⟨"SchemeEleven$Image", "same", "(I[III)Z"⟩ prog_4_method_8_code 6 (some FieldType.boolean) ∈ zTw := zTw_of (zt_in_3 (List.mem_of_getElem? (i := 217) rfl)) rfl
theorem w_186 : Cond.instanceMethod ⟨"SchemeEleven$Image", "same", "(I[III)Z"⟩ ∈ zTw := zTw_of (zt_in_3 (List.mem_of_getElem? (i := 216) rfl)) rfl
theorem w_187 : Cond.methodLink "SchemeEleven$Image" 3 ⟨"java/lang/Object", "<init>", "()V"⟩ ∈ zTw := zTw_of (zt_in_1 (List.mem_of_getElem? (i := 72) rfl)) rfl
theorem w_188 : Cond.fieldLink "SchemeEleven$Image" 41 "SchemeEleven$Image" "oldCodeEnd" "I" ∈ zTw := zTw_of (zt_in_1 (List.mem_of_getElem? (i := 89) rfl)) rfl
theorem w_189 : Cond.fieldLink "SchemeEleven$Image" 38 "SchemeEleven$Image" "oldStaticsEnd" "I" ∈ zTw := zTw_of (zt_in_1 (List.mem_of_getElem? (i := 88) rfl)) rfl
theorem w_190 : Cond.fieldLink "SchemeEleven$Image" 35 "SchemeEleven$Image" "oldSymbols" "I" ∈ zTw := zTw_of (zt_in_1 (List.mem_of_getElem? (i := 87) rfl)) rfl
theorem w_191 : Cond.fieldLink "SchemeEleven$Machine" 21 "SchemeEleven$Machine" "cells" "[I" ∈ zTw := zTw_of (zt_in_1 (List.mem_of_getElem? (i := 39) rfl)) rfl
theorem w_192 : Cond.methodLink "SchemeEleven$Machine" 30 ⟨"SchemeEleven$Machine", "putFlags", "(I)V"⟩ ∈ zTw := zTw_of (zt_in_3 (List.mem_of_getElem? (i := 52) rfl)) rfl
theorem w_193 : Cond.code ⟨"SchemeEleven$Machine", "putFlags", "(I)V"⟩ prog_5_method_6_code 2 none ∈ zTw := zTw_of (zt_in_3 (List.mem_of_getElem? (i := 55) rfl)) rfl
theorem w_194 : Cond.instanceMethod ⟨"SchemeEleven$Machine", "putFlags", "(I)V"⟩ ∈ zTw := zTw_of (zt_in_3 (List.mem_of_getElem? (i := 53) rfl)) rfl
theorem w_195 : Cond.selects "SchemeEleven$Machine" ⟨"SchemeEleven$Machine", "putFlags", "(I)V"⟩ ⟨"SchemeEleven$Machine", "putFlags", "(I)V"⟩ ∈ zTw := zTw_of (zt_in_3 (List.mem_of_getElem? (i := 54) rfl)) rfl
theorem w_196 : Cond.methodLink "SchemeEleven$Machine" 24 ⟨"java/util/Arrays", "fill", "([II)V"⟩ ∈ zTw := zTw_of (zt_in_3 (List.mem_of_getElem? (i := 49) rfl)) rfl
theorem w_197 : Cond.code ⟨"java/util/Arrays", "fill", "([II)V"⟩ prog_21_method_103_code 4 none ∈ zTw := zTw_of (zt_in_3 (List.mem_of_getElem? (i := 51) rfl)) rfl
theorem w_198 : Cond.initialized "java/util/Arrays" ∈ zTw := zTw_of (zt_in_1 (List.mem_of_getElem? (i := 14) rfl)) rfl
theorem w_199 : Cond.static ⟨"java/util/Arrays", "fill", "([II)V"⟩ ∈ zTw := zTw_of (zt_in_3 (List.mem_of_getElem? (i := 50) rfl)) rfl
theorem w_200 : Cond.fieldLink "SchemeEleven$Machine" 9 "SchemeEleven$Machine" "\x72" "[I" ∈ zTw := zTw_of (zt_in_1 (List.mem_of_getElem? (i := 40) rfl)) rfl
theorem w_201 : Cond.methodLink "SchemeEleven$Machine" 15 ⟨"java/lang/Math", "max", "(II)I"⟩ ∈ zTw := zTw_of (zt_in_1 (List.mem_of_getElem? (i := 36) rfl)) rfl
theorem w_202 : Cond.methodLink "SchemeEleven$Machine" 3 ⟨"java/lang/Object", "<init>", "()V"⟩ ∈ zTw := zTw_of (zt_in_1 (List.mem_of_getElem? (i := 35) rfl)) rfl
theorem w_203 : Cond.constant "SchemeEleven$Machine" 34 (65535 : Int32) ∈ zTw := zTw_of (zt_in_3 (List.mem_of_getElem? (i := 230) rfl)) rfl
theorem w_204 : Cond.fieldLink "SchemeEleven$Machine" 45 "SchemeEleven$Machine" "c" "Z" ∈ zTw := zTw_of (zt_in_1 (List.mem_of_getElem? (i := 47) rfl)) rfl
theorem w_205 : Cond.fieldLink "SchemeEleven$Machine" 42 "SchemeEleven$Machine" "v" "Z" ∈ zTw := zTw_of (zt_in_1 (List.mem_of_getElem? (i := 46) rfl)) rfl
theorem w_206 : Cond.fieldLink "SchemeEleven$Machine" 39 "SchemeEleven$Machine" "z" "Z" ∈ zTw := zTw_of (zt_in_1 (List.mem_of_getElem? (i := 45) rfl)) rfl
theorem w_207 : Cond.fieldLink "SchemeEleven$Machine" 35 "SchemeEleven$Machine" "n" "Z" ∈ zTw := zTw_of (zt_in_1 (List.mem_of_getElem? (i := 44) rfl)) rfl
theorem w_208 : Cond.methodLink "SchemeEleven$Machine" 56 ⟨"SchemeEleven$Machine", "low", "(I)I"⟩ ∈ zTw := zTw_of (zt_in_6 (List.mem_of_getElem? (i := 154) rfl)) rfl
theorem w_209 : Cond.code ⟨"SchemeEleven$Machine", "low", "(I)I"⟩ prog_5_method_9_code 3 (some FieldType.int) ∈ zTw := zTw_of (zt_in_6 (List.mem_of_getElem? (i := 157) rfl)) rfl
theorem w_210 : Cond.instanceMethod ⟨"SchemeEleven$Machine", "low", "(I)I"⟩ ∈ zTw := zTw_of (zt_in_6 (List.mem_of_getElem? (i := 156) rfl)) rfl
theorem w_211 : Cond.fieldLink "SchemeEleven$Machine" 52 "SchemeEleven$Machine" "instruction" "I" ∈ zTw := zTw_of (zt_in_1 (List.mem_of_getElem? (i := 49) rfl)) rfl
theorem w_212 : Cond.methodLink "SchemeEleven$Machine" 48 ⟨"SchemeEleven$Machine", "holds", "(I)Z"⟩ ∈ zTw := zTw_of (zt_in_6 (List.mem_of_getElem? (i := 150) rfl)) rfl
theorem w_213 : Cond.code ⟨"SchemeEleven$Machine", "holds", "(I)Z"⟩ prog_5_method_3_code 2 (some FieldType.boolean) ∈ zTw := zTw_of (zt_in_6 (List.mem_of_getElem? (i := 153) rfl)) rfl
theorem w_214 : Cond.instanceMethod ⟨"SchemeEleven$Machine", "holds", "(I)Z"⟩ ∈ zTw := zTw_of (zt_in_6 (List.mem_of_getElem? (i := 151) rfl)) rfl
theorem w_215 : Cond.selects "SchemeEleven$Machine" ⟨"SchemeEleven$Machine", "holds", "(I)Z"⟩ ⟨"SchemeEleven$Machine", "holds", "(I)Z"⟩ ∈ zTw := zTw_of (zt_in_6 (List.mem_of_getElem? (i := 152) rfl)) rfl
theorem w_216 : Cond.fieldLink "SchemeEleven$Pattern" 62 "SchemeEleven$Pattern" "outer" "I" ∈ zTw := zTw_of (zt_in_2 (List.mem_of_getElem? (i := 160) rfl)) rfl
theorem w_217 : Cond.fieldLink "SchemeEleven$Pattern" 59 "SchemeEleven$Pattern" "groups" "I" ∈ zTw := zTw_of (zt_in_2 (List.mem_of_getElem? (i := 159) rfl)) rfl
theorem w_218 : Cond.fieldLink "SchemeEleven$Pattern" 56 "SchemeEleven$Pattern" "variables" "I" ∈ zTw := zTw_of (zt_in_2 (List.mem_of_getElem? (i := 152) rfl)) rfl
theorem w_219 : Cond.fieldLink "SchemeEleven$Pattern" 9 "SchemeEleven$Pattern" "literals" "I" ∈ zTw := zTw_of (zt_in_2 (List.mem_of_getElem? (i := 147) rfl)) rfl
theorem w_220 : Cond.fieldLink "SchemeEleven$Pattern" 25 "SchemeEleven$Pattern" "inners" "[I" ∈ zTw := zTw_of (zt_in_2 (List.mem_of_getElem? (i := 151) rfl)) rfl
theorem w_221 : Cond.fieldLink "SchemeEleven$Pattern" 22 "SchemeEleven$Pattern" "outers" "[I" ∈ zTw := zTw_of (zt_in_2 (List.mem_of_getElem? (i := 150) rfl)) rfl
theorem w_222 : Cond.methodLink "SchemeEleven$Pattern" 102 ⟨"SchemeEleven$Text", "nameOf", "(I)I"⟩ ∈ zTw := zTw_of (zt_in_5 (List.mem_of_getElem? (i := 126) rfl)) rfl
theorem w_223 : Cond.code ⟨"SchemeEleven$Text", "nameOf", "(I)I"⟩ prog_12_method_14_code 3 (some FieldType.int) ∈ zTw := zTw_of (zt_in_4 (List.mem_of_getElem? (i := 108) rfl)) rfl
theorem w_224 : Cond.instanceMethod ⟨"SchemeEleven$Text", "nameOf", "(I)I"⟩ ∈ zTw := zTw_of (zt_in_4 (List.mem_of_getElem? (i := 106) rfl)) rfl
theorem w_225 : Cond.selects "SchemeEleven$Text" ⟨"SchemeEleven$Text", "nameOf", "(I)I"⟩ ⟨"SchemeEleven$Text", "nameOf", "(I)I"⟩ ∈ zTw := zTw_of (zt_in_4 (List.mem_of_getElem? (i := 107) rfl)) rfl
theorem w_226 : Cond.fieldLink "SchemeEleven$Pattern" 15 "SchemeEleven$Pattern" "nodes" "[I" ∈ zTw := zTw_of (zt_in_2 (List.mem_of_getElem? (i := 148) rfl)) rfl
theorem w_227 : Cond.fieldLink "SchemeEleven$Pattern" 52 "SchemeEleven$Pattern" "text" "LSchemeEleven$Text;" ∈ zTw := zTw_of (zt_in_2 (List.mem_of_getElem? (i := 146) rfl)) rfl
theorem w_228 : Cond.methodLink "SchemeEleven$Pattern" 105 ⟨"SchemeEleven$Pattern", "find", "(I)I"⟩ ∈ zTw := zTw_of (zt_in_5 (List.mem_of_getElem? (i := 135) rfl)) rfl
theorem w_229 : Cond.code ⟨"SchemeEleven$Pattern", "find", "(I)I"⟩ prog_6_method_8_code 3 (some FieldType.int) ∈ zTw := zTw_of (zt_in_5 (List.mem_of_getElem? (i := 138) rfl)) rfl
theorem w_230 : Cond.initialized "SchemeEleven$Pattern" ∈ zTw := zTw_of (zt_in_1 (List.mem_of_getElem? (i := 13) rfl)) rfl
theorem w_231 : Cond.instanceMethod ⟨"SchemeEleven$Pattern", "find", "(I)I"⟩ ∈ zTw := zTw_of (zt_in_5 (List.mem_of_getElem? (i := 136) rfl)) rfl
theorem w_232 : Cond.selects "SchemeEleven$Pattern" ⟨"SchemeEleven$Pattern", "find", "(I)I"⟩ ⟨"SchemeEleven$Pattern", "find", "(I)I"⟩ ∈ zTw := zTw_of (zt_in_5 (List.mem_of_getElem? (i := 137) rfl)) rfl
theorem w_233 : Cond.fieldLink "SchemeEleven$Pattern" 49 "SchemeEleven$Pattern" "abreastCount" "[I" ∈ zTw := zTw_of (zt_in_2 (List.mem_of_getElem? (i := 164) rfl)) rfl
theorem w_234 : Cond.fieldLink "SchemeEleven$Pattern" 46 "SchemeEleven$Pattern" "abreast" "[I" ∈ zTw := zTw_of (zt_in_2 (List.mem_of_getElem? (i := 163) rfl)) rfl
theorem w_235 : Cond.fieldLink "SchemeEleven$Pattern" 43 "SchemeEleven$Pattern" "nextGroups" "[I" ∈ zTw := zTw_of (zt_in_2 (List.mem_of_getElem? (i := 158) rfl)) rfl
theorem w_236 : Cond.fieldLink "SchemeEleven$Pattern" 40 "SchemeEleven$Pattern" "nextVariables" "[I" ∈ zTw := zTw_of (zt_in_2 (List.mem_of_getElem? (i := 157) rfl)) rfl
theorem w_237 : Cond.fieldLink "SchemeEleven$Pattern" 37 "SchemeEleven$Pattern" "firstVariables" "[I" ∈ zTw := zTw_of (zt_in_2 (List.mem_of_getElem? (i := 156) rfl)) rfl
theorem w_238 : Cond.fieldLink "SchemeEleven$Pattern" 34 "SchemeEleven$Pattern" "cursors" "[I" ∈ zTw := zTw_of (zt_in_2 (List.mem_of_getElem? (i := 155) rfl)) rfl
theorem w_239 : Cond.fieldLink "SchemeEleven$Pattern" 31 "SchemeEleven$Pattern" "lists" "[I" ∈ zTw := zTw_of (zt_in_2 (List.mem_of_getElem? (i := 154) rfl)) rfl
theorem w_240 : Cond.fieldLink "SchemeEleven$Pattern" 28 "SchemeEleven$Pattern" "bodies" "[I" ∈ zTw := zTw_of (zt_in_2 (List.mem_of_getElem? (i := 153) rfl)) rfl
theorem w_241 : Cond.fieldLink "SchemeEleven$Pattern" 19 "SchemeEleven$Pattern" "values" "[I" ∈ zTw := zTw_of (zt_in_2 (List.mem_of_getElem? (i := 149) rfl)) rfl
theorem w_242 : Cond.methodLink "SchemeEleven$Pattern" 3 ⟨"java/lang/Object", "<init>", "()V"⟩ ∈ zTw := zTw_of (zt_in_2 (List.mem_of_getElem? (i := 145) rfl)) rfl
theorem w_243 : Cond.methodLink "SchemeEleven$Pattern" 81 ⟨"SchemeEleven$Text", "rest", "(I)I"⟩ ∈ zTw := zTw_of (zt_in_5 (List.mem_of_getElem? (i := 115) rfl)) rfl
theorem w_244 : Cond.methodLink "SchemeEleven$Pattern" 71 ⟨"SchemeEleven$Text", "first", "(I)I"⟩ ∈ zTw := zTw_of (zt_in_5 (List.mem_of_getElem? (i := 109) rfl)) rfl
theorem w_245 : Cond.methodLink "SchemeEleven$Pattern" 67 ⟨"SchemeEleven$Text", "isCons", "(I)Z"⟩ ∈ zTw := zTw_of (zt_in_5 (List.mem_of_getElem? (i := 108) rfl)) rfl
theorem w_246 : Cond.code ⟨"SchemeEleven$Text", "isCons", "(I)Z"⟩ prog_12_method_8_code 2 (some FieldType.boolean) ∈ zTw := zTw_of (zt_in_4 (List.mem_of_getElem? (i := 96) rfl)) rfl
theorem w_247 : Cond.instanceMethod ⟨"SchemeEleven$Text", "isCons", "(I)Z"⟩ ∈ zTw := zTw_of (zt_in_4 (List.mem_of_getElem? (i := 94) rfl)) rfl
theorem w_248 : Cond.selects "SchemeEleven$Text" ⟨"SchemeEleven$Text", "isCons", "(I)Z"⟩ ⟨"SchemeEleven$Text", "isCons", "(I)Z"⟩ ∈ zTw := zTw_of (zt_in_4 (List.mem_of_getElem? (i := 95) rfl)) rfl
theorem w_249 : Cond.methodLink "SchemeEleven$Pattern" 98 ⟨"SchemeEleven$Pattern", "learnVariable", "(III)V"⟩ ∈ zTw := zTw_of (zt_in_5 (List.mem_of_getElem? (i := 127) rfl)) rfl
theorem w_250 : Cond.code ⟨"SchemeEleven$Pattern", "learnVariable", "(III)V"⟩ prog_6_method_5_code 4 none ∈ zTw := zTw_of (zt_in_5 (List.mem_of_getElem? (i := 130) rfl)) rfl
theorem w_251 : Cond.instanceMethod ⟨"SchemeEleven$Pattern", "learnVariable", "(III)V"⟩ ∈ zTw := zTw_of (zt_in_5 (List.mem_of_getElem? (i := 129) rfl)) rfl
theorem w_252 : Cond.methodLink "SchemeEleven$Pattern" 95 ⟨"SchemeEleven$Pattern", "isLiteral", "(I)Z"⟩ ∈ zTw := zTw_of (zt_in_5 (List.mem_of_getElem? (i := 122) rfl)) rfl
theorem w_253 : Cond.code ⟨"SchemeEleven$Pattern", "isLiteral", "(I)Z"⟩ prog_6_method_7_code 5 (some FieldType.boolean) ∈ zTw := zTw_of (zt_in_5 (List.mem_of_getElem? (i := 125) rfl)) rfl
theorem w_254 : Cond.instanceMethod ⟨"SchemeEleven$Pattern", "isLiteral", "(I)Z"⟩ ∈ zTw := zTw_of (zt_in_5 (List.mem_of_getElem? (i := 123) rfl)) rfl
theorem w_255 : Cond.selects "SchemeEleven$Pattern" ⟨"SchemeEleven$Pattern", "isLiteral", "(I)Z"⟩ ⟨"SchemeEleven$Pattern", "isLiteral", "(I)Z"⟩ ∈ zTw := zTw_of (zt_in_5 (List.mem_of_getElem? (i := 124) rfl)) rfl
theorem w_256 : Cond.methodLink "SchemeEleven$Pattern" 75 ⟨"SchemeEleven$Text", "symbolAtLast", "(I)I"⟩ ∈ zTw := zTw_of (zt_in_5 (List.mem_of_getElem? (i := 110) rfl)) rfl
theorem w_257 : Cond.methodLink "SchemeEleven$Pattern" 91 ⟨"SchemeEleven$Pattern", "learn", "(IIII)Z"⟩ ∈ zTw := zTw_of (zt_in_5 (List.mem_of_getElem? (i := 121) rfl)) rfl
theorem w_258 : Cond.code ⟨"SchemeEleven$Pattern", "learn", "(IIII)Z"⟩ prog_6_method_3_code 9 (some FieldType.boolean) ∈ zTw := zTw_of (zt_in_5 (List.mem_of_getElem? (i := 107) rfl)) rfl
theorem w_259 : Cond.instanceMethod ⟨"SchemeEleven$Pattern", "learn", "(IIII)Z"⟩ ∈ zTw := zTw_of (zt_in_5 (List.mem_of_getElem? (i := 106) rfl)) rfl
theorem w_260 : Cond.methodLink "SchemeEleven$Pattern" 87 ⟨"SchemeEleven$Pattern", "learnGroup", "(III)Z"⟩ ∈ zTw := zTw_of (zt_in_5 (List.mem_of_getElem? (i := 117) rfl)) rfl
theorem w_261 : Cond.code ⟨"SchemeEleven$Pattern", "learnGroup", "(III)Z"⟩ prog_6_method_4_code 6 (some FieldType.boolean) ∈ zTw := zTw_of (zt_in_5 (List.mem_of_getElem? (i := 120) rfl)) rfl
theorem w_262 : Cond.instanceMethod ⟨"SchemeEleven$Pattern", "learnGroup", "(III)Z"⟩ ∈ zTw := zTw_of (zt_in_5 (List.mem_of_getElem? (i := 119) rfl)) rfl
theorem w_263 : Cond.methodLink "SchemeEleven$Pattern" 84 ⟨"SchemeEleven$Text", "kind", "(I)I"⟩ ∈ zTw := zTw_of (zt_in_5 (List.mem_of_getElem? (i := 116) rfl)) rfl
theorem w_264 : Cond.methodLink "SchemeEleven$Pattern" 78 ⟨"SchemeEleven$Text", "repeats", "(I)Z"⟩ ∈ zTw := zTw_of (zt_in_5 (List.mem_of_getElem? (i := 111) rfl)) rfl
theorem w_265 : Cond.code ⟨"SchemeEleven$Text", "repeats", "(I)Z"⟩ prog_12_method_16_code 5 (some FieldType.boolean) ∈ zTw := zTw_of (zt_in_5 (List.mem_of_getElem? (i := 114) rfl)) rfl
theorem w_266 : Cond.instanceMethod ⟨"SchemeEleven$Text", "repeats", "(I)Z"⟩ ∈ zTw := zTw_of (zt_in_5 (List.mem_of_getElem? (i := 112) rfl)) rfl
theorem w_267 : Cond.selects "SchemeEleven$Text" ⟨"SchemeEleven$Text", "repeats", "(I)Z"⟩ ⟨"SchemeEleven$Text", "repeats", "(I)Z"⟩ ∈ zTw := zTw_of (zt_in_5 (List.mem_of_getElem? (i := 113) rfl)) rfl
theorem w_268 : Cond.fieldLink "SchemeEleven$Reader" 24 "SchemeEleven$Reader" "lasts" "[I" ∈ zTw := zTw_of (zt_in_2 (List.mem_of_getElem? (i := 104) rfl)) rfl
theorem w_269 : Cond.methodLink "SchemeEleven$Reader" 95 ⟨"SchemeEleven$Text", "setRest", "(II)V"⟩ ∈ zTw := zTw_of (zt_in_3 (List.mem_of_getElem? (i := 181) rfl)) rfl
theorem w_270 : Cond.code ⟨"SchemeEleven$Text", "setRest", "(II)V"⟩ prog_12_method_12_code 3 none ∈ zTw := zTw_of (zt_in_3 (List.mem_of_getElem? (i := 184) rfl)) rfl
theorem w_271 : Cond.instanceMethod ⟨"SchemeEleven$Text", "setRest", "(II)V"⟩ ∈ zTw := zTw_of (zt_in_3 (List.mem_of_getElem? (i := 182) rfl)) rfl
theorem w_272 : Cond.selects "SchemeEleven$Text" ⟨"SchemeEleven$Text", "setRest", "(II)V"⟩ ⟨"SchemeEleven$Text", "setRest", "(II)V"⟩ ∈ zTw := zTw_of (zt_in_3 (List.mem_of_getElem? (i := 183) rfl)) rfl
theorem w_273 : Cond.fieldLink "SchemeEleven$Reader" 27 "SchemeEleven$Reader" "text" "LSchemeEleven$Text;" ∈ zTw := zTw_of (zt_in_2 (List.mem_of_getElem? (i := 96) rfl)) rfl
theorem w_274 : Cond.fieldLink "SchemeEleven$Reader" 21 "SchemeEleven$Reader" "lists" "[I" ∈ zTw := zTw_of (zt_in_2 (List.mem_of_getElem? (i := 103) rfl)) rfl
theorem w_275 : Cond.methodLink "SchemeEleven$Reader" 91 ⟨"SchemeEleven$Text", "add", "(IIIII)I"⟩ ∈ zTw := zTw_of (zt_in_3 (List.mem_of_getElem? (i := 176) rfl)) rfl
theorem w_276 : Cond.code ⟨"SchemeEleven$Text", "add", "(IIIII)I"⟩ prog_12_method_5_code 7 (some FieldType.int) ∈ zTw := zTw_of (zt_in_3 (List.mem_of_getElem? (i := 179) rfl)) rfl
theorem w_277 : Cond.instanceMethod ⟨"SchemeEleven$Text", "add", "(IIIII)I"⟩ ∈ zTw := zTw_of (zt_in_3 (List.mem_of_getElem? (i := 177) rfl)) rfl
theorem w_278 : Cond.selects "SchemeEleven$Text" ⟨"SchemeEleven$Text", "add", "(IIIII)I"⟩ ⟨"SchemeEleven$Text", "add", "(IIIII)I"⟩ ∈ zTw := zTw_of (zt_in_3 (List.mem_of_getElem? (i := 178) rfl)) rfl
theorem w_279 : Cond.methodLink "SchemeEleven$Reader" 128 ⟨"SchemeEleven$Text", "place", "(I)I"⟩ ∈ zTw := zTw_of (zt_in_3 (List.mem_of_getElem? (i := 239) rfl)) rfl
theorem w_280 : Cond.code ⟨"SchemeEleven$Text", "place", "(I)I"⟩ prog_12_method_7_code 2 (some FieldType.int) ∈ zTw := zTw_of (zt_in_4 (List.mem_of_getElem? (i := 2) rfl)) rfl
theorem w_281 : Cond.instanceMethod ⟨"SchemeEleven$Text", "place", "(I)I"⟩ ∈ zTw := zTw_of (zt_in_4 (List.mem_of_getElem? (i := 0) rfl)) rfl
theorem w_282 : Cond.selects "SchemeEleven$Text" ⟨"SchemeEleven$Text", "place", "(I)I"⟩ ⟨"SchemeEleven$Text", "place", "(I)I"⟩ ∈ zTw := zTw_of (zt_in_4 (List.mem_of_getElem? (i := 1) rfl)) rfl
theorem w_283 : Cond.fieldLink "SchemeEleven$Reader" 18 "SchemeEleven$Reader" "begins" "[I" ∈ zTw := zTw_of (zt_in_2 (List.mem_of_getElem? (i := 102) rfl)) rfl
theorem w_284 : Cond.fieldLink "SchemeEleven$Reader" 15 "SchemeEleven$Reader" "states" "[I" ∈ zTw := zTw_of (zt_in_2 (List.mem_of_getElem? (i := 101) rfl)) rfl
theorem w_285 : Cond.fieldLink "SchemeEleven$Reader" 45 "SchemeEleven$Reader" "open" "I" ∈ zTw := zTw_of (zt_in_2 (List.mem_of_getElem? (i := 105) rfl)) rfl
theorem w_286 : Cond.fieldLink "SchemeEleven$Reader" 57 "SchemeEleven$Reader" "ended" "I" ∈ zTw := zTw_of (zt_in_2 (List.mem_of_getElem? (i := 106) rfl)) rfl
theorem w_287 : Cond.fieldLink "SchemeEleven$Reader" 35 "SchemeEleven$Reader" "forms" "I" ∈ zTw := zTw_of (zt_in_2 (List.mem_of_getElem? (i := 99) rfl)) rfl
theorem w_288 : Cond.fieldLink "SchemeEleven$Reader" 9 "SchemeEleven$Reader" "heads" "[I" ∈ zTw := zTw_of (zt_in_2 (List.mem_of_getElem? (i := 98) rfl)) rfl
theorem w_289 : Cond.methodLink "SchemeEleven$Reader" 125 ⟨"SchemeEleven$Reader", "append", "(II)V"⟩ ∈ zTw := zTw_of (zt_in_4 (List.mem_of_getElem? (i := 3) rfl)) rfl
theorem w_290 : Cond.code ⟨"SchemeEleven$Reader", "append", "(II)V"⟩ prog_7_method_18_code 5 none ∈ zTw := zTw_of (zt_in_4 (List.mem_of_getElem? (i := 6) rfl)) rfl
theorem w_291 : Cond.initialized "SchemeEleven$Reader" ∈ zTw := zTw_of (zt_in_1 (List.mem_of_getElem? (i := 10) rfl)) rfl
theorem w_292 : Cond.instanceMethod ⟨"SchemeEleven$Reader", "append", "(II)V"⟩ ∈ zTw := zTw_of (zt_in_4 (List.mem_of_getElem? (i := 5) rfl)) rfl
theorem w_293 : Cond.methodLink "SchemeEleven$Reader" 82 ⟨"SchemeEleven$Reader", "isSign", "(I)Z"⟩ ∈ zTw := zTw_of (zt_in_3 (List.mem_of_getElem? (i := 158) rfl)) rfl
theorem w_294 : Cond.code ⟨"SchemeEleven$Reader", "isSign", "(I)Z"⟩ prog_7_method_6_code 1 (some FieldType.boolean) ∈ zTw := zTw_of (zt_in_3 (List.mem_of_getElem? (i := 160) rfl)) rfl
theorem w_295 : Cond.static ⟨"SchemeEleven$Reader", "isSign", "(I)Z"⟩ ∈ zTw := zTw_of (zt_in_3 (List.mem_of_getElem? (i := 159) rfl)) rfl
theorem w_296 : Cond.fieldLink "SchemeEleven$Reader" 31 "SchemeEleven$Reader" "image" "LSchemeEleven$Image;" ∈ zTw := zTw_of (zt_in_2 (List.mem_of_getElem? (i := 97) rfl)) rfl
theorem w_297 : Cond.methodLink "SchemeEleven$Reader" 3 ⟨"java/lang/Object", "<init>", "()V"⟩ ∈ zTw := zTw_of (zt_in_2 (List.mem_of_getElem? (i := 95) rfl)) rfl
theorem w_298 : Cond.methodLink "SchemeEleven$Reader" 78 ⟨"SchemeEleven$Reader", "isDigit", "(I)Z"⟩ ∈ zTw := zTw_of (zt_in_3 (List.mem_of_getElem? (i := 161) rfl)) rfl
theorem w_299 : Cond.code ⟨"SchemeEleven$Reader", "isDigit", "(I)Z"⟩ prog_7_method_5_code 1 (some FieldType.boolean) ∈ zTw := zTw_of (zt_in_3 (List.mem_of_getElem? (i := 163) rfl)) rfl
theorem w_300 : Cond.static ⟨"SchemeEleven$Reader", "isDigit", "(I)Z"⟩ ∈ zTw := zTw_of (zt_in_3 (List.mem_of_getElem? (i := 162) rfl)) rfl
theorem w_301 : Cond.methodLink "SchemeEleven$Reader" 48 ⟨"SchemeEleven$Reader", "skipBlanks", "([III)I"⟩ ∈ zTw := zTw_of (zt_in_3 (List.mem_of_getElem? (i := 152) rfl)) rfl
theorem w_302 : Cond.code ⟨"SchemeEleven$Reader", "skipBlanks", "([III)I"⟩ prog_7_method_4_code 6 (some FieldType.int) ∈ zTw := zTw_of (zt_in_3 (List.mem_of_getElem? (i := 154) rfl)) rfl
theorem w_303 : Cond.static ⟨"SchemeEleven$Reader", "skipBlanks", "([III)I"⟩ ∈ zTw := zTw_of (zt_in_3 (List.mem_of_getElem? (i := 153) rfl)) rfl
theorem w_304 : Cond.methodLink "SchemeEleven$Reader" 71 ⟨"SchemeEleven$Reader", "deliver", "(I)V"⟩ ∈ zTw := zTw_of (zt_in_3 (List.mem_of_getElem? (i := 231) rfl)) rfl
theorem w_305 : Cond.code ⟨"SchemeEleven$Reader", "deliver", "(I)V"⟩ prog_7_method_16_code 4 none ∈ zTw := zTw_of (zt_in_3 (List.mem_of_getElem? (i := 234) rfl)) rfl
theorem w_306 : Cond.instanceMethod ⟨"SchemeEleven$Reader", "deliver", "(I)V"⟩ ∈ zTw := zTw_of (zt_in_3 (List.mem_of_getElem? (i := 233) rfl)) rfl
theorem w_307 : Cond.methodLink "SchemeEleven$Reader" 67 ⟨"SchemeEleven$Reader", "readRow", "([III)V"⟩ ∈ zTw := zTw_of (zt_in_3 (List.mem_of_getElem? (i := 189) rfl)) rfl
theorem w_308 : Cond.code ⟨"SchemeEleven$Reader", "readRow", "([III)V"⟩ prog_7_method_11_code 5 none ∈ zTw := zTw_of (zt_in_3 (List.mem_of_getElem? (i := 192) rfl)) rfl
theorem w_309 : Cond.instanceMethod ⟨"SchemeEleven$Reader", "readRow", "([III)V"⟩ ∈ zTw := zTw_of (zt_in_3 (List.mem_of_getElem? (i := 191) rfl)) rfl
theorem w_310 : Cond.methodLink "SchemeEleven$Reader" 63 ⟨"SchemeEleven$Reader", "readMark", "(II)V"⟩ ∈ zTw := zTw_of (zt_in_3 (List.mem_of_getElem? (i := 164) rfl)) rfl
theorem w_311 : Cond.code ⟨"SchemeEleven$Reader", "readMark", "(II)V"⟩ prog_7_method_9_code 3 none ∈ zTw := zTw_of (zt_in_3 (List.mem_of_getElem? (i := 167) rfl)) rfl
theorem w_312 : Cond.instanceMethod ⟨"SchemeEleven$Reader", "readMark", "(II)V"⟩ ∈ zTw := zTw_of (zt_in_3 (List.mem_of_getElem? (i := 166) rfl)) rfl
theorem w_313 : Cond.methodLink "SchemeEleven$Reader" 60 ⟨"SchemeEleven$Reader", "endOfToken", "([III)I"⟩ ∈ zTw := zTw_of (zt_in_3 (List.mem_of_getElem? (i := 155) rfl)) rfl
theorem w_314 : Cond.code ⟨"SchemeEleven$Reader", "endOfToken", "([III)I"⟩ prog_7_method_7_code 4 (some FieldType.int) ∈ zTw := zTw_of (zt_in_3 (List.mem_of_getElem? (i := 157) rfl)) rfl
theorem w_315 : Cond.static ⟨"SchemeEleven$Reader", "endOfToken", "([III)I"⟩ ∈ zTw := zTw_of (zt_in_3 (List.mem_of_getElem? (i := 156) rfl)) rfl
theorem w_316 : Cond.methodLink "SchemeEleven$Reader" 39 ⟨"java/lang/Math", "min", "(II)I"⟩ ∈ zTw := zTw_of (zt_in_3 (List.mem_of_getElem? (i := 149) rfl)) rfl
theorem w_317 : Cond.methodLink "SchemeEleven$Reader" 88 ⟨"SchemeEleven$Reader", "mayStand", "(I)Z"⟩ ∈ zTw := zTw_of (zt_in_3 (List.mem_of_getElem? (i := 185) rfl)) rfl
theorem w_318 : Cond.code ⟨"SchemeEleven$Reader", "mayStand", "(I)Z"⟩ prog_7_method_8_code 3 (some FieldType.boolean) ∈ zTw := zTw_of (zt_in_3 (List.mem_of_getElem? (i := 188) rfl)) rfl
theorem w_319 : Cond.instanceMethod ⟨"SchemeEleven$Reader", "mayStand", "(I)Z"⟩ ∈ zTw := zTw_of (zt_in_3 (List.mem_of_getElem? (i := 187) rfl)) rfl
theorem w_320 : Cond.methodLink "SchemeEleven$Reader" 85 ⟨"SchemeEleven$Reader", "closeList", "(I)V"⟩ ∈ zTw := zTw_of (zt_in_3 (List.mem_of_getElem? (i := 168) rfl)) rfl
theorem w_321 : Cond.code ⟨"SchemeEleven$Reader", "closeList", "(I)V"⟩ prog_7_method_10_code 3 none ∈ zTw := zTw_of (zt_in_3 (List.mem_of_getElem? (i := 171) rfl)) rfl
theorem w_322 : Cond.instanceMethod ⟨"SchemeEleven$Reader", "closeList", "(I)V"⟩ ∈ zTw := zTw_of (zt_in_3 (List.mem_of_getElem? (i := 170) rfl)) rfl
theorem w_323 : Cond.methodLink "SchemeEleven$Reader" 119 ⟨"SchemeEleven$Image", "addSymbol", "([III)I"⟩ ∈ zTw := zTw_of (zt_in_3 (List.mem_of_getElem? (i := 218) rfl)) rfl
theorem w_324 : Cond.code ⟨"SchemeEleven$Image", "addSymbol", "([III)I"⟩ prog_4_method_9_code 6 (some FieldType.int) ∈ zTw := zTw_of (zt_in_3 (List.mem_of_getElem? (i := 221) rfl)) rfl
theorem w_325 : Cond.instanceMethod ⟨"SchemeEleven$Image", "addSymbol", "([III)I"⟩ ∈ zTw := zTw_of (zt_in_3 (List.mem_of_getElem? (i := 219) rfl)) rfl
theorem w_326 : Cond.selects "SchemeEleven$Image" ⟨"SchemeEleven$Image", "addSymbol", "([III)I"⟩ ⟨"SchemeEleven$Image", "addSymbol", "([III)I"⟩ ∈ zTw := zTw_of (zt_in_3 (List.mem_of_getElem? (i := 220) rfl)) rfl
theorem w_327 : Cond.methodLink "SchemeEleven$Reader" 111 ⟨"SchemeEleven$Image", "find", "([III)I"⟩ ∈ zTw := zTw_of (zt_in_3 (List.mem_of_getElem? (i := 210) rfl)) rfl
theorem w_328 : Cond.code ⟨"SchemeEleven$Image", "find", "([III)I"⟩ prog_4_method_7_code 5 (some FieldType.int) ∈ zTw := zTw_of (zt_in_3 (List.mem_of_getElem? (i := 213) rfl)) rfl
theorem w_329 : Cond.instanceMethod ⟨"SchemeEleven$Image", "find", "([III)I"⟩ ∈ zTw := zTw_of (zt_in_3 (List.mem_of_getElem? (i := 211) rfl)) rfl
theorem w_330 : Cond.selects "SchemeEleven$Image" ⟨"SchemeEleven$Image", "find", "([III)I"⟩ ⟨"SchemeEleven$Image", "find", "([III)I"⟩ ∈ zTw := zTw_of (zt_in_3 (List.mem_of_getElem? (i := 212) rfl)) rfl
theorem w_331 : Cond.constant "SchemeEleven$Reader" 110 (65535 : Int32) ∈ zTw := zTw_of (zt_in_3 (List.mem_of_getElem? (i := 201) rfl)) rfl
theorem w_332 : Cond.methodLink "SchemeEleven$Reader" 107 ⟨"SchemeEleven$Reader", "readName", "([III)V"⟩ ∈ zTw := zTw_of (zt_in_3 (List.mem_of_getElem? (i := 206) rfl)) rfl
theorem w_333 : Cond.code ⟨"SchemeEleven$Reader", "readName", "([III)V"⟩ prog_7_method_15_code 5 none ∈ zTw := zTw_of (zt_in_3 (List.mem_of_getElem? (i := 209) rfl)) rfl
theorem w_334 : Cond.instanceMethod ⟨"SchemeEleven$Reader", "readName", "([III)V"⟩ ∈ zTw := zTw_of (zt_in_3 (List.mem_of_getElem? (i := 208) rfl)) rfl
theorem w_335 : Cond.methodLink "SchemeEleven$Reader" 101 ⟨"SchemeEleven$Reader", "readNumber", "([III)V"⟩ ∈ zTw := zTw_of (zt_in_3 (List.mem_of_getElem? (i := 197) rfl)) rfl
theorem w_336 : Cond.code ⟨"SchemeEleven$Reader", "readNumber", "([III)V"⟩ prog_7_method_13_code 9 none ∈ zTw := zTw_of (zt_in_3 (List.mem_of_getElem? (i := 200) rfl)) rfl
theorem w_337 : Cond.instanceMethod ⟨"SchemeEleven$Reader", "readNumber", "([III)V"⟩ ∈ zTw := zTw_of (zt_in_3 (List.mem_of_getElem? (i := 199) rfl)) rfl
theorem w_338 : Cond.methodLink "SchemeEleven$Reader" 98 ⟨"SchemeEleven$Reader", "readBoolean", "(II)V"⟩ ∈ zTw := zTw_of (zt_in_3 (List.mem_of_getElem? (i := 193) rfl)) rfl
theorem w_339 : Cond.code ⟨"SchemeEleven$Reader", "readBoolean", "(II)V"⟩ prog_7_method_12_code 3 none ∈ zTw := zTw_of (zt_in_3 (List.mem_of_getElem? (i := 196) rfl)) rfl
theorem w_340 : Cond.instanceMethod ⟨"SchemeEleven$Reader", "readBoolean", "(II)V"⟩ ∈ zTw := zTw_of (zt_in_3 (List.mem_of_getElem? (i := 195) rfl)) rfl
theorem w_341 : Cond.fieldLink "SchemeEleven$Runner" 56 "SchemeEleven$Runner" "inputs" "I" ∈ zTw := zTw_of (zt_in_1 (List.mem_of_getElem? (i := 205) rfl)) rfl
theorem w_342 : Cond.fieldLink "SchemeEleven$Runner" 53 "SchemeEleven$Runner" "error" "I" ∈ zTw := zTw_of (zt_in_1 (List.mem_of_getElem? (i := 199) rfl)) rfl
theorem w_343 : Cond.fieldLink "SchemeEleven$Runner" 50 "SchemeEleven$Runner" "done" "I" ∈ zTw := zTw_of (zt_in_1 (List.mem_of_getElem? (i := 197) rfl)) rfl
theorem w_344 : Cond.fieldLink "SchemeEleven$Runner" 46 "SchemeEleven$Runner" "underWay" "Z" ∈ zTw := zTw_of (zt_in_1 (List.mem_of_getElem? (i := 196) rfl)) rfl
theorem w_345 : Cond.fieldLink "SchemeEleven$Runner" 43 "SchemeEleven$Runner" "waits" "I" ∈ zTw := zTw_of (zt_in_1 (List.mem_of_getElem? (i := 194) rfl)) rfl
theorem w_346 : Cond.fieldLink "SchemeEleven$Runner" 39 "SchemeEleven$Runner" "first" "I" ∈ zTw := zTw_of (zt_in_1 (List.mem_of_getElem? (i := 193) rfl)) rfl
theorem w_347 : Cond.fieldLink "SchemeEleven$Runner" 35 "SchemeEleven$Runner" "scribe" "LSchemeEleven$Scribe;" ∈ zTw := zTw_of (zt_in_1 (List.mem_of_getElem? (i := 191) rfl)) rfl
theorem w_348 : Cond.fieldLink "SchemeEleven$Runner" 31 "SchemeEleven$Runner" "heap" "LSchemeEleven$Heap;" ∈ zTw := zTw_of (zt_in_1 (List.mem_of_getElem? (i := 190) rfl)) rfl
theorem w_349 : Cond.fieldLink "SchemeEleven$Runner" 30 "SchemeEleven$Runner" "\x72" "[I" ∈ zTw := zTw_of (zt_in_1 (List.mem_of_getElem? (i := 189) rfl)) rfl
theorem w_350 : Cond.fieldLink "SchemeEleven$Runner" 21 "SchemeEleven$Runner" "machine" "LSchemeEleven$Machine;" ∈ zTw := zTw_of (zt_in_1 (List.mem_of_getElem? (i := 188) rfl)) rfl
theorem w_351 : Cond.fieldLink "SchemeEleven$Runner" 18 "SchemeEleven$Runner" "input" "[I" ∈ zTw := zTw_of (zt_in_1 (List.mem_of_getElem? (i := 204) rfl)) rfl
theorem w_352 : Cond.fieldLink "SchemeEleven$Runner" 15 "SchemeEleven$Runner" "row" "[I" ∈ zTw := zTw_of (zt_in_1 (List.mem_of_getElem? (i := 201) rfl)) rfl
theorem w_353 : Cond.fieldLink "SchemeEleven$Runner" 9 "SchemeEleven$Runner" "waiting" "[I" ∈ zTw := zTw_of (zt_in_1 (List.mem_of_getElem? (i := 192) rfl)) rfl
theorem w_354 : Cond.methodLink "SchemeEleven$Runner" 3 ⟨"java/lang/Object", "<init>", "()V"⟩ ∈ zTw := zTw_of (zt_in_1 (List.mem_of_getElem? (i := 187) rfl)) rfl
theorem w_355 : Cond.constant "SchemeEleven$Runner" 59 (65535 : Int32) ∈ zTw := zTw_of (zt_in_7 (List.mem_of_getElem? (i := 109) rfl)) rfl
theorem w_356 : Cond.fieldLink "SchemeEleven$Scopes" 50 "SchemeEleven$Scopes" "allParts" "I" ∈ zTw := zTw_of (zt_in_2 (List.mem_of_getElem? (i := 55) rfl)) rfl
theorem w_357 : Cond.fieldLink "SchemeEleven$Scopes" 46 "SchemeEleven$Scopes" "macros" "I" ∈ zTw := zTw_of (zt_in_2 (List.mem_of_getElem? (i := 53) rfl)) rfl
theorem w_358 : Cond.methodLink "SchemeEleven$Scopes" 40 ⟨"java/util/Arrays", "fill", "([II)V"⟩ ∈ zTw := zTw_of (zt_in_3 (List.mem_of_getElem? (i := 84) rfl)) rfl
theorem w_359 : Cond.fieldLink "SchemeEleven$Scopes" 27 "SchemeEleven$Scopes" "parts" "[I" ∈ zTw := zTw_of (zt_in_2 (List.mem_of_getElem? (i := 50) rfl)) rfl
theorem w_360 : Cond.fieldLink "SchemeEleven$Scopes" 24 "SchemeEleven$Scopes" "rules" "[I" ∈ zTw := zTw_of (zt_in_2 (List.mem_of_getElem? (i := 49) rfl)) rfl
theorem w_361 : Cond.fieldLink "SchemeEleven$Scopes" 36 "SchemeEleven$Scopes" "text" "LSchemeEleven$Text;" ∈ zTw := zTw_of (zt_in_2 (List.mem_of_getElem? (i := 43) rfl)) rfl
theorem w_362 : Cond.fieldLink "SchemeEleven$Scopes" 33 "SchemeEleven$Scopes" "oldParts" "[I" ∈ zTw := zTw_of (zt_in_2 (List.mem_of_getElem? (i := 52) rfl)) rfl
theorem w_363 : Cond.fieldLink "SchemeEleven$Scopes" 30 "SchemeEleven$Scopes" "oldRules" "[I" ∈ zTw := zTw_of (zt_in_2 (List.mem_of_getElem? (i := 51) rfl)) rfl
theorem w_364 : Cond.fieldLink "SchemeEleven$Scopes" 21 "SchemeEleven$Scopes" "nexts" "[I" ∈ zTw := zTw_of (zt_in_2 (List.mem_of_getElem? (i := 47) rfl)) rfl
theorem w_365 : Cond.fieldLink "SchemeEleven$Scopes" 18 "SchemeEleven$Scopes" "outers" "[I" ∈ zTw := zTw_of (zt_in_2 (List.mem_of_getElem? (i := 46) rfl)) rfl
theorem w_366 : Cond.fieldLink "SchemeEleven$Scopes" 15 "SchemeEleven$Scopes" "infos" "[I" ∈ zTw := zTw_of (zt_in_2 (List.mem_of_getElem? (i := 45) rfl)) rfl
theorem w_367 : Cond.fieldLink "SchemeEleven$Scopes" 11 "SchemeEleven$Scopes" "names" "[I" ∈ zTw := zTw_of (zt_in_2 (List.mem_of_getElem? (i := 44) rfl)) rfl
theorem w_368 : Cond.methodLink "SchemeEleven$Scopes" 3 ⟨"java/lang/Object", "<init>", "()V"⟩ ∈ zTw := zTw_of (zt_in_2 (List.mem_of_getElem? (i := 42) rfl)) rfl
theorem w_369 : Cond.methodLink "SchemeEleven$Scopes" 77 ⟨"SchemeEleven$Text", "keep", "(I)I"⟩ ∈ zTw := zTw_of (zt_in_6 (List.mem_of_getElem? (i := 40) rfl)) rfl
theorem w_370 : Cond.code ⟨"SchemeEleven$Text", "keep", "(I)I"⟩ prog_12_method_26_code 2 (some FieldType.int) ∈ zTw := zTw_of (zt_in_6 (List.mem_of_getElem? (i := 43) rfl)) rfl
theorem w_371 : Cond.instanceMethod ⟨"SchemeEleven$Text", "keep", "(I)I"⟩ ∈ zTw := zTw_of (zt_in_6 (List.mem_of_getElem? (i := 41) rfl)) rfl
theorem w_372 : Cond.selects "SchemeEleven$Text" ⟨"SchemeEleven$Text", "keep", "(I)I"⟩ ⟨"SchemeEleven$Text", "keep", "(I)I"⟩ ∈ zTw := zTw_of (zt_in_6 (List.mem_of_getElem? (i := 42) rfl)) rfl
theorem w_373 : Cond.methodLink "SchemeEleven$Scopes" 72 ⟨"SchemeEleven$Text", "turnKept", "()V"⟩ ∈ zTw := zTw_of (zt_in_6 (List.mem_of_getElem? (i := 36) rfl)) rfl
theorem w_374 : Cond.code ⟨"SchemeEleven$Text", "turnKept", "()V"⟩ prog_12_method_25_code 1 none ∈ zTw := zTw_of (zt_in_6 (List.mem_of_getElem? (i := 39) rfl)) rfl
theorem w_375 : Cond.instanceMethod ⟨"SchemeEleven$Text", "turnKept", "()V"⟩ ∈ zTw := zTw_of (zt_in_6 (List.mem_of_getElem? (i := 37) rfl)) rfl
theorem w_376 : Cond.selects "SchemeEleven$Text" ⟨"SchemeEleven$Text", "turnKept", "()V"⟩ ⟨"SchemeEleven$Text", "turnKept", "()V"⟩ ∈ zTw := zTw_of (zt_in_6 (List.mem_of_getElem? (i := 38) rfl)) rfl
theorem w_377 : Cond.fieldLink "SchemeEleven$Scopes" 56 "SchemeEleven$Scopes" "changed" "Z" ∈ zTw := zTw_of (zt_in_2 (List.mem_of_getElem? (i := 58) rfl)) rfl
theorem w_378 : Cond.fieldLink "SchemeEleven$Scopes" 69 "SchemeEleven$Scopes" "oldAllParts" "I" ∈ zTw := zTw_of (zt_in_2 (List.mem_of_getElem? (i := 57) rfl)) rfl
theorem w_379 : Cond.fieldLink "SchemeEleven$Scopes" 66 "SchemeEleven$Scopes" "oldMacros" "I" ∈ zTw := zTw_of (zt_in_2 (List.mem_of_getElem? (i := 56) rfl)) rfl
theorem w_380 : Cond.methodLink "SchemeEleven$Scopes" 60 ⟨"java/lang/System", "arraycopy", "(Ljava/lang/Object;ILjava/lang/Object;II)V"⟩ ∈ zTw := zTw_of (zt_in_4 (List.mem_of_getElem? (i := 39) rfl)) rfl
theorem w_381 : Cond.native ⟨"java/lang/System", "arraycopy", "(Ljava/lang/Object;ILjava/lang/Object;II)V"⟩ ∈ zTw := zTw_of (zt_in_4 (List.mem_of_getElem? (i := 41) rfl)) rfl
theorem w_382 : Cond.static ⟨"java/lang/System", "arraycopy", "(Ljava/lang/Object;ILjava/lang/Object;II)V"⟩ ∈ zTw := zTw_of (zt_in_4 (List.mem_of_getElem? (i := 40) rfl)) rfl
theorem w_383 : Cond.initialized "java/lang/System" ∈ zTw := zTw_of (zt_in_1 (List.mem_of_getElem? (i := 19) rfl)) rfl
theorem w_384 : Cond.fieldLink "SchemeEleven$Scopes" 53 "SchemeEleven$Scopes" "told" "I" ∈ zTw := zTw_of (zt_in_2 (List.mem_of_getElem? (i := 48) rfl)) rfl
theorem w_385 : Cond.methodLink "SchemeEleven$Scopes" 89 ⟨"SchemeEleven$Scopes", "ofSymbol", "(I)I"⟩ ∈ zTw := zTw_of (zt_in_4 (List.mem_of_getElem? (i := 190) rfl)) rfl
theorem w_386 : Cond.code ⟨"SchemeEleven$Scopes", "ofSymbol", "(I)I"⟩ prog_9_method_10_code 2 (some FieldType.int) ∈ zTw := zTw_of (zt_in_4 (List.mem_of_getElem? (i := 193) rfl)) rfl
theorem w_387 : Cond.instanceMethod ⟨"SchemeEleven$Scopes", "ofSymbol", "(I)I"⟩ ∈ zTw := zTw_of (zt_in_4 (List.mem_of_getElem? (i := 192) rfl)) rfl
theorem w_388 : Cond.constant "SchemeEleven$Scopes" 88 (100000000 : Int32) ∈ zTw := zTw_of (zt_in_4 (List.mem_of_getElem? (i := 189) rfl)) rfl
theorem w_389 : Cond.methodLink "SchemeEleven$Scopes" 85 ⟨"SchemeEleven$Text", "nameOf", "(I)I"⟩ ∈ zTw := zTw_of (zt_in_4 (List.mem_of_getElem? (i := 188) rfl)) rfl
theorem w_390 : Cond.methodLink "SchemeEleven$Scopes" 81 ⟨"SchemeEleven$Text", "measure", "(III)I"⟩ ∈ zTw := zTw_of (zt_in_5 (List.mem_of_getElem? (i := 158) rfl)) rfl
theorem w_391 : Cond.code ⟨"SchemeEleven$Text", "measure", "(III)I"⟩ prog_12_method_21_code 4 (some FieldType.int) ∈ zTw := zTw_of (zt_in_5 (List.mem_of_getElem? (i := 161) rfl)) rfl
theorem w_392 : Cond.instanceMethod ⟨"SchemeEleven$Text", "measure", "(III)I"⟩ ∈ zTw := zTw_of (zt_in_5 (List.mem_of_getElem? (i := 159) rfl)) rfl
theorem w_393 : Cond.selects "SchemeEleven$Text" ⟨"SchemeEleven$Text", "measure", "(III)I"⟩ ⟨"SchemeEleven$Text", "measure", "(III)I"⟩ ∈ zTw := zTw_of (zt_in_5 (List.mem_of_getElem? (i := 160) rfl)) rfl
theorem w_394 : Cond.fieldLink "SchemeEleven$Scribe" 46 "SchemeEleven$Scribe" "ended" "Z" ∈ zTw := zTw_of (zt_in_1 (List.mem_of_getElem? (i := 156) rfl)) rfl
theorem w_395 : Cond.fieldLink "SchemeEleven$Scribe" 43 "SchemeEleven$Scribe" "parts" "I" ∈ zTw := zTw_of (zt_in_1 (List.mem_of_getElem? (i := 155) rfl)) rfl
theorem w_396 : Cond.fieldLink "SchemeEleven$Scribe" 40 "SchemeEleven$Scribe" "length" "I" ∈ zTw := zTw_of (zt_in_1 (List.mem_of_getElem? (i := 153) rfl)) rfl
theorem w_397 : Cond.fieldLink "SchemeEleven$Scribe" 30 "SchemeEleven$Scribe" "written" "I" ∈ zTw := zTw_of (zt_in_1 (List.mem_of_getElem? (i := 161) rfl)) rfl
theorem w_398 : Cond.fieldLink "SchemeEleven$Scribe" 26 "SchemeEleven$Scribe" "kept" "I" ∈ zTw := zTw_of (zt_in_1 (List.mem_of_getElem? (i := 159) rfl)) rfl
theorem w_399 : Cond.fieldLink "SchemeEleven$Scribe" 22 "SchemeEleven$Scribe" "heap" "LSchemeEleven$Heap;" ∈ zTw := zTw_of (zt_in_1 (List.mem_of_getElem? (i := 150) rfl)) rfl
theorem w_400 : Cond.fieldLink "SchemeEleven$Scribe" 18 "SchemeEleven$Scribe" "image" "LSchemeEleven$Image;" ∈ zTw := zTw_of (zt_in_1 (List.mem_of_getElem? (i := 149) rfl)) rfl
theorem w_401 : Cond.fieldLink "SchemeEleven$Scribe" 15 "SchemeEleven$Scribe" "paper" "[I" ∈ zTw := zTw_of (zt_in_1 (List.mem_of_getElem? (i := 157) rfl)) rfl
theorem w_402 : Cond.fieldLink "SchemeEleven$Scribe" 9 "SchemeEleven$Scribe" "line" "[I" ∈ zTw := zTw_of (zt_in_1 (List.mem_of_getElem? (i := 151) rfl)) rfl
theorem w_403 : Cond.methodLink "SchemeEleven$Scribe" 3 ⟨"java/lang/Object", "<init>", "()V"⟩ ∈ zTw := zTw_of (zt_in_1 (List.mem_of_getElem? (i := 148) rfl)) rfl
theorem w_404 : Cond.code ⟨"SchemeEleven", "isPrimitive", "(I)Z"⟩ prog_1_method_20_code 1 (some FieldType.boolean) ∈ zTw := zTw_of (zt_in_7 (List.mem_of_getElem? (i := 127) rfl)) rfl
theorem w_405 : Cond.initialized "SchemeEleven" ∈ zTw := zTw_of (zt_in_1 (List.mem_of_getElem? (i := 1) rfl)) rfl
theorem w_406 : Cond.static ⟨"SchemeEleven", "isPrimitive", "(I)Z"⟩ ∈ zTw := zTw_of (zt_in_7 (List.mem_of_getElem? (i := 126) rfl)) rfl
theorem w_407 : Cond.methodLink "SchemeEleven$Scribe" 78 ⟨"SchemeEleven$Scribe", "mark", "(II)V"⟩ ∈ zTw := zTw_of (zt_in_7 (List.mem_of_getElem? (i := 224) rfl)) rfl
theorem w_408 : Cond.code ⟨"SchemeEleven$Scribe", "mark", "(II)V"⟩ prog_10_method_10_code 4 none ∈ zTw := zTw_of (zt_in_7 (List.mem_of_getElem? (i := 227) rfl)) rfl
theorem w_409 : Cond.initialized "SchemeEleven$Scribe" ∈ zTw := zTw_of (zt_in_1 (List.mem_of_getElem? (i := 6) rfl)) rfl
theorem w_410 : Cond.instanceMethod ⟨"SchemeEleven$Scribe", "mark", "(II)V"⟩ ∈ zTw := zTw_of (zt_in_7 (List.mem_of_getElem? (i := 226) rfl)) rfl
theorem w_411 : Cond.methodLink "SchemeEleven$Scribe" 50 ⟨"SchemeEleven$Heap", "kind", "(I)I"⟩ ∈ zTw := zTw_of (zt_in_7 (List.mem_of_getElem? (i := 199) rfl)) rfl
theorem w_412 : Cond.code ⟨"SchemeEleven$Heap", "kind", "(I)I"⟩ prog_3_method_3_code 3 (some FieldType.int) ∈ zTw := zTw_of (zt_in_7 (List.mem_of_getElem? (i := 123) rfl)) rfl
theorem w_413 : Cond.initialized "SchemeEleven$Heap" ∈ zTw := zTw_of (zt_in_1 (List.mem_of_getElem? (i := 5) rfl)) rfl
theorem w_414 : Cond.instanceMethod ⟨"SchemeEleven$Heap", "kind", "(I)I"⟩ ∈ zTw := zTw_of (zt_in_7 (List.mem_of_getElem? (i := 121) rfl)) rfl
theorem w_415 : Cond.selects "SchemeEleven$Heap" ⟨"SchemeEleven$Heap", "kind", "(I)I"⟩ ⟨"SchemeEleven$Heap", "kind", "(I)I"⟩ ∈ zTw := zTw_of (zt_in_7 (List.mem_of_getElem? (i := 122) rfl)) rfl
theorem w_416 : Cond.methodLink "SchemeEleven$Scribe" 36 ⟨"SchemeEleven$Scribe", "part", "(II)V"⟩ ∈ zTw := zTw_of (zt_in_7 (List.mem_of_getElem? (i := 195) rfl)) rfl
theorem w_417 : Cond.code ⟨"SchemeEleven$Scribe", "part", "(II)V"⟩ prog_10_method_8_code 4 none ∈ zTw := zTw_of (zt_in_7 (List.mem_of_getElem? (i := 198) rfl)) rfl
theorem w_418 : Cond.instanceMethod ⟨"SchemeEleven$Scribe", "part", "(II)V"⟩ ∈ zTw := zTw_of (zt_in_7 (List.mem_of_getElem? (i := 197) rfl)) rfl
theorem w_419 : Cond.methodLink "SchemeEleven$Scribe" 33 ⟨"SchemeEleven$Scribe", "begin", "()V"⟩ ∈ zTw := zTw_of (zt_in_7 (List.mem_of_getElem? (i := 191) rfl)) rfl
theorem w_420 : Cond.code ⟨"SchemeEleven$Scribe", "begin", "()V"⟩ prog_10_method_6_code 1 none ∈ zTw := zTw_of (zt_in_7 (List.mem_of_getElem? (i := 194) rfl)) rfl
theorem w_421 : Cond.instanceMethod ⟨"SchemeEleven$Scribe", "begin", "()V"⟩ ∈ zTw := zTw_of (zt_in_7 (List.mem_of_getElem? (i := 193) rfl)) rfl
theorem w_422 : Cond.methodLink "SchemeEleven$Spreader" 68 ⟨"SchemeEleven$Text", "kind", "(I)I"⟩ ∈ zTw := zTw_of (zt_in_5 (List.mem_of_getElem? (i := 95) rfl)) rfl
theorem w_423 : Cond.fieldLink "SchemeEleven$Spreader" 15 "SchemeEleven$Spreader" "text" "LSchemeEleven$Text;" ∈ zTw := zTw_of (zt_in_2 (List.mem_of_getElem? (i := 204) rfl)) rfl
theorem w_424 : Cond.methodLink "SchemeEleven$Spreader" 39 ⟨"SchemeEleven$Text", "rest", "(I)I"⟩ ∈ zTw := zTw_of (zt_in_5 (List.mem_of_getElem? (i := 85) rfl)) rfl
theorem w_425 : Cond.methodLink "SchemeEleven$Spreader" 65 ⟨"SchemeEleven$Text", "isName", "(I)Z"⟩ ∈ zTw := zTw_of (zt_in_5 (List.mem_of_getElem? (i := 94) rfl)) rfl
theorem w_426 : Cond.methodLink "SchemeEleven$Spreader" 45 ⟨"SchemeEleven$Text", "first", "(I)I"⟩ ∈ zTw := zTw_of (zt_in_5 (List.mem_of_getElem? (i := 86) rfl)) rfl
theorem w_427 : Cond.methodLink "SchemeEleven$Spreader" 58 ⟨"SchemeEleven$Text", "isCons", "(I)Z"⟩ ∈ zTw := zTw_of (zt_in_5 (List.mem_of_getElem? (i := 93) rfl)) rfl
theorem w_428 : Cond.fieldLink "SchemeEleven$Spreader" 36 "SchemeEleven$Spreader" "made" "I" ∈ zTw := zTw_of (zt_in_2 (List.mem_of_getElem? (i := 208) rfl)) rfl
theorem w_429 : Cond.fieldLink "SchemeEleven$Spreader" 32 "SchemeEleven$Spreader" "uses" "I" ∈ zTw := zTw_of (zt_in_2 (List.mem_of_getElem? (i := 207) rfl)) rfl
theorem w_430 : Cond.fieldLink "SchemeEleven$Spreader" 28 "SchemeEleven$Spreader" "pattern" "LSchemeEleven$Pattern;" ∈ zTw := zTw_of (zt_in_2 (List.mem_of_getElem? (i := 206) rfl)) rfl
theorem w_431 : Cond.methodLink "SchemeEleven$Spreader" 25 ⟨"SchemeEleven$Pattern", "<init>", "(LSchemeEleven$Text;)V"⟩ ∈ zTw := zTw_of (zt_in_2 (List.mem_of_getElem? (i := 142) rfl)) rfl
theorem w_432 : Cond.code ⟨"SchemeEleven$Pattern", "<init>", "(LSchemeEleven$Text;)V"⟩ prog_6_method_1_code 2 none ∈ zTw := zTw_of (zt_in_2 (List.mem_of_getElem? (i := 144) rfl)) rfl
theorem w_433 : Cond.instanceMethod ⟨"SchemeEleven$Pattern", "<init>", "(LSchemeEleven$Text;)V"⟩ ∈ zTw := zTw_of (zt_in_2 (List.mem_of_getElem? (i := 143) rfl)) rfl
theorem w_434 : Cond.classLink "SchemeEleven$Spreader" 23 "SchemeEleven$Pattern" ∈ zTw := zTw_of (zt_in_2 (List.mem_of_getElem? (i := 140) rfl)) rfl
theorem w_435 : Cond.instantiable "SchemeEleven$Pattern" 19 ∈ zTw := zTw_of (zt_in_2 (List.mem_of_getElem? (i := 141) rfl)) rfl
theorem w_436 : Cond.fieldLink "SchemeEleven$Spreader" 19 "SchemeEleven$Spreader" "scopes" "LSchemeEleven$Scopes;" ∈ zTw := zTw_of (zt_in_2 (List.mem_of_getElem? (i := 205) rfl)) rfl
theorem w_437 : Cond.fieldLink "SchemeEleven$Spreader" 11 "SchemeEleven$Spreader" "aliases" "[I" ∈ zTw := zTw_of (zt_in_2 (List.mem_of_getElem? (i := 213) rfl)) rfl
theorem w_438 : Cond.methodLink "SchemeEleven$Spreader" 3 ⟨"java/lang/Object", "<init>", "()V"⟩ ∈ zTw := zTw_of (zt_in_2 (List.mem_of_getElem? (i := 139) rfl)) rfl
theorem w_439 : Cond.methodLink "SchemeEleven$Spreader" 86 ⟨"SchemeEleven$Spreader", "isTemplate", "(III)Z"⟩ ∈ zTw := zTw_of (zt_in_5 (List.mem_of_getElem? (i := 139) rfl)) rfl
theorem w_440 : Cond.code ⟨"SchemeEleven$Spreader", "isTemplate", "(III)Z"⟩ prog_11_method_6_code 9 (some FieldType.boolean) ∈ zTw := zTw_of (zt_in_5 (List.mem_of_getElem? (i := 142) rfl)) rfl
theorem w_441 : Cond.instanceMethod ⟨"SchemeEleven$Spreader", "isTemplate", "(III)Z"⟩ ∈ zTw := zTw_of (zt_in_5 (List.mem_of_getElem? (i := 141) rfl)) rfl
theorem w_442 : Cond.methodLink "SchemeEleven$Spreader" 82 ⟨"SchemeEleven$Pattern", "hasTwins", "()Z"⟩ ∈ zTw := zTw_of (zt_in_5 (List.mem_of_getElem? (i := 131) rfl)) rfl
theorem w_443 : Cond.code ⟨"SchemeEleven$Pattern", "hasTwins", "()Z"⟩ prog_6_method_6_code 2 (some FieldType.boolean) ∈ zTw := zTw_of (zt_in_5 (List.mem_of_getElem? (i := 134) rfl)) rfl
theorem w_444 : Cond.instanceMethod ⟨"SchemeEleven$Pattern", "hasTwins", "()Z"⟩ ∈ zTw := zTw_of (zt_in_5 (List.mem_of_getElem? (i := 132) rfl)) rfl
theorem w_445 : Cond.selects "SchemeEleven$Pattern" ⟨"SchemeEleven$Pattern", "hasTwins", "()Z"⟩ ⟨"SchemeEleven$Pattern", "hasTwins", "()Z"⟩ ∈ zTw := zTw_of (zt_in_5 (List.mem_of_getElem? (i := 133) rfl)) rfl
theorem w_446 : Cond.methodLink "SchemeEleven$Spreader" 74 ⟨"SchemeEleven$Pattern", "begin", "(I)V"⟩ ∈ zTw := zTw_of (zt_in_5 (List.mem_of_getElem? (i := 100) rfl)) rfl
theorem w_447 : Cond.code ⟨"SchemeEleven$Pattern", "begin", "(I)V"⟩ prog_6_method_2_code 2 none ∈ zTw := zTw_of (zt_in_5 (List.mem_of_getElem? (i := 103) rfl)) rfl
theorem w_448 : Cond.instanceMethod ⟨"SchemeEleven$Pattern", "begin", "(I)V"⟩ ∈ zTw := zTw_of (zt_in_5 (List.mem_of_getElem? (i := 101) rfl)) rfl
theorem w_449 : Cond.selects "SchemeEleven$Pattern" ⟨"SchemeEleven$Pattern", "begin", "(I)V"⟩ ⟨"SchemeEleven$Pattern", "begin", "(I)V"⟩ ∈ zTw := zTw_of (zt_in_5 (List.mem_of_getElem? (i := 102) rfl)) rfl
theorem w_450 : Cond.fieldLink "SchemeEleven$Spreader" 71 "SchemeEleven$Spreader" "seen" "I" ∈ zTw := zTw_of (zt_in_2 (List.mem_of_getElem? (i := 209) rfl)) rfl
theorem w_451 : Cond.methodLink "SchemeEleven$Spreader" 48 ⟨"SchemeEleven$Text", "count", "(I)I"⟩ ∈ zTw := zTw_of (zt_in_5 (List.mem_of_getElem? (i := 87) rfl)) rfl
theorem w_452 : Cond.methodLink "SchemeEleven$Spreader" 61 ⟨"SchemeEleven$Spreader", "isRule", "(II)Z"⟩ ∈ zTw := zTw_of (zt_in_5 (List.mem_of_getElem? (i := 96) rfl)) rfl
theorem w_453 : Cond.code ⟨"SchemeEleven$Spreader", "isRule", "(II)Z"⟩ prog_11_method_5_code 4 (some FieldType.boolean) ∈ zTw := zTw_of (zt_in_5 (List.mem_of_getElem? (i := 99) rfl)) rfl
theorem w_454 : Cond.instanceMethod ⟨"SchemeEleven$Spreader", "isRule", "(II)Z"⟩ ∈ zTw := zTw_of (zt_in_5 (List.mem_of_getElem? (i := 98) rfl)) rfl
theorem w_455 : Cond.methodLink "SchemeEleven$Spreader" 54 ⟨"SchemeEleven$Spreader", "areNames", "(I)Z"⟩ ∈ zTw := zTw_of (zt_in_5 (List.mem_of_getElem? (i := 89) rfl)) rfl
theorem w_456 : Cond.code ⟨"SchemeEleven$Spreader", "areNames", "(I)Z"⟩ prog_11_method_4_code 4 (some FieldType.boolean) ∈ zTw := zTw_of (zt_in_5 (List.mem_of_getElem? (i := 92) rfl)) rfl
theorem w_457 : Cond.instanceMethod ⟨"SchemeEleven$Spreader", "areNames", "(I)Z"⟩ ∈ zTw := zTw_of (zt_in_5 (List.mem_of_getElem? (i := 91) rfl)) rfl
theorem w_458 : Cond.methodLink "SchemeEleven$Spreader" 51 ⟨"SchemeEleven$Text", "symbolAtLast", "(I)I"⟩ ∈ zTw := zTw_of (zt_in_5 (List.mem_of_getElem? (i := 88) rfl)) rfl
theorem w_459 : Cond.methodLink "SchemeEleven$Spreader" 99 ⟨"SchemeEleven$Pattern", "depthOf", "(I)I"⟩ ∈ zTw := zTw_of (zt_in_5 (List.mem_of_getElem? (i := 146) rfl)) rfl
theorem w_460 : Cond.code ⟨"SchemeEleven$Pattern", "depthOf", "(I)I"⟩ prog_6_method_9_code 2 (some FieldType.int) ∈ zTw := zTw_of (zt_in_5 (List.mem_of_getElem? (i := 149) rfl)) rfl
theorem w_461 : Cond.instanceMethod ⟨"SchemeEleven$Pattern", "depthOf", "(I)I"⟩ ∈ zTw := zTw_of (zt_in_5 (List.mem_of_getElem? (i := 147) rfl)) rfl
theorem w_462 : Cond.selects "SchemeEleven$Pattern" ⟨"SchemeEleven$Pattern", "depthOf", "(I)I"⟩ ⟨"SchemeEleven$Pattern", "depthOf", "(I)I"⟩ ∈ zTw := zTw_of (zt_in_5 (List.mem_of_getElem? (i := 148) rfl)) rfl
theorem w_463 : Cond.methodLink "SchemeEleven$Spreader" 96 ⟨"SchemeEleven$Pattern", "find", "(I)I"⟩ ∈ zTw := zTw_of (zt_in_5 (List.mem_of_getElem? (i := 145) rfl)) rfl
theorem w_464 : Cond.methodLink "SchemeEleven$Spreader" 93 ⟨"SchemeEleven$Text", "nameOf", "(I)I"⟩ ∈ zTw := zTw_of (zt_in_5 (List.mem_of_getElem? (i := 144) rfl)) rfl
theorem w_465 : Cond.methodLink "SchemeEleven$Spreader" 90 ⟨"SchemeEleven$Text", "repeats", "(I)Z"⟩ ∈ zTw := zTw_of (zt_in_5 (List.mem_of_getElem? (i := 143) rfl)) rfl
theorem w_466 : Cond.fieldLink "SchemeEleven$Text" 21 "SchemeEleven$Text" "used" "I" ∈ zTw := zTw_of (zt_in_2 (List.mem_of_getElem? (i := 7) rfl)) rfl
theorem w_467 : Cond.fieldLink "SchemeEleven$Text" 18 "SchemeEleven$Text" "seconds" "[I" ∈ zTw := zTw_of (zt_in_2 (List.mem_of_getElem? (i := 6) rfl)) rfl
theorem w_468 : Cond.fieldLink "SchemeEleven$Text" 15 "SchemeEleven$Text" "firsts" "[I" ∈ zTw := zTw_of (zt_in_2 (List.mem_of_getElem? (i := 5) rfl)) rfl
theorem w_469 : Cond.fieldLink "SchemeEleven$Text" 11 "SchemeEleven$Text" "tags" "[I" ∈ zTw := zTw_of (zt_in_2 (List.mem_of_getElem? (i := 4) rfl)) rfl
theorem w_470 : Cond.methodLink "SchemeEleven$Text" 40 ⟨"java/lang/Math", "min", "(II)I"⟩ ∈ zTw := zTw_of (zt_in_3 (List.mem_of_getElem? (i := 180) rfl)) rfl
theorem w_471 : Cond.fieldLink "SchemeEleven$Text" 31 "SchemeEleven$Text" "keptUsed" "I" ∈ zTw := zTw_of (zt_in_2 (List.mem_of_getElem? (i := 9) rfl)) rfl
theorem w_472 : Cond.fieldLink "SchemeEleven$Text" 28 "SchemeEleven$Text" "half" "I" ∈ zTw := zTw_of (zt_in_2 (List.mem_of_getElem? (i := 8) rfl)) rfl
theorem w_473 : Cond.fieldLink "SchemeEleven$Text" 25 "SchemeEleven$Text" "faultPlace" "I" ∈ zTw := zTw_of (zt_in_2 (List.mem_of_getElem? (i := 15) rfl)) rfl
theorem w_474 : Cond.fieldLink "SchemeEleven$Text" 37 "SchemeEleven$Text" "fault" "I" ∈ zTw := zTw_of (zt_in_2 (List.mem_of_getElem? (i := 10) rfl)) rfl
theorem w_475 : Cond.methodLink "SchemeEleven$Text" 34 ⟨"SchemeEleven$Text", "begin", "()V"⟩ ∈ zTw := zTw_of (zt_in_3 (List.mem_of_getElem? (i := 76) rfl)) rfl
theorem w_476 : Cond.code ⟨"SchemeEleven$Text", "begin", "()V"⟩ prog_12_method_3_code 1 none ∈ zTw := zTw_of (zt_in_3 (List.mem_of_getElem? (i := 79) rfl)) rfl
theorem w_477 : Cond.instanceMethod ⟨"SchemeEleven$Text", "begin", "()V"⟩ ∈ zTw := zTw_of (zt_in_3 (List.mem_of_getElem? (i := 77) rfl)) rfl
theorem w_478 : Cond.selects "SchemeEleven$Text" ⟨"SchemeEleven$Text", "begin", "()V"⟩ ⟨"SchemeEleven$Text", "begin", "()V"⟩ ∈ zTw := zTw_of (zt_in_3 (List.mem_of_getElem? (i := 78) rfl)) rfl
theorem w_479 : Cond.methodLink "SchemeEleven$Text" 75 ⟨"SchemeEleven$Text", "setRest", "(II)V"⟩ ∈ zTw := zTw_of (zt_in_6 (List.mem_of_getElem? (i := 53) rfl)) rfl
theorem w_480 : Cond.methodLink "SchemeEleven$Text" 68 ⟨"SchemeEleven$Text", "addKept", "(I)I"⟩ ∈ zTw := zTw_of (zt_in_6 (List.mem_of_getElem? (i := 48) rfl)) rfl
theorem w_481 : Cond.code ⟨"SchemeEleven$Text", "addKept", "(I)I"⟩ prog_12_method_28_code 4 (some FieldType.int) ∈ zTw := zTw_of (zt_in_6 (List.mem_of_getElem? (i := 51) rfl)) rfl
theorem w_482 : Cond.instanceMethod ⟨"SchemeEleven$Text", "addKept", "(I)I"⟩ ∈ zTw := zTw_of (zt_in_6 (List.mem_of_getElem? (i := 50) rfl)) rfl
theorem w_483 : Cond.methodLink "SchemeEleven$Text" 71 ⟨"SchemeEleven$Text", "setFirst", "(II)V"⟩ ∈ zTw := zTw_of (zt_in_6 (List.mem_of_getElem? (i := 52) rfl)) rfl
theorem w_484 : Cond.code ⟨"SchemeEleven$Text", "setFirst", "(II)V"⟩ prog_12_method_11_code 3 none ∈ zTw := zTw_of (zt_in_6 (List.mem_of_getElem? (i := 9) rfl)) rfl
theorem w_485 : Cond.instanceMethod ⟨"SchemeEleven$Text", "setFirst", "(II)V"⟩ ∈ zTw := zTw_of (zt_in_6 (List.mem_of_getElem? (i := 7) rfl)) rfl
theorem w_486 : Cond.selects "SchemeEleven$Text" ⟨"SchemeEleven$Text", "setFirst", "(II)V"⟩ ⟨"SchemeEleven$Text", "setFirst", "(II)V"⟩ ∈ zTw := zTw_of (zt_in_6 (List.mem_of_getElem? (i := 8) rfl)) rfl
theorem w_487 : Cond.methodLink "SchemeEleven$Text" 65 ⟨"SchemeEleven$Text", "copy", "(II)I"⟩ ∈ zTw := zTw_of (zt_in_6 (List.mem_of_getElem? (i := 44) rfl)) rfl
theorem w_488 : Cond.code ⟨"SchemeEleven$Text", "copy", "(II)I"⟩ prog_12_method_27_code 7 (some FieldType.int) ∈ zTw := zTw_of (zt_in_6 (List.mem_of_getElem? (i := 47) rfl)) rfl
theorem w_489 : Cond.instanceMethod ⟨"SchemeEleven$Text", "copy", "(II)I"⟩ ∈ zTw := zTw_of (zt_in_6 (List.mem_of_getElem? (i := 46) rfl)) rfl
theorem w_490 : Cond.methodLink "SchemeEleven$Text" 46 ⟨"SchemeEleven$Text", "isCons", "(I)Z"⟩ ∈ zTw := zTw_of (zt_in_4 (List.mem_of_getElem? (i := 147) rfl)) rfl
theorem w_491 : Cond.methodLink "SchemeEleven$Text" 50 ⟨"SchemeEleven$Text", "kind", "(I)I"⟩ ∈ zTw := zTw_of (zt_in_4 (List.mem_of_getElem? (i := 148) rfl)) rfl
theorem w_492 : Cond.methodLink "SchemeEleven$Text" 61 ⟨"SchemeEleven$Text", "findsAlias", "(II)Z"⟩ ∈ zTw := zTw_of (zt_in_5 (List.mem_of_getElem? (i := 4) rfl)) rfl
theorem w_493 : Cond.code ⟨"SchemeEleven$Text", "findsAlias", "(II)Z"⟩ prog_12_method_24_code 5 (some FieldType.boolean) ∈ zTw := zTw_of (zt_in_5 (List.mem_of_getElem? (i := 7) rfl)) rfl
theorem w_494 : Cond.instanceMethod ⟨"SchemeEleven$Text", "findsAlias", "(II)Z"⟩ ∈ zTw := zTw_of (zt_in_5 (List.mem_of_getElem? (i := 6) rfl)) rfl
theorem w_495 : Cond.methodLink "SchemeEleven$Text" 5 ⟨"java/lang/Object", "<init>", "()V"⟩ ∈ zTw := zTw_of (zt_in_2 (List.mem_of_getElem? (i := 3) rfl)) rfl
theorem w_496 : Cond.fieldLink "SchemeEleven$Text" 54 "SchemeEleven$Text" "measured" "I" ∈ zTw := zTw_of (zt_in_2 (List.mem_of_getElem? (i := 17) rfl)) rfl
theorem w_497 : Cond.methodLink "SchemeEleven$Text" 57 ⟨"SchemeEleven$Text", "weigh", "(III)V"⟩ ∈ zTw := zTw_of (zt_in_5 (List.mem_of_getElem? (i := 162) rfl)) rfl
theorem w_498 : Cond.code ⟨"SchemeEleven$Text", "weigh", "(III)V"⟩ prog_12_method_22_code 5 none ∈ zTw := zTw_of (zt_in_5 (List.mem_of_getElem? (i := 165) rfl)) rfl
theorem w_499 : Cond.instanceMethod ⟨"SchemeEleven$Text", "weigh", "(III)V"⟩ ∈ zTw := zTw_of (zt_in_5 (List.mem_of_getElem? (i := 164) rfl)) rfl
theorem w_500 : Cond.fieldLink "SchemeEleven" 102 "SchemeEleven" "faultPlace" "I" ∈ zTw := zTw_of (zt_in_6 (List.mem_of_getElem? (i := 71) rfl)) rfl
theorem w_501 : Cond.fieldLink "SchemeEleven" 131 "SchemeEleven" "faultKind" "I" ∈ zTw := zTw_of (zt_in_6 (List.mem_of_getElem? (i := 70) rfl)) rfl
theorem w_502 : Cond.methodLink "SchemeEleven" 236 ⟨"SchemeEleven$Scopes", "clear", "()V"⟩ ∈ zTw := zTw_of (zt_in_3 (List.mem_of_getElem? (i := 80) rfl)) rfl
theorem w_503 : Cond.code ⟨"SchemeEleven$Scopes", "clear", "()V"⟩ prog_9_method_2_code 1 none ∈ zTw := zTw_of (zt_in_3 (List.mem_of_getElem? (i := 83) rfl)) rfl
theorem w_504 : Cond.instanceMethod ⟨"SchemeEleven$Scopes", "clear", "()V"⟩ ∈ zTw := zTw_of (zt_in_3 (List.mem_of_getElem? (i := 81) rfl)) rfl
theorem w_505 : Cond.selects "SchemeEleven$Scopes" ⟨"SchemeEleven$Scopes", "clear", "()V"⟩ ⟨"SchemeEleven$Scopes", "clear", "()V"⟩ ∈ zTw := zTw_of (zt_in_3 (List.mem_of_getElem? (i := 82) rfl)) rfl
theorem w_506 : Cond.fieldLink "SchemeEleven" 74 "SchemeEleven" "scopes" "LSchemeEleven$Scopes;" ∈ zTw := zTw_of (zt_in_6 (List.mem_of_getElem? (i := 64) rfl)) rfl
theorem w_507 : Cond.methodLink "SchemeEleven" 235 ⟨"SchemeEleven$Text", "clear", "()V"⟩ ∈ zTw := zTw_of (zt_in_3 (List.mem_of_getElem? (i := 72) rfl)) rfl
theorem w_508 : Cond.code ⟨"SchemeEleven$Text", "clear", "()V"⟩ prog_12_method_2_code 1 none ∈ zTw := zTw_of (zt_in_3 (List.mem_of_getElem? (i := 75) rfl)) rfl
theorem w_509 : Cond.instanceMethod ⟨"SchemeEleven$Text", "clear", "()V"⟩ ∈ zTw := zTw_of (zt_in_3 (List.mem_of_getElem? (i := 73) rfl)) rfl
theorem w_510 : Cond.selects "SchemeEleven$Text" ⟨"SchemeEleven$Text", "clear", "()V"⟩ ⟨"SchemeEleven$Text", "clear", "()V"⟩ ∈ zTw := zTw_of (zt_in_3 (List.mem_of_getElem? (i := 74) rfl)) rfl
theorem w_511 : Cond.fieldLink "SchemeEleven" 65 "SchemeEleven" "text" "LSchemeEleven$Text;" ∈ zTw := zTw_of (zt_in_6 (List.mem_of_getElem? (i := 63) rfl)) rfl
theorem w_512 : Cond.methodLink "SchemeEleven" 234 ⟨"SchemeEleven$Runner", "clear", "()V"⟩ ∈ zTw := zTw_of (zt_in_3 (List.mem_of_getElem? (i := 68) rfl)) rfl
theorem w_513 : Cond.code ⟨"SchemeEleven$Runner", "clear", "()V"⟩ prog_8_method_2_code 1 none ∈ zTw := zTw_of (zt_in_3 (List.mem_of_getElem? (i := 71) rfl)) rfl
theorem w_514 : Cond.initialized "SchemeEleven$Runner" ∈ zTw := zTw_of (zt_in_1 (List.mem_of_getElem? (i := 7) rfl)) rfl
theorem w_515 : Cond.instanceMethod ⟨"SchemeEleven$Runner", "clear", "()V"⟩ ∈ zTw := zTw_of (zt_in_3 (List.mem_of_getElem? (i := 69) rfl)) rfl
theorem w_516 : Cond.selects "SchemeEleven$Runner" ⟨"SchemeEleven$Runner", "clear", "()V"⟩ ⟨"SchemeEleven$Runner", "clear", "()V"⟩ ∈ zTw := zTw_of (zt_in_3 (List.mem_of_getElem? (i := 70) rfl)) rfl
theorem w_517 : Cond.fieldLink "SchemeEleven" 58 "SchemeEleven" "runner" "LSchemeEleven$Runner;" ∈ zTw := zTw_of (zt_in_6 (List.mem_of_getElem? (i := 62) rfl)) rfl
theorem w_518 : Cond.methodLink "SchemeEleven" 233 ⟨"SchemeEleven$Scribe", "clear", "()V"⟩ ∈ zTw := zTw_of (zt_in_3 (List.mem_of_getElem? (i := 64) rfl)) rfl
theorem w_519 : Cond.code ⟨"SchemeEleven$Scribe", "clear", "()V"⟩ prog_10_method_2_code 1 none ∈ zTw := zTw_of (zt_in_3 (List.mem_of_getElem? (i := 67) rfl)) rfl
theorem w_520 : Cond.instanceMethod ⟨"SchemeEleven$Scribe", "clear", "()V"⟩ ∈ zTw := zTw_of (zt_in_3 (List.mem_of_getElem? (i := 65) rfl)) rfl
theorem w_521 : Cond.selects "SchemeEleven$Scribe" ⟨"SchemeEleven$Scribe", "clear", "()V"⟩ ⟨"SchemeEleven$Scribe", "clear", "()V"⟩ ∈ zTw := zTw_of (zt_in_3 (List.mem_of_getElem? (i := 66) rfl)) rfl
theorem w_522 : Cond.fieldLink "SchemeEleven" 49 "SchemeEleven" "scribe" "LSchemeEleven$Scribe;" ∈ zTw := zTw_of (zt_in_6 (List.mem_of_getElem? (i := 61) rfl)) rfl
theorem w_523 : Cond.methodLink "SchemeEleven" 232 ⟨"SchemeEleven$Heap", "clear", "()V"⟩ ∈ zTw := zTw_of (zt_in_3 (List.mem_of_getElem? (i := 60) rfl)) rfl
theorem w_524 : Cond.code ⟨"SchemeEleven$Heap", "clear", "()V"⟩ prog_3_method_2_code 1 none ∈ zTw := zTw_of (zt_in_3 (List.mem_of_getElem? (i := 63) rfl)) rfl
theorem w_525 : Cond.instanceMethod ⟨"SchemeEleven$Heap", "clear", "()V"⟩ ∈ zTw := zTw_of (zt_in_3 (List.mem_of_getElem? (i := 61) rfl)) rfl
theorem w_526 : Cond.selects "SchemeEleven$Heap" ⟨"SchemeEleven$Heap", "clear", "()V"⟩ ⟨"SchemeEleven$Heap", "clear", "()V"⟩ ∈ zTw := zTw_of (zt_in_3 (List.mem_of_getElem? (i := 62) rfl)) rfl
theorem w_527 : Cond.fieldLink "SchemeEleven" 40 "SchemeEleven" "heap" "LSchemeEleven$Heap;" ∈ zTw := zTw_of (zt_in_6 (List.mem_of_getElem? (i := 60) rfl)) rfl
theorem w_528 : Cond.methodLink "SchemeEleven" 231 ⟨"SchemeEleven$Image", "clear", "()V"⟩ ∈ zTw := zTw_of (zt_in_3 (List.mem_of_getElem? (i := 56) rfl)) rfl
theorem w_529 : Cond.code ⟨"SchemeEleven$Image", "clear", "()V"⟩ prog_4_method_2_code 1 none ∈ zTw := zTw_of (zt_in_3 (List.mem_of_getElem? (i := 59) rfl)) rfl
theorem w_530 : Cond.instanceMethod ⟨"SchemeEleven$Image", "clear", "()V"⟩ ∈ zTw := zTw_of (zt_in_3 (List.mem_of_getElem? (i := 57) rfl)) rfl
theorem w_531 : Cond.selects "SchemeEleven$Image" ⟨"SchemeEleven$Image", "clear", "()V"⟩ ⟨"SchemeEleven$Image", "clear", "()V"⟩ ∈ zTw := zTw_of (zt_in_3 (List.mem_of_getElem? (i := 58) rfl)) rfl
theorem w_532 : Cond.fieldLink "SchemeEleven" 31 "SchemeEleven" "image" "LSchemeEleven$Image;" ∈ zTw := zTw_of (zt_in_6 (List.mem_of_getElem? (i := 59) rfl)) rfl
theorem w_533 : Cond.methodLink "SchemeEleven" 228 ⟨"SchemeEleven$Machine", "clear", "()V"⟩ ∈ zTw := zTw_of (zt_in_3 (List.mem_of_getElem? (i := 45) rfl)) rfl
theorem w_534 : Cond.code ⟨"SchemeEleven$Machine", "clear", "()V"⟩ prog_5_method_2_code 1 none ∈ zTw := zTw_of (zt_in_3 (List.mem_of_getElem? (i := 48) rfl)) rfl
theorem w_535 : Cond.instanceMethod ⟨"SchemeEleven$Machine", "clear", "()V"⟩ ∈ zTw := zTw_of (zt_in_3 (List.mem_of_getElem? (i := 46) rfl)) rfl
theorem w_536 : Cond.selects "SchemeEleven$Machine" ⟨"SchemeEleven$Machine", "clear", "()V"⟩ ⟨"SchemeEleven$Machine", "clear", "()V"⟩ ∈ zTw := zTw_of (zt_in_3 (List.mem_of_getElem? (i := 47) rfl)) rfl
theorem w_537 : Cond.fieldLink "SchemeEleven" 23 "SchemeEleven" "machine" "LSchemeEleven$Machine;" ∈ zTw := zTw_of (zt_in_6 (List.mem_of_getElem? (i := 58) rfl)) rfl
theorem w_538 : Cond.fieldLink "SchemeEleven" 122 "SchemeEleven" "taped" "I" ∈ zTw := zTw_of (zt_in_6 (List.mem_of_getElem? (i := 55) rfl)) rfl
theorem w_539 : Cond.methodLink "SchemeEleven" 125 ⟨"SchemeEleven", "tapeFour", "(I)V"⟩ ∈ zTw := zTw_of (zt_in_6 (List.mem_of_getElem? (i := 114) rfl)) rfl
theorem w_540 : Cond.code ⟨"SchemeEleven", "tapeFour", "(I)V"⟩ prog_1_method_21_code 3 none ∈ zTw := zTw_of (zt_in_6 (List.mem_of_getElem? (i := 117) rfl)) rfl
theorem w_541 : Cond.instanceMethod ⟨"SchemeEleven", "tapeFour", "(I)V"⟩ ∈ zTw := zTw_of (zt_in_6 (List.mem_of_getElem? (i := 116) rfl)) rfl
theorem w_542 : Cond.fieldLink "SchemeEleven" 221 "SchemeEleven" "benchSteps" "I" ∈ zTw := zTw_of (zt_in_6 (List.mem_of_getElem? (i := 57) rfl)) rfl
theorem w_543 : Cond.methodLink "SchemeEleven" 224 ⟨"SchemeEleven$Machine", "step", "()I"⟩ ∈ zTw := zTw_of (zt_in_8 (List.mem_of_getElem? (i := 76) rfl)) rfl
theorem w_544 : Cond.code ⟨"SchemeEleven$Machine", "step", "()I"⟩ prog_5_method_8_code 1 (some FieldType.int) ∈ zTw := zTw_of (zt_in_6 (List.mem_of_getElem? (i := 149) rfl)) rfl
theorem w_545 : Cond.instanceMethod ⟨"SchemeEleven$Machine", "step", "()I"⟩ ∈ zTw := zTw_of (zt_in_6 (List.mem_of_getElem? (i := 147) rfl)) rfl
theorem w_546 : Cond.selects "SchemeEleven$Machine" ⟨"SchemeEleven$Machine", "step", "()I"⟩ ⟨"SchemeEleven$Machine", "step", "()I"⟩ ∈ zTw := zTw_of (zt_in_6 (List.mem_of_getElem? (i := 148) rfl)) rfl
theorem w_547 : Cond.fieldLink "SchemeEleven" 18 "SchemeEleven" "bench" "LSchemeEleven$Machine;" ∈ zTw := zTw_of (zt_in_6 (List.mem_of_getElem? (i := 56) rfl)) rfl
theorem w_548 : Cond.methodLink "SchemeEleven" 185 ⟨"SchemeEleven$Machine", "told", "(I)I"⟩ ∈ zTw := zTw_of (zt_in_8 (List.mem_of_getElem? (i := 32) rfl)) rfl
theorem w_549 : Cond.code ⟨"SchemeEleven$Machine", "told", "(I)I"⟩ prog_5_method_7_code 2 (some FieldType.int) ∈ zTw := zTw_of (zt_in_6 (List.mem_of_getElem? (i := 221) rfl)) rfl
theorem w_550 : Cond.instanceMethod ⟨"SchemeEleven$Machine", "told", "(I)I"⟩ ∈ zTw := zTw_of (zt_in_6 (List.mem_of_getElem? (i := 219) rfl)) rfl
theorem w_551 : Cond.selects "SchemeEleven$Machine" ⟨"SchemeEleven$Machine", "told", "(I)I"⟩ ⟨"SchemeEleven$Machine", "told", "(I)I"⟩ ∈ zTw := zTw_of (zt_in_6 (List.mem_of_getElem? (i := 220) rfl)) rfl
theorem w_552 : Cond.methodLink "SchemeEleven" 118 ⟨"SchemeEleven", "takeText", "([II)Z"⟩ ∈ zTw := zTw_of (zt_in_4 (List.mem_of_getElem? (i := 27) rfl)) rfl
theorem w_553 : Cond.code ⟨"SchemeEleven", "takeText", "([II)Z"⟩ prog_1_method_26_code 5 (some FieldType.boolean) ∈ zTw := zTw_of (zt_in_4 (List.mem_of_getElem? (i := 30) rfl)) rfl
theorem w_554 : Cond.instanceMethod ⟨"SchemeEleven", "takeText", "([II)Z"⟩ ∈ zTw := zTw_of (zt_in_4 (List.mem_of_getElem? (i := 29) rfl)) rfl
theorem w_555 : Cond.fieldLink "SchemeEleven" 115 "SchemeEleven" "paged" "I" ∈ zTw := zTw_of (zt_in_6 (List.mem_of_getElem? (i := 69) rfl)) rfl
theorem w_556 : Cond.fieldLink "SchemeEleven" 99 "SchemeEleven" "page" "[I" ∈ zTw := zTw_of (zt_in_6 (List.mem_of_getElem? (i := 68) rfl)) rfl
theorem w_557 : Cond.methodLink "SchemeEleven" 112 ⟨"SchemeEleven", "writePrelude", "()V"⟩ ∈ zTw := zTw_of (zt_in_4 (List.mem_of_getElem? (i := 12) rfl)) rfl
theorem w_558 : Cond.code ⟨"SchemeEleven", "writePrelude", "()V"⟩ prog_1_method_24_code 1 none ∈ zTw := zTw_of (zt_in_4 (List.mem_of_getElem? (i := 15) rfl)) rfl
theorem w_559 : Cond.instanceMethod ⟨"SchemeEleven", "writePrelude", "()V"⟩ ∈ zTw := zTw_of (zt_in_4 (List.mem_of_getElem? (i := 14) rfl)) rfl
theorem w_560 : Cond.methodLink "SchemeEleven" 109 ⟨"SchemeEleven", "readNames", "()V"⟩ ∈ zTw := zTw_of (zt_in_3 (List.mem_of_getElem? (i := 85) rfl)) rfl
theorem w_561 : Cond.code ⟨"SchemeEleven", "readNames", "()V"⟩ prog_1_method_23_code 2 none ∈ zTw := zTw_of (zt_in_3 (List.mem_of_getElem? (i := 88) rfl)) rfl
theorem w_562 : Cond.instanceMethod ⟨"SchemeEleven", "readNames", "()V"⟩ ∈ zTw := zTw_of (zt_in_3 (List.mem_of_getElem? (i := 87) rfl)) rfl
theorem w_563 : Cond.methodLink "SchemeEleven" 106 ⟨"SchemeEleven", "clearScheme", "()V"⟩ ∈ zTw := zTw_of (zt_in_3 (List.mem_of_getElem? (i := 41) rfl)) rfl
theorem w_564 : Cond.code ⟨"SchemeEleven", "clearScheme", "()V"⟩ prog_1_method_22_code 1 none ∈ zTw := zTw_of (zt_in_3 (List.mem_of_getElem? (i := 44) rfl)) rfl
theorem w_565 : Cond.instanceMethod ⟨"SchemeEleven", "clearScheme", "()V"⟩ ∈ zTw := zTw_of (zt_in_3 (List.mem_of_getElem? (i := 43) rfl)) rfl
theorem w_566 : Cond.fieldLink "SchemeEleven" 96 "SchemeEleven" "starts" "[I" ∈ zTw := zTw_of (zt_in_6 (List.mem_of_getElem? (i := 67) rfl)) rfl
theorem w_567 : Cond.fieldLink "SchemeEleven" 92 "SchemeEleven" "coder" "LSchemeEleven$Coder;" ∈ zTw := zTw_of (zt_in_6 (List.mem_of_getElem? (i := 66) rfl)) rfl
theorem w_568 : Cond.methodLink "SchemeEleven" 89 ⟨"SchemeEleven$Coder", "<init>", "(LSchemeEleven$Text;LSchemeEleven$Image;LSchemeEleven$Scopes;)V"⟩ ∈ zTw := zTw_of (zt_in_2 (List.mem_of_getElem? (i := 130) rfl)) rfl
theorem w_569 : Cond.code ⟨"SchemeEleven$Coder", "<init>", "(LSchemeEleven$Text;LSchemeEleven$Image;LSchemeEleven$Scopes;)V"⟩ prog_2_method_1_code 4 none ∈ zTw := zTw_of (zt_in_2 (List.mem_of_getElem? (i := 132) rfl)) rfl
theorem w_570 : Cond.instanceMethod ⟨"SchemeEleven$Coder", "<init>", "(LSchemeEleven$Text;LSchemeEleven$Image;LSchemeEleven$Scopes;)V"⟩ ∈ zTw := zTw_of (zt_in_2 (List.mem_of_getElem? (i := 131) rfl)) rfl
theorem w_571 : Cond.classLink "SchemeEleven" 87 "SchemeEleven$Coder" ∈ zTw := zTw_of (zt_in_2 (List.mem_of_getElem? (i := 128) rfl)) rfl
theorem w_572 : Cond.instantiable "SchemeEleven$Coder" 14 ∈ zTw := zTw_of (zt_in_2 (List.mem_of_getElem? (i := 129) rfl)) rfl
theorem w_573 : Cond.fieldLink "SchemeEleven" 83 "SchemeEleven" "reader" "LSchemeEleven$Reader;" ∈ zTw := zTw_of (zt_in_6 (List.mem_of_getElem? (i := 65) rfl)) rfl
theorem w_574 : Cond.methodLink "SchemeEleven" 80 ⟨"SchemeEleven$Reader", "<init>", "(LSchemeEleven$Text;LSchemeEleven$Image;)V"⟩ ∈ zTw := zTw_of (zt_in_2 (List.mem_of_getElem? (i := 92) rfl)) rfl
theorem w_575 : Cond.code ⟨"SchemeEleven$Reader", "<init>", "(LSchemeEleven$Text;LSchemeEleven$Image;)V"⟩ prog_7_method_1_code 3 none ∈ zTw := zTw_of (zt_in_2 (List.mem_of_getElem? (i := 94) rfl)) rfl
theorem w_576 : Cond.instanceMethod ⟨"SchemeEleven$Reader", "<init>", "(LSchemeEleven$Text;LSchemeEleven$Image;)V"⟩ ∈ zTw := zTw_of (zt_in_2 (List.mem_of_getElem? (i := 93) rfl)) rfl
theorem w_577 : Cond.classLink "SchemeEleven" 78 "SchemeEleven$Reader" ∈ zTw := zTw_of (zt_in_2 (List.mem_of_getElem? (i := 90) rfl)) rfl
theorem w_578 : Cond.instantiable "SchemeEleven$Reader" 10 ∈ zTw := zTw_of (zt_in_2 (List.mem_of_getElem? (i := 91) rfl)) rfl
theorem w_579 : Cond.methodLink "SchemeEleven" 71 ⟨"SchemeEleven$Scopes", "<init>", "(LSchemeEleven$Text;)V"⟩ ∈ zTw := zTw_of (zt_in_2 (List.mem_of_getElem? (i := 39) rfl)) rfl
theorem w_580 : Cond.code ⟨"SchemeEleven$Scopes", "<init>", "(LSchemeEleven$Text;)V"⟩ prog_9_method_1_code 2 none ∈ zTw := zTw_of (zt_in_2 (List.mem_of_getElem? (i := 41) rfl)) rfl
theorem w_581 : Cond.instanceMethod ⟨"SchemeEleven$Scopes", "<init>", "(LSchemeEleven$Text;)V"⟩ ∈ zTw := zTw_of (zt_in_2 (List.mem_of_getElem? (i := 40) rfl)) rfl
theorem w_582 : Cond.classLink "SchemeEleven" 69 "SchemeEleven$Scopes" ∈ zTw := zTw_of (zt_in_2 (List.mem_of_getElem? (i := 37) rfl)) rfl
theorem w_583 : Cond.instantiable "SchemeEleven$Scopes" 15 ∈ zTw := zTw_of (zt_in_2 (List.mem_of_getElem? (i := 38) rfl)) rfl
theorem w_584 : Cond.code ⟨"SchemeEleven$Text", "<init>", "()V"⟩ prog_12_method_1_code 1 none ∈ zTw := zTw_of (zt_in_2 (List.mem_of_getElem? (i := 2) rfl)) rfl
theorem w_585 : Cond.instanceMethod ⟨"SchemeEleven$Text", "<init>", "()V"⟩ ∈ zTw := zTw_of (zt_in_2 (List.mem_of_getElem? (i := 1) rfl)) rfl
theorem w_586 : Cond.classLink "SchemeEleven" 62 "SchemeEleven$Text" ∈ zTw := zTw_of (zt_in_1 (List.mem_of_getElem? (i := 238) rfl)) rfl
theorem w_587 : Cond.instantiable "SchemeEleven$Text" 9 ∈ zTw := zTw_of (zt_in_1 (List.mem_of_getElem? (i := 239) rfl)) rfl
theorem w_588 : Cond.methodLink "SchemeEleven" 55 ⟨"SchemeEleven$Runner", "<init>", "(LSchemeEleven$Machine;LSchemeEleven$Heap;LSchemeEleven$Scribe;)V"⟩ ∈ zTw := zTw_of (zt_in_1 (List.mem_of_getElem? (i := 184) rfl)) rfl
theorem w_589 : Cond.code ⟨"SchemeEleven$Runner", "<init>", "(LSchemeEleven$Machine;LSchemeEleven$Heap;LSchemeEleven$Scribe;)V"⟩ prog_8_method_1_code 4 none ∈ zTw := zTw_of (zt_in_1 (List.mem_of_getElem? (i := 186) rfl)) rfl
theorem w_590 : Cond.instanceMethod ⟨"SchemeEleven$Runner", "<init>", "(LSchemeEleven$Machine;LSchemeEleven$Heap;LSchemeEleven$Scribe;)V"⟩ ∈ zTw := zTw_of (zt_in_1 (List.mem_of_getElem? (i := 185) rfl)) rfl
theorem w_591 : Cond.classLink "SchemeEleven" 53 "SchemeEleven$Runner" ∈ zTw := zTw_of (zt_in_1 (List.mem_of_getElem? (i := 182) rfl)) rfl
theorem w_592 : Cond.instantiable "SchemeEleven$Runner" 15 ∈ zTw := zTw_of (zt_in_1 (List.mem_of_getElem? (i := 183) rfl)) rfl
theorem w_593 : Cond.methodLink "SchemeEleven" 46 ⟨"SchemeEleven$Scribe", "<init>", "(LSchemeEleven$Image;LSchemeEleven$Heap;)V"⟩ ∈ zTw := zTw_of (zt_in_1 (List.mem_of_getElem? (i := 145) rfl)) rfl
theorem w_594 : Cond.code ⟨"SchemeEleven$Scribe", "<init>", "(LSchemeEleven$Image;LSchemeEleven$Heap;)V"⟩ prog_10_method_1_code 3 none ∈ zTw := zTw_of (zt_in_1 (List.mem_of_getElem? (i := 147) rfl)) rfl
theorem w_595 : Cond.instanceMethod ⟨"SchemeEleven$Scribe", "<init>", "(LSchemeEleven$Image;LSchemeEleven$Heap;)V"⟩ ∈ zTw := zTw_of (zt_in_1 (List.mem_of_getElem? (i := 146) rfl)) rfl
theorem w_596 : Cond.classLink "SchemeEleven" 44 "SchemeEleven$Scribe" ∈ zTw := zTw_of (zt_in_1 (List.mem_of_getElem? (i := 143) rfl)) rfl
theorem w_597 : Cond.instantiable "SchemeEleven$Scribe" 9 ∈ zTw := zTw_of (zt_in_1 (List.mem_of_getElem? (i := 144) rfl)) rfl
theorem w_598 : Cond.methodLink "SchemeEleven" 37 ⟨"SchemeEleven$Heap", "<init>", "(LSchemeEleven$Machine;LSchemeEleven$Image;)V"⟩ ∈ zTw := zTw_of (zt_in_1 (List.mem_of_getElem? (i := 113) rfl)) rfl
theorem w_599 : Cond.code ⟨"SchemeEleven$Heap", "<init>", "(LSchemeEleven$Machine;LSchemeEleven$Image;)V"⟩ prog_3_method_1_code 3 none ∈ zTw := zTw_of (zt_in_1 (List.mem_of_getElem? (i := 115) rfl)) rfl
theorem w_600 : Cond.instanceMethod ⟨"SchemeEleven$Heap", "<init>", "(LSchemeEleven$Machine;LSchemeEleven$Image;)V"⟩ ∈ zTw := zTw_of (zt_in_1 (List.mem_of_getElem? (i := 114) rfl)) rfl
theorem w_601 : Cond.classLink "SchemeEleven" 35 "SchemeEleven$Heap" ∈ zTw := zTw_of (zt_in_1 (List.mem_of_getElem? (i := 111) rfl)) rfl
theorem w_602 : Cond.instantiable "SchemeEleven$Heap" 7 ∈ zTw := zTw_of (zt_in_1 (List.mem_of_getElem? (i := 112) rfl)) rfl
theorem w_603 : Cond.methodLink "SchemeEleven" 28 ⟨"SchemeEleven$Image", "<init>", "(LSchemeEleven$Machine;)V"⟩ ∈ zTw := zTw_of (zt_in_1 (List.mem_of_getElem? (i := 69) rfl)) rfl
theorem w_604 : Cond.code ⟨"SchemeEleven$Image", "<init>", "(LSchemeEleven$Machine;)V"⟩ prog_4_method_1_code 2 none ∈ zTw := zTw_of (zt_in_1 (List.mem_of_getElem? (i := 71) rfl)) rfl
theorem w_605 : Cond.instanceMethod ⟨"SchemeEleven$Image", "<init>", "(LSchemeEleven$Machine;)V"⟩ ∈ zTw := zTw_of (zt_in_1 (List.mem_of_getElem? (i := 70) rfl)) rfl
theorem w_606 : Cond.classLink "SchemeEleven" 26 "SchemeEleven$Image" ∈ zTw := zTw_of (zt_in_1 (List.mem_of_getElem? (i := 67) rfl)) rfl
theorem w_607 : Cond.instantiable "SchemeEleven$Image" 10 ∈ zTw := zTw_of (zt_in_1 (List.mem_of_getElem? (i := 68) rfl)) rfl
theorem w_608 : Cond.methodLink "SchemeEleven" 15 ⟨"SchemeEleven$Machine", "<init>", "(I)V"⟩ ∈ zTw := zTw_of (zt_in_1 (List.mem_of_getElem? (i := 32) rfl)) rfl
theorem w_609 : Cond.code ⟨"SchemeEleven$Machine", "<init>", "(I)V"⟩ prog_5_method_1_code 2 none ∈ zTw := zTw_of (zt_in_1 (List.mem_of_getElem? (i := 34) rfl)) rfl
theorem w_610 : Cond.instanceMethod ⟨"SchemeEleven$Machine", "<init>", "(I)V"⟩ ∈ zTw := zTw_of (zt_in_1 (List.mem_of_getElem? (i := 33) rfl)) rfl
theorem w_611 : Cond.constant "SchemeEleven" 22 (65536 : Int32) ∈ zTw := zTw_of (zt_in_1 (List.mem_of_getElem? (i := 66) rfl)) rfl
theorem w_612 : Cond.classLink "SchemeEleven" 13 "SchemeEleven$Machine" ∈ zTw := zTw_of (zt_in_1 (List.mem_of_getElem? (i := 30) rfl)) rfl
theorem w_613 : Cond.instantiable "SchemeEleven$Machine" 7 ∈ zTw := zTw_of (zt_in_1 (List.mem_of_getElem? (i := 31) rfl)) rfl
theorem w_614 : Cond.fieldLink "SchemeEleven" 9 "SchemeEleven" "tape" "[I" ∈ zTw := zTw_of (zt_in_6 (List.mem_of_getElem? (i := 54) rfl)) rfl
theorem w_615 : Cond.methodLink "SchemeEleven" 1 ⟨"java/lang/Object", "<init>", "()V"⟩ ∈ zTw := zTw_of (zt_in_1 (List.mem_of_getElem? (i := 27) rfl)) rfl
theorem w_616 : Cond.methodLink "SchemeEleven" 206 ⟨"SchemeEleven$Runner", "offer", "(I)Z"⟩ ∈ zTw := zTw_of (zt_in_8 (List.mem_of_getElem? (i := 49) rfl)) rfl
theorem w_617 : Cond.code ⟨"SchemeEleven$Runner", "offer", "(I)Z"⟩ prog_8_method_4_code 2 (some FieldType.boolean) ∈ zTw := zTw_of (zt_in_8 (List.mem_of_getElem? (i := 52) rfl)) rfl
theorem w_618 : Cond.instanceMethod ⟨"SchemeEleven$Runner", "offer", "(I)Z"⟩ ∈ zTw := zTw_of (zt_in_8 (List.mem_of_getElem? (i := 50) rfl)) rfl
theorem w_619 : Cond.selects "SchemeEleven$Runner" ⟨"SchemeEleven$Runner", "offer", "(I)Z"⟩ ⟨"SchemeEleven$Runner", "offer", "(I)Z"⟩ ∈ zTw := zTw_of (zt_in_8 (List.mem_of_getElem? (i := 51) rfl)) rfl
theorem w_620 : Cond.methodLink "SchemeEleven" 209 ⟨"SchemeEleven$Image", "letterOf", "(II)I"⟩ ∈ zTw := zTw_of (zt_in_8 (List.mem_of_getElem? (i := 57) rfl)) rfl
theorem w_621 : Cond.code ⟨"SchemeEleven$Image", "letterOf", "(II)I"⟩ prog_4_method_6_code 3 (some FieldType.int) ∈ zTw := zTw_of (zt_in_7 (List.mem_of_getElem? (i := 223) rfl)) rfl
theorem w_622 : Cond.instanceMethod ⟨"SchemeEleven$Image", "letterOf", "(II)I"⟩ ∈ zTw := zTw_of (zt_in_7 (List.mem_of_getElem? (i := 221) rfl)) rfl
theorem w_623 : Cond.selects "SchemeEleven$Image" ⟨"SchemeEleven$Image", "letterOf", "(II)I"⟩ ⟨"SchemeEleven$Image", "letterOf", "(II)I"⟩ ∈ zTw := zTw_of (zt_in_7 (List.mem_of_getElem? (i := 222) rfl)) rfl
theorem w_624 : Cond.methodLink "SchemeEleven" 182 ⟨"SchemeEleven$Machine", "at", "(I)I"⟩ ∈ zTw := zTw_of (zt_in_8 (List.mem_of_getElem? (i := 27) rfl)) rfl
theorem w_625 : Cond.code ⟨"SchemeEleven$Machine", "at", "(I)I"⟩ prog_5_method_4_code 3 (some FieldType.int) ∈ zTw := zTw_of (zt_in_6 (List.mem_of_getElem? (i := 197) rfl)) rfl
theorem w_626 : Cond.instanceMethod ⟨"SchemeEleven$Machine", "at", "(I)I"⟩ ∈ zTw := zTw_of (zt_in_6 (List.mem_of_getElem? (i := 195) rfl)) rfl
theorem w_627 : Cond.selects "SchemeEleven$Machine" ⟨"SchemeEleven$Machine", "at", "(I)I"⟩ ⟨"SchemeEleven$Machine", "at", "(I)I"⟩ ∈ zTw := zTw_of (zt_in_6 (List.mem_of_getElem? (i := 196) rfl)) rfl
theorem w_628 : Cond.methodLink "SchemeEleven" 178 ⟨"SchemeEleven$Machine", "holds", "(I)Z"⟩ ∈ zTw := zTw_of (zt_in_8 (List.mem_of_getElem? (i := 26) rfl)) rfl
theorem w_629 : Cond.methodLink "SchemeEleven" 213 ⟨"SchemeEleven$Machine", "put", "(II)V"⟩ ∈ zTw := zTw_of (zt_in_4 (List.mem_of_getElem? (i := 11) rfl)) rfl
theorem w_630 : Cond.methodLink "SchemeEleven" 254 ⟨"SchemeEleven$Image", "placeOf", "(I)I"⟩ ∈ zTw := zTw_of (zt_in_4 (List.mem_of_getElem? (i := 7) rfl)) rfl
theorem w_631 : Cond.methodLink "SchemeEleven" 250 ⟨"SchemeEleven$Reader", "readAll", "([II)V"⟩ ∈ zTw := zTw_of (zt_in_3 (List.mem_of_getElem? (i := 145) rfl)) rfl
theorem w_632 : Cond.code ⟨"SchemeEleven$Reader", "readAll", "([II)V"⟩ prog_7_method_3_code 7 none ∈ zTw := zTw_of (zt_in_3 (List.mem_of_getElem? (i := 148) rfl)) rfl
theorem w_633 : Cond.instanceMethod ⟨"SchemeEleven$Reader", "readAll", "([II)V"⟩ ∈ zTw := zTw_of (zt_in_3 (List.mem_of_getElem? (i := 146) rfl)) rfl
theorem w_634 : Cond.selects "SchemeEleven$Reader" ⟨"SchemeEleven$Reader", "readAll", "([II)V"⟩ ⟨"SchemeEleven$Reader", "readAll", "([II)V"⟩ ∈ zTw := zTw_of (zt_in_3 (List.mem_of_getElem? (i := 147) rfl)) rfl
theorem w_635 : Cond.methodLink "SchemeEleven" 247 ⟨"SchemeEleven$Text", "begin", "()V"⟩ ∈ zTw := zTw_of (zt_in_3 (List.mem_of_getElem? (i := 144) rfl)) rfl
theorem w_636 : Cond.methodLink "SchemeEleven" 239 ⟨"SchemeEleven", "write", "(Ljava/lang/String;)V"⟩ ∈ zTw := zTw_of (zt_in_3 (List.mem_of_getElem? (i := 90) rfl)) rfl
theorem w_637 : Cond.code ⟨"SchemeEleven", "write", "(Ljava/lang/String;)V"⟩ prog_1_method_25_code 3 none ∈ zTw := zTw_of (zt_in_3 (List.mem_of_getElem? (i := 93) rfl)) rfl
theorem w_638 : Cond.instanceMethod ⟨"SchemeEleven", "write", "(Ljava/lang/String;)V"⟩ ∈ zTw := zTw_of (zt_in_3 (List.mem_of_getElem? (i := 92) rfl)) rfl
theorem w_639 : Cond.methodLink "SchemeEleven" 144 ⟨"SchemeEleven$Runner", "proceed", "(I)I"⟩ ∈ zTw := zTw_of (zt_in_6 (List.mem_of_getElem? (i := 138) rfl)) rfl
theorem w_640 : Cond.code ⟨"SchemeEleven$Runner", "proceed", "(I)I"⟩ prog_8_method_5_code 4 (some FieldType.int) ∈ zTw := zTw_of (zt_in_6 (List.mem_of_getElem? (i := 141) rfl)) rfl
theorem w_641 : Cond.instanceMethod ⟨"SchemeEleven$Runner", "proceed", "(I)I"⟩ ∈ zTw := zTw_of (zt_in_6 (List.mem_of_getElem? (i := 139) rfl)) rfl
theorem w_642 : Cond.selects "SchemeEleven$Runner" ⟨"SchemeEleven$Runner", "proceed", "(I)I"⟩ ⟨"SchemeEleven$Runner", "proceed", "(I)I"⟩ ∈ zTw := zTw_of (zt_in_6 (List.mem_of_getElem? (i := 140) rfl)) rfl
theorem w_643 : Cond.constant "SchemeEleven" 220 (65535 : Int32) ∈ zTw := zTw_of (zt_in_8 (List.mem_of_getElem? (i := 71) rfl)) rfl
theorem w_644 : Cond.methodLink "SchemeEleven" 217 ⟨"SchemeEleven$Machine", "putFlags", "(I)V"⟩ ∈ zTw := zTw_of (zt_in_8 (List.mem_of_getElem? (i := 70) rfl)) rfl
theorem w_645 : Cond.methodLink "SchemeEleven" 191 ⟨"SchemeEleven$Scribe", "render", "(I)V"⟩ ∈ zTw := zTw_of (zt_in_8 (List.mem_of_getElem? (i := 37) rfl)) rfl
theorem w_646 : Cond.code ⟨"SchemeEleven$Scribe", "render", "(I)V"⟩ prog_10_method_5_code 2 none ∈ zTw := zTw_of (zt_in_8 (List.mem_of_getElem? (i := 40) rfl)) rfl
theorem w_647 : Cond.instanceMethod ⟨"SchemeEleven$Scribe", "render", "(I)V"⟩ ∈ zTw := zTw_of (zt_in_8 (List.mem_of_getElem? (i := 38) rfl)) rfl
theorem w_648 : Cond.selects "SchemeEleven$Scribe" ⟨"SchemeEleven$Scribe", "render", "(I)V"⟩ ⟨"SchemeEleven$Scribe", "render", "(I)V"⟩ ∈ zTw := zTw_of (zt_in_8 (List.mem_of_getElem? (i := 39) rfl)) rfl
theorem w_649 : Cond.methodLink "SchemeEleven" 310 ⟨"SchemeEleven$Scopes", "keep", "()V"⟩ ∈ zTw := zTw_of (zt_in_6 (List.mem_of_getElem? (i := 32) rfl)) rfl
theorem w_650 : Cond.code ⟨"SchemeEleven$Scopes", "keep", "()V"⟩ prog_9_method_5_code 2 none ∈ zTw := zTw_of (zt_in_6 (List.mem_of_getElem? (i := 35) rfl)) rfl
theorem w_651 : Cond.instanceMethod ⟨"SchemeEleven$Scopes", "keep", "()V"⟩ ∈ zTw := zTw_of (zt_in_6 (List.mem_of_getElem? (i := 33) rfl)) rfl
theorem w_652 : Cond.selects "SchemeEleven$Scopes" ⟨"SchemeEleven$Scopes", "keep", "()V"⟩ ⟨"SchemeEleven$Scopes", "keep", "()V"⟩ ∈ zTw := zTw_of (zt_in_6 (List.mem_of_getElem? (i := 34) rfl)) rfl
theorem w_653 : Cond.methodLink "SchemeEleven" 303 ⟨"SchemeEleven$Coder", "work", "()V"⟩ ∈ zTw := zTw_of (zt_in_4 (List.mem_of_getElem? (i := 69) rfl)) rfl
theorem w_654 : Cond.code ⟨"SchemeEleven$Coder", "work", "()V"⟩ prog_2_method_5_code 3 none ∈ zTw := zTw_of (zt_in_4 (List.mem_of_getElem? (i := 72) rfl)) rfl
theorem w_655 : Cond.instanceMethod ⟨"SchemeEleven$Coder", "work", "()V"⟩ ∈ zTw := zTw_of (zt_in_4 (List.mem_of_getElem? (i := 70) rfl)) rfl
theorem w_656 : Cond.selects "SchemeEleven$Coder" ⟨"SchemeEleven$Coder", "work", "()V"⟩ ⟨"SchemeEleven$Coder", "work", "()V"⟩ ∈ zTw := zTw_of (zt_in_4 (List.mem_of_getElem? (i := 71) rfl)) rfl
theorem w_657 : Cond.methodLink "SchemeEleven" 299 ⟨"SchemeEleven$Coder", "isBusy", "()Z"⟩ ∈ zTw := zTw_of (zt_in_4 (List.mem_of_getElem? (i := 65) rfl)) rfl
theorem w_658 : Cond.code ⟨"SchemeEleven$Coder", "isBusy", "()Z"⟩ prog_2_method_4_code 1 (some FieldType.boolean) ∈ zTw := zTw_of (zt_in_4 (List.mem_of_getElem? (i := 68) rfl)) rfl
theorem w_659 : Cond.instanceMethod ⟨"SchemeEleven$Coder", "isBusy", "()Z"⟩ ∈ zTw := zTw_of (zt_in_4 (List.mem_of_getElem? (i := 66) rfl)) rfl
theorem w_660 : Cond.selects "SchemeEleven$Coder" ⟨"SchemeEleven$Coder", "isBusy", "()Z"⟩ ⟨"SchemeEleven$Coder", "isBusy", "()Z"⟩ ∈ zTw := zTw_of (zt_in_4 (List.mem_of_getElem? (i := 67) rfl)) rfl
theorem w_661 : Cond.constant "SchemeEleven" 298 (10000000 : Int32) ∈ zTw := zTw_of (zt_in_4 (List.mem_of_getElem? (i := 64) rfl)) rfl
theorem w_662 : Cond.methodLink "SchemeEleven" 295 ⟨"SchemeEleven$Coder", "beginForm", "(I)V"⟩ ∈ zTw := zTw_of (zt_in_4 (List.mem_of_getElem? (i := 54) rfl)) rfl
theorem w_663 : Cond.code ⟨"SchemeEleven$Coder", "beginForm", "(I)V"⟩ prog_2_method_3_code 2 none ∈ zTw := zTw_of (zt_in_4 (List.mem_of_getElem? (i := 57) rfl)) rfl
theorem w_664 : Cond.instanceMethod ⟨"SchemeEleven$Coder", "beginForm", "(I)V"⟩ ∈ zTw := zTw_of (zt_in_4 (List.mem_of_getElem? (i := 55) rfl)) rfl
theorem w_665 : Cond.selects "SchemeEleven$Coder" ⟨"SchemeEleven$Coder", "beginForm", "(I)V"⟩ ⟨"SchemeEleven$Coder", "beginForm", "(I)V"⟩ ∈ zTw := zTw_of (zt_in_4 (List.mem_of_getElem? (i := 56) rfl)) rfl
theorem w_666 : Cond.methodLink "SchemeEleven" 292 ⟨"SchemeEleven$Reader", "formAt", "(I)I"⟩ ∈ zTw := zTw_of (zt_in_4 (List.mem_of_getElem? (i := 50) rfl)) rfl
theorem w_667 : Cond.code ⟨"SchemeEleven$Reader", "formAt", "(I)I"⟩ prog_7_method_2_code 2 (some FieldType.int) ∈ zTw := zTw_of (zt_in_4 (List.mem_of_getElem? (i := 53) rfl)) rfl
theorem w_668 : Cond.instanceMethod ⟨"SchemeEleven$Reader", "formAt", "(I)I"⟩ ∈ zTw := zTw_of (zt_in_4 (List.mem_of_getElem? (i := 51) rfl)) rfl
theorem w_669 : Cond.selects "SchemeEleven$Reader" ⟨"SchemeEleven$Reader", "formAt", "(I)I"⟩ ⟨"SchemeEleven$Reader", "formAt", "(I)I"⟩ ∈ zTw := zTw_of (zt_in_4 (List.mem_of_getElem? (i := 52) rfl)) rfl
theorem w_670 : Cond.methodLink "SchemeEleven" 291 ⟨"SchemeEleven$Coder", "begin", "()V"⟩ ∈ zTw := zTw_of (zt_in_4 (List.mem_of_getElem? (i := 42) rfl)) rfl
theorem w_671 : Cond.code ⟨"SchemeEleven$Coder", "begin", "()V"⟩ prog_2_method_2_code 1 none ∈ zTw := zTw_of (zt_in_4 (List.mem_of_getElem? (i := 45) rfl)) rfl
theorem w_672 : Cond.instanceMethod ⟨"SchemeEleven$Coder", "begin", "()V"⟩ ∈ zTw := zTw_of (zt_in_4 (List.mem_of_getElem? (i := 43) rfl)) rfl
theorem w_673 : Cond.selects "SchemeEleven$Coder" ⟨"SchemeEleven$Coder", "begin", "()V"⟩ ⟨"SchemeEleven$Coder", "begin", "()V"⟩ ∈ zTw := zTw_of (zt_in_4 (List.mem_of_getElem? (i := 44) rfl)) rfl
theorem w_674 : Cond.methodLink "SchemeEleven" 290 ⟨"SchemeEleven$Scopes", "mark", "()V"⟩ ∈ zTw := zTw_of (zt_in_4 (List.mem_of_getElem? (i := 35) rfl)) rfl
theorem w_675 : Cond.code ⟨"SchemeEleven$Scopes", "mark", "()V"⟩ prog_9_method_3_code 1 none ∈ zTw := zTw_of (zt_in_4 (List.mem_of_getElem? (i := 38) rfl)) rfl
theorem w_676 : Cond.instanceMethod ⟨"SchemeEleven$Scopes", "mark", "()V"⟩ ∈ zTw := zTw_of (zt_in_4 (List.mem_of_getElem? (i := 36) rfl)) rfl
theorem w_677 : Cond.selects "SchemeEleven$Scopes" ⟨"SchemeEleven$Scopes", "mark", "()V"⟩ ⟨"SchemeEleven$Scopes", "mark", "()V"⟩ ∈ zTw := zTw_of (zt_in_4 (List.mem_of_getElem? (i := 37) rfl)) rfl
theorem w_678 : Cond.methodLink "SchemeEleven" 287 ⟨"SchemeEleven$Image", "mark", "()V"⟩ ∈ zTw := zTw_of (zt_in_4 (List.mem_of_getElem? (i := 31) rfl)) rfl
theorem w_679 : Cond.code ⟨"SchemeEleven$Image", "mark", "()V"⟩ prog_4_method_3_code 1 none ∈ zTw := zTw_of (zt_in_4 (List.mem_of_getElem? (i := 34) rfl)) rfl
theorem w_680 : Cond.instanceMethod ⟨"SchemeEleven$Image", "mark", "()V"⟩ ∈ zTw := zTw_of (zt_in_4 (List.mem_of_getElem? (i := 32) rfl)) rfl
theorem w_681 : Cond.selects "SchemeEleven$Image" ⟨"SchemeEleven$Image", "mark", "()V"⟩ ⟨"SchemeEleven$Image", "mark", "()V"⟩ ∈ zTw := zTw_of (zt_in_4 (List.mem_of_getElem? (i := 33) rfl)) rfl
theorem w_682 : Cond.methodLink "SchemeEleven" 283 ⟨"java/lang/String", "charAt", "(I)C"⟩ ∈ zTw := zTw_of (zt_in_3 (List.mem_of_getElem? (i := 104) rfl)) rfl
theorem w_683 : Cond.code ⟨"java/lang/String", "charAt", "(I)C"⟩ prog_17_method_56_code 2 (some FieldType.char) ∈ zTw := zTw_of (zt_in_3 (List.mem_of_getElem? (i := 107) rfl)) rfl
theorem w_684 : Cond.instanceMethod ⟨"java/lang/String", "charAt", "(I)C"⟩ ∈ zTw := zTw_of (zt_in_3 (List.mem_of_getElem? (i := 105) rfl)) rfl
theorem w_685 : Cond.selects "java/lang/String" ⟨"java/lang/String", "charAt", "(I)C"⟩ ⟨"java/lang/String", "charAt", "(I)C"⟩ ∈ zTw := zTw_of (zt_in_3 (List.mem_of_getElem? (i := 106) rfl)) rfl
theorem w_686 : Cond.methodLink "SchemeEleven" 279 ⟨"java/lang/String", "length", "()I"⟩ ∈ zTw := zTw_of (zt_in_3 (List.mem_of_getElem? (i := 94) rfl)) rfl
theorem w_687 : Cond.fieldLink "SchemeElevenModel" 363 "SchemeElevenModel" "rest" "[I" ∈ zTw := zTw_of (zt_in_10 (List.mem_of_getElem? (i := 214) rfl)) rfl
theorem w_688 : Cond.methodLink "SchemeElevenModel" 549 ⟨"SchemeElevenModel", "isRight", "(II)Z"⟩ ∈ zTw := zTw_of (zt_in_10 (List.mem_of_getElem? (i := 140) rfl)) rfl
theorem w_689 : Cond.code ⟨"SchemeElevenModel", "isRight", "(II)Z"⟩ prog_14_method_111_code 5 (some FieldType.boolean) ∈ zTw := zTw_of (zt_in_10 (List.mem_of_getElem? (i := 143) rfl)) rfl
theorem w_690 : Cond.initialized "SchemeElevenModel" ∈ zTw := zTw_of (zt_in_1 (List.mem_of_getElem? (i := 20) rfl)) rfl
theorem w_691 : Cond.instanceMethod ⟨"SchemeElevenModel", "isRight", "(II)Z"⟩ ∈ zTw := zTw_of (zt_in_10 (List.mem_of_getElem? (i := 142) rfl)) rfl
theorem w_692 : Cond.methodLink "SchemeElevenModel" 555 ⟨"SchemeElevenModel", "part", "(II)I"⟩ ∈ zTw := zTw_of (zt_in_9 (List.mem_of_getElem? (i := 218) rfl)) rfl
theorem w_693 : Cond.code ⟨"SchemeElevenModel", "part", "(II)I"⟩ prog_14_method_103_code 5 (some FieldType.int) ∈ zTw := zTw_of (zt_in_9 (List.mem_of_getElem? (i := 221) rfl)) rfl
theorem w_694 : Cond.instanceMethod ⟨"SchemeElevenModel", "part", "(II)I"⟩ ∈ zTw := zTw_of (zt_in_9 (List.mem_of_getElem? (i := 220) rfl)) rfl
theorem w_695 : Cond.methodLink "SchemeElevenModel" 531 ⟨"SchemeElevenModel", "gathers", "(II)Z"⟩ ∈ zTw := zTw_of (zt_in_10 (List.mem_of_getElem? (i := 10) rfl)) rfl
theorem w_696 : Cond.code ⟨"SchemeElevenModel", "gathers", "(II)Z"⟩ prog_14_method_109_code 5 (some FieldType.boolean) ∈ zTw := zTw_of (zt_in_10 (List.mem_of_getElem? (i := 13) rfl)) rfl
theorem w_697 : Cond.instanceMethod ⟨"SchemeElevenModel", "gathers", "(II)Z"⟩ ∈ zTw := zTw_of (zt_in_10 (List.mem_of_getElem? (i := 12) rfl)) rfl
theorem w_698 : Cond.methodLink "SchemeElevenModel" 534 ⟨"SchemeElevenModel", "isName", "(I)Z"⟩ ∈ zTw := zTw_of (zt_in_9 (List.mem_of_getElem? (i := 198) rfl)) rfl
theorem w_699 : Cond.code ⟨"SchemeElevenModel", "isName", "(I)Z"⟩ prog_14_method_100_code 2 (some FieldType.boolean) ∈ zTw := zTw_of (zt_in_9 (List.mem_of_getElem? (i := 201) rfl)) rfl
theorem w_700 : Cond.instanceMethod ⟨"SchemeElevenModel", "isName", "(I)Z"⟩ ∈ zTw := zTw_of (zt_in_9 (List.mem_of_getElem? (i := 200) rfl)) rfl
theorem w_701 : Cond.fieldLink "SchemeElevenModel" 347 "SchemeElevenModel" "head" "[I" ∈ zTw := zTw_of (zt_in_10 (List.mem_of_getElem? (i := 213) rfl)) rfl
theorem w_702 : Cond.fieldLink "SchemeElevenModel" 341 "SchemeElevenModel" "kind" "[I" ∈ zTw := zTw_of (zt_in_10 (List.mem_of_getElem? (i := 212) rfl)) rfl
theorem w_703 : Cond.fieldLink "SchemeElevenModel" 519 "SchemeElevenModel" "variables" "I" ∈ zTw := zTw_of (zt_in_11 (List.mem_of_getElem? (i := 15) rfl)) rfl
theorem w_704 : Cond.methodLink "SchemeElevenModel" 552 ⟨"SchemeElevenModel", "length", "(I)I"⟩ ∈ zTw := zTw_of (zt_in_9 (List.mem_of_getElem? (i := 194) rfl)) rfl
theorem w_705 : Cond.code ⟨"SchemeElevenModel", "length", "(I)I"⟩ prog_14_method_102_code 4 (some FieldType.int) ∈ zTw := zTw_of (zt_in_9 (List.mem_of_getElem? (i := 197) rfl)) rfl
theorem w_706 : Cond.instanceMethod ⟨"SchemeElevenModel", "length", "(I)I"⟩ ∈ zTw := zTw_of (zt_in_9 (List.mem_of_getElem? (i := 196) rfl)) rfl
theorem w_707 : Cond.methodLink "SchemeElevenModel" 558 ⟨"SchemeElevenModel", "behind", "(II)I"⟩ ∈ zTw := zTw_of (zt_in_9 (List.mem_of_getElem? (i := 222) rfl)) rfl
theorem w_708 : Cond.code ⟨"SchemeElevenModel", "behind", "(II)I"⟩ prog_14_method_104_code 5 (some FieldType.int) ∈ zTw := zTw_of (zt_in_9 (List.mem_of_getElem? (i := 225) rfl)) rfl
theorem w_709 : Cond.instanceMethod ⟨"SchemeElevenModel", "behind", "(II)I"⟩ ∈ zTw := zTw_of (zt_in_9 (List.mem_of_getElem? (i := 224) rfl)) rfl
theorem w_710 : Cond.fieldLink "SchemeElevenModel" 516 "SchemeElevenModel" "literals" "I" ∈ zTw := zTw_of (zt_in_11 (List.mem_of_getElem? (i := 16) rfl)) rfl
theorem w_711 : Cond.methodLink "SchemeElevenModel" 513 ⟨"SchemeElevenModel", "isNamed", "(II)Z"⟩ ∈ zTw := zTw_of (zt_in_9 (List.mem_of_getElem? (i := 238) rfl)) rfl
theorem w_712 : Cond.code ⟨"SchemeElevenModel", "isNamed", "(II)Z"⟩ prog_14_method_101_code 3 (some FieldType.boolean) ∈ zTw := zTw_of (zt_in_10 (List.mem_of_getElem? (i := 1) rfl)) rfl
theorem w_713 : Cond.instanceMethod ⟨"SchemeElevenModel", "isNamed", "(II)Z"⟩ ∈ zTw := zTw_of (zt_in_10 (List.mem_of_getElem? (i := 0) rfl)) rfl
theorem w_714 : Cond.fieldLink "SchemeElevenModel" 344 "SchemeElevenModel" "data" "I" ∈ zTw := zTw_of (zt_in_10 (List.mem_of_getElem? (i := 218) rfl)) rfl
theorem w_715 : Cond.fieldLink "SchemeElevenModel" 356 "SchemeElevenModel" "depth" "[I" ∈ zTw := zTw_of (zt_in_10 (List.mem_of_getElem? (i := 217) rfl)) rfl
theorem w_716 : Cond.fieldLink "SchemeElevenModel" 353 "SchemeElevenModel" "parts" "[I" ∈ zTw := zTw_of (zt_in_10 (List.mem_of_getElem? (i := 216) rfl)) rfl
theorem w_717 : Cond.fieldLink "SchemeElevenModel" 350 "SchemeElevenModel" "place" "[I" ∈ zTw := zTw_of (zt_in_10 (List.mem_of_getElem? (i := 215) rfl)) rfl
theorem w_718 : Cond.fieldLink "SchemeElevenModel" 379 "SchemeElevenModel" "pos" "I" ∈ zTw := zTw_of (zt_in_10 (List.mem_of_getElem? (i := 227) rfl)) rfl
theorem w_719 : Cond.methodLink "SchemeElevenModel" 382 ⟨"SchemeElevenModel", "byteOf", "(I)I"⟩ ∈ zTw := zTw_of (zt_in_9 (List.mem_of_getElem? (i := 91) rfl)) rfl
theorem w_720 : Cond.code ⟨"SchemeElevenModel", "byteOf", "(I)I"⟩ prog_14_method_84_code 2 (some FieldType.int) ∈ zTw := zTw_of (zt_in_9 (List.mem_of_getElem? (i := 94) rfl)) rfl
theorem w_721 : Cond.instanceMethod ⟨"SchemeElevenModel", "byteOf", "(I)I"⟩ ∈ zTw := zTw_of (zt_in_9 (List.mem_of_getElem? (i := 93) rfl)) rfl
theorem w_722 : Cond.fieldLink "SchemeElevenModel" 376 "SchemeElevenModel" "text" "[I" ∈ zTw := zTw_of (zt_in_10 (List.mem_of_getElem? (i := 225) rfl)) rfl
theorem w_723 : Cond.fieldLink "SchemeElevenModel" 373 "SchemeElevenModel" "textSize" "I" ∈ zTw := zTw_of (zt_in_10 (List.mem_of_getElem? (i := 226) rfl)) rfl
theorem w_724 : Cond.fieldLink "SchemeElevenModel" 15 "SchemeElevenModel" "memory" "[[I" ∈ zTw := zTw_of (zt_in_10 (List.mem_of_getElem? (i := 179) rfl)) rfl
theorem w_725 : Cond.methodLink "SchemeElevenModel" 422 ⟨"SchemeElevenModel", "comes", "(I)V"⟩ ∈ zTw := zTw_of (zt_in_9 (List.mem_of_getElem? (i := 111) rfl)) rfl
theorem w_726 : Cond.code ⟨"SchemeElevenModel", "comes", "(I)V"⟩ prog_14_method_91_code 6 none ∈ zTw := zTw_of (zt_in_9 (List.mem_of_getElem? (i := 114) rfl)) rfl
theorem w_727 : Cond.instanceMethod ⟨"SchemeElevenModel", "comes", "(I)V"⟩ ∈ zTw := zTw_of (zt_in_9 (List.mem_of_getElem? (i := 113) rfl)) rfl
theorem w_728 : Cond.methodLink "SchemeElevenModel" 431 ⟨"SchemeElevenModel", "sized", "(I)V"⟩ ∈ zTw := zTw_of (zt_in_9 (List.mem_of_getElem? (i := 119) rfl)) rfl
theorem w_729 : Cond.code ⟨"SchemeElevenModel", "sized", "(I)V"⟩ prog_14_method_90_code 6 none ∈ zTw := zTw_of (zt_in_9 (List.mem_of_getElem? (i := 122) rfl)) rfl
theorem w_730 : Cond.instanceMethod ⟨"SchemeElevenModel", "sized", "(I)V"⟩ ∈ zTw := zTw_of (zt_in_9 (List.mem_of_getElem? (i := 121) rfl)) rfl
theorem w_731 : Cond.methodLink "SchemeElevenModel" 359 ⟨"SchemeElevenModel", "atom", "(III)I"⟩ ∈ zTw := zTw_of (zt_in_9 (List.mem_of_getElem? (i := 107) rfl)) rfl
theorem w_732 : Cond.code ⟨"SchemeElevenModel", "atom", "(III)I"⟩ prog_14_method_81_code 4 (some FieldType.int) ∈ zTw := zTw_of (zt_in_9 (List.mem_of_getElem? (i := 110) rfl)) rfl
theorem w_733 : Cond.instanceMethod ⟨"SchemeElevenModel", "atom", "(III)I"⟩ ∈ zTw := zTw_of (zt_in_9 (List.mem_of_getElem? (i := 109) rfl)) rfl
theorem w_734 : Cond.fieldLink "SchemeElevenModel" 394 "SchemeElevenModel" "from" "I" ∈ zTw := zTw_of (zt_in_10 (List.mem_of_getElem? (i := 228) rfl)) rfl
theorem w_735 : Cond.fieldLink "SchemeElevenModel" 385 "SchemeElevenModel" "open" "I" ∈ zTw := zTw_of (zt_in_10 (List.mem_of_getElem? (i := 235) rfl)) rfl
theorem w_736 : Cond.fieldLink "SchemeElevenModel" 428 "SchemeElevenModel" "latestPair" "[I" ∈ zTw := zTw_of (zt_in_10 (List.mem_of_getElem? (i := 232) rfl)) rfl
theorem w_737 : Cond.fieldLink "SchemeElevenModel" 406 "SchemeElevenModel" "state" "[I" ∈ zTw := zTw_of (zt_in_10 (List.mem_of_getElem? (i := 233) rfl)) rfl
theorem w_738 : Cond.fieldLink "SchemeElevenModel" 413 "SchemeElevenModel" "openAt" "[I" ∈ zTw := zTw_of (zt_in_10 (List.mem_of_getElem? (i := 234) rfl)) rfl
theorem w_739 : Cond.fieldLink "SchemeElevenModel" 403 "SchemeElevenModel" "first" "[I" ∈ zTw := zTw_of (zt_in_10 (List.mem_of_getElem? (i := 231) rfl)) rfl
theorem w_740 : Cond.methodLink "SchemeElevenModel" 446 ⟨"SchemeElevenModel", "listed", "(II)I"⟩ ∈ zTw := zTw_of (zt_in_9 (List.mem_of_getElem? (i := 115) rfl)) rfl
theorem w_741 : Cond.code ⟨"SchemeElevenModel", "listed", "(II)I"⟩ prog_14_method_82_code 4 (some FieldType.int) ∈ zTw := zTw_of (zt_in_9 (List.mem_of_getElem? (i := 118) rfl)) rfl
theorem w_742 : Cond.instanceMethod ⟨"SchemeElevenModel", "listed", "(II)I"⟩ ∈ zTw := zTw_of (zt_in_9 (List.mem_of_getElem? (i := 117) rfl)) rfl
theorem w_743 : Cond.fieldLink "SchemeElevenModel" 388 "SchemeElevenModel" "forms" "I" ∈ zTw := zTw_of (zt_in_10 (List.mem_of_getElem? (i := 230) rfl)) rfl
theorem w_744 : Cond.fieldLink "SchemeElevenModel" 449 "SchemeElevenModel" "roots" "[I" ∈ zTw := zTw_of (zt_in_10 (List.mem_of_getElem? (i := 229) rfl)) rfl
theorem w_745 : Cond.methodLink "SchemeElevenModel" 623 ⟨"SchemeElevenModel", "word", "(II)V"⟩ ∈ zTw := zTw_of (zt_in_10 (List.mem_of_getElem? (i := 63) rfl)) rfl
theorem w_746 : Cond.code ⟨"SchemeElevenModel", "word", "(II)V"⟩ prog_14_method_122_code 3 none ∈ zTw := zTw_of (zt_in_10 (List.mem_of_getElem? (i := 66) rfl)) rfl
theorem w_747 : Cond.instanceMethod ⟨"SchemeElevenModel", "word", "(II)V"⟩ ∈ zTw := zTw_of (zt_in_10 (List.mem_of_getElem? (i := 65) rfl)) rfl
theorem w_748 : Cond.methodLink "SchemeElevenModel" 771 ⟨"SchemeElevenModel", "copied", "(I)I"⟩ ∈ zTw := zTw_of (zt_in_10 (List.mem_of_getElem? (i := 171) rfl)) rfl
theorem w_749 : Cond.code ⟨"SchemeElevenModel", "copied", "(I)I"⟩ prog_14_method_147_code 7 (some FieldType.int) ∈ zTw := zTw_of (zt_in_10 (List.mem_of_getElem? (i := 174) rfl)) rfl
theorem w_750 : Cond.instanceMethod ⟨"SchemeElevenModel", "copied", "(I)I"⟩ ∈ zTw := zTw_of (zt_in_10 (List.mem_of_getElem? (i := 173) rfl)) rfl
theorem w_751 : Cond.fieldLink "SchemeElevenModel" 768 "SchemeElevenModel" "keptMany" "I" ∈ zTw := zTw_of (zt_in_11 (List.mem_of_getElem? (i := 47) rfl)) rfl
theorem w_752 : Cond.fieldLink "SchemeElevenModel" 765 "SchemeElevenModel" "keptFrom" "I" ∈ zTw := zTw_of (zt_in_11 (List.mem_of_getElem? (i := 46) rfl)) rfl
theorem w_753 : Cond.constant "SchemeElevenModel" 638 (34820 : Int32) ∈ zTw := zTw_of (zt_in_10 (List.mem_of_getElem? (i := 86) rfl)) rfl
theorem w_754 : Cond.methodLink "SchemeElevenModel" 646 ⟨"SchemeElevenModel", "constant", "(II)V"⟩ ∈ zTw := zTw_of (zt_in_10 (List.mem_of_getElem? (i := 78) rfl)) rfl
theorem w_755 : Cond.code ⟨"SchemeElevenModel", "constant", "(II)V"⟩ prog_14_method_128_code 3 none ∈ zTw := zTw_of (zt_in_10 (List.mem_of_getElem? (i := 81) rfl)) rfl
theorem w_756 : Cond.instanceMethod ⟨"SchemeElevenModel", "constant", "(II)V"⟩ ∈ zTw := zTw_of (zt_in_10 (List.mem_of_getElem? (i := 80) rfl)) rfl
theorem w_757 : Cond.fieldLink "SchemeElevenModel" 459 "SchemeElevenModel" "symbolAt" "[I" ∈ zTw := zTw_of (zt_in_10 (List.mem_of_getElem? (i := 223) rfl)) rfl
theorem w_758 : Cond.fieldLink "SchemeElevenModel" 639 "SchemeElevenModel" "macroRules" "[I" ∈ zTw := zTw_of (zt_in_11 (List.mem_of_getElem? (i := 9) rfl)) rfl
theorem w_759 : Cond.fieldLink "SchemeElevenModel" 486 "SchemeElevenModel" "macros" "I" ∈ zTw := zTw_of (zt_in_11 (List.mem_of_getElem? (i := 7) rfl)) rfl
theorem w_760 : Cond.fieldLink "SchemeElevenModel" 489 "SchemeElevenModel" "macroName" "[I" ∈ zTw := zTw_of (zt_in_11 (List.mem_of_getElem? (i := 8) rfl)) rfl
theorem w_761 : Cond.methodLink "SchemeElevenModel" 507 ⟨"SchemeElevenModel", "macroOf", "(I)I"⟩ ∈ zTw := zTw_of (zt_in_9 (List.mem_of_getElem? (i := 210) rfl)) rfl
theorem w_762 : Cond.code ⟨"SchemeElevenModel", "macroOf", "(I)I"⟩ prog_14_method_98_code 3 (some FieldType.int) ∈ zTw := zTw_of (zt_in_9 (List.mem_of_getElem? (i := 213) rfl)) rfl
theorem w_763 : Cond.instanceMethod ⟨"SchemeElevenModel", "macroOf", "(I)I"⟩ ∈ zTw := zTw_of (zt_in_9 (List.mem_of_getElem? (i := 212) rfl)) rfl
theorem w_764 : Cond.methodLink "SchemeElevenModel" 729 ⟨"SchemeElevenModel", "areRules", "(I)Z"⟩ ∈ zTw := zTw_of (zt_in_10 (List.mem_of_getElem? (i := 136) rfl)) rfl
theorem w_765 : Cond.code ⟨"SchemeElevenModel", "areRules", "(I)Z"⟩ prog_14_method_112_code 5 (some FieldType.boolean) ∈ zTw := zTw_of (zt_in_10 (List.mem_of_getElem? (i := 139) rfl)) rfl
theorem w_766 : Cond.instanceMethod ⟨"SchemeElevenModel", "areRules", "(I)Z"⟩ ∈ zTw := zTw_of (zt_in_10 (List.mem_of_getElem? (i := 138) rfl)) rfl
theorem w_767 : Cond.methodLink "SchemeElevenModel" 762 ⟨"SchemeElevenModel", "hasAlias", "(I)Z"⟩ ∈ zTw := zTw_of (zt_in_10 (List.mem_of_getElem? (i := 167) rfl)) rfl
theorem w_768 : Cond.code ⟨"SchemeElevenModel", "hasAlias", "(I)Z"⟩ prog_14_method_146_code 3 (some FieldType.boolean) ∈ zTw := zTw_of (zt_in_10 (List.mem_of_getElem? (i := 170) rfl)) rfl
theorem w_769 : Cond.instanceMethod ⟨"SchemeElevenModel", "hasAlias", "(I)Z"⟩ ∈ zTw := zTw_of (zt_in_10 (List.mem_of_getElem? (i := 169) rfl)) rfl
theorem w_770 : Cond.fieldLink "SchemeElevenModel" 847 "SchemeElevenModel" "taped" "I" ∈ zTw := zTw_of (zt_in_10 (List.mem_of_getElem? (i := 211) rfl)) rfl
theorem w_771 : Cond.methodLink "SchemeElevenModel" 118 ⟨"SchemeElevenModel", "in", "(III)Z"⟩ ∈ zTw := zTw_of (zt_in_8 (List.mem_of_getElem? (i := 92) rfl)) rfl
theorem w_772 : Cond.code ⟨"SchemeElevenModel", "in", "(III)Z"⟩ prog_14_method_2_code 3 (some FieldType.boolean) ∈ zTw := zTw_of (zt_in_8 (List.mem_of_getElem? (i := 94) rfl)) rfl
theorem w_773 : Cond.static ⟨"SchemeElevenModel", "in", "(III)Z"⟩ ∈ zTw := zTw_of (zt_in_8 (List.mem_of_getElem? (i := 93) rfl)) rfl
theorem w_774 : Cond.fieldLink "SchemeElevenModel" 338 "SchemeElevenModel" "faultAt" "I" ∈ zTw := zTw_of (zt_in_10 (List.mem_of_getElem? (i := 220) rfl)) rfl
theorem w_775 : Cond.fieldLink "SchemeElevenModel" 335 "SchemeElevenModel" "fault" "I" ∈ zTw := zTw_of (zt_in_10 (List.mem_of_getElem? (i := 219) rfl)) rfl
theorem w_776 : Cond.methodLink "SchemeElevenModel" 850 ⟨"SchemeElevenModel", "feeds", "(I)V"⟩ ∈ zTw := zTw_of (zt_in_12 (List.mem_of_getElem? (i := 52) rfl)) rfl
theorem w_777 : Cond.code ⟨"SchemeElevenModel", "feeds", "(I)V"⟩ prog_14_method_156_code 3 none ∈ zTw := zTw_of (zt_in_12 (List.mem_of_getElem? (i := 55) rfl)) rfl
theorem w_778 : Cond.instanceMethod ⟨"SchemeElevenModel", "feeds", "(I)V"⟩ ∈ zTw := zTw_of (zt_in_12 (List.mem_of_getElem? (i := 54) rfl)) rfl
theorem w_779 : Cond.fieldLink "SchemeElevenModel" 813 "SchemeElevenModel" "tape" "[I" ∈ zTw := zTw_of (zt_in_10 (List.mem_of_getElem? (i := 210) rfl)) rfl
theorem w_780 : Cond.methodLink "SchemeElevenModel" 25 ⟨"SchemeElevenModel", "setR", "(II)V"⟩ ∈ zTw := zTw_of (zt_in_8 (List.mem_of_getElem? (i := 121) rfl)) rfl
theorem w_781 : Cond.code ⟨"SchemeElevenModel", "setR", "(II)V"⟩ prog_14_method_4_code 3 none ∈ zTw := zTw_of (zt_in_8 (List.mem_of_getElem? (i := 124) rfl)) rfl
theorem w_782 : Cond.instanceMethod ⟨"SchemeElevenModel", "setR", "(II)V"⟩ ∈ zTw := zTw_of (zt_in_8 (List.mem_of_getElem? (i := 123) rfl)) rfl
theorem w_783 : Cond.methodLink "SchemeElevenModel" 18 ⟨"SchemeElevenModel", "\x72", "(I)I"⟩ ∈ zTw := zTw_of (zt_in_8 (List.mem_of_getElem? (i := 113) rfl)) rfl
theorem w_784 : Cond.code ⟨"SchemeElevenModel", "\x72", "(I)I"⟩ prog_14_method_3_code 2 (some FieldType.int) ∈ zTw := zTw_of (zt_in_8 (List.mem_of_getElem? (i := 116) rfl)) rfl
theorem w_785 : Cond.instanceMethod ⟨"SchemeElevenModel", "\x72", "(I)I"⟩ ∈ zTw := zTw_of (zt_in_8 (List.mem_of_getElem? (i := 115) rfl)) rfl
theorem w_786 : Cond.fieldLink "SchemeElevenModel" 12 "SchemeElevenModel" "stop" "I" ∈ zTw := zTw_of (zt_in_10 (List.mem_of_getElem? (i := 183) rfl)) rfl
theorem w_787 : Cond.methodLink "SchemeElevenModel" 22 ⟨"SchemeElevenModel", "wordAt", "(I)I"⟩ ∈ zTw := zTw_of (zt_in_8 (List.mem_of_getElem? (i := 117) rfl)) rfl
theorem w_788 : Cond.code ⟨"SchemeElevenModel", "wordAt", "(I)I"⟩ prog_14_method_5_code 2 (some FieldType.int) ∈ zTw := zTw_of (zt_in_8 (List.mem_of_getElem? (i := 120) rfl)) rfl
theorem w_789 : Cond.instanceMethod ⟨"SchemeElevenModel", "wordAt", "(I)I"⟩ ∈ zTw := zTw_of (zt_in_8 (List.mem_of_getElem? (i := 119) rfl)) rfl
theorem w_790 : Cond.fieldLink "SchemeElevenModel" 759 "SchemeElevenModel" "formCount" "I" ∈ zTw := zTw_of (zt_in_11 (List.mem_of_getElem? (i := 45) rfl)) rfl
theorem w_791 : Cond.fieldLink "SchemeElevenModel" 756 "SchemeElevenModel" "formStart" "[I" ∈ zTw := zTw_of (zt_in_11 (List.mem_of_getElem? (i := 44) rfl)) rfl
theorem w_792 : Cond.methodLink "SchemeElevenModel" 753 ⟨"SchemeElevenModel", "lambdas", "()V"⟩ ∈ zTw := zTw_of (zt_in_10 (List.mem_of_getElem? (i := 175) rfl)) rfl
theorem w_793 : Cond.code ⟨"SchemeElevenModel", "lambdas", "()V"⟩ prog_14_method_143_code 4 none ∈ zTw := zTw_of (zt_in_10 (List.mem_of_getElem? (i := 178) rfl)) rfl
theorem w_794 : Cond.instanceMethod ⟨"SchemeElevenModel", "lambdas", "()V"⟩ ∈ zTw := zTw_of (zt_in_10 (List.mem_of_getElem? (i := 177) rfl)) rfl
theorem w_795 : Cond.methodLink "SchemeElevenModel" 750 ⟨"SchemeElevenModel", "definesSyntax", "(I)V"⟩ ∈ zTw := zTw_of (zt_in_10 (List.mem_of_getElem? (i := 163) rfl)) rfl
theorem w_796 : Cond.code ⟨"SchemeElevenModel", "definesSyntax", "(I)V"⟩ prog_14_method_148_code 9 none ∈ zTw := zTw_of (zt_in_10 (List.mem_of_getElem? (i := 166) rfl)) rfl
theorem w_797 : Cond.instanceMethod ⟨"SchemeElevenModel", "definesSyntax", "(I)V"⟩ ∈ zTw := zTw_of (zt_in_10 (List.mem_of_getElem? (i := 165) rfl)) rfl
theorem w_798 : Cond.fieldLink "SchemeElevenModel" 495 "SchemeElevenModel" "meant" "I" ∈ zTw := zTw_of (zt_in_11 (List.mem_of_getElem? (i := 10) rfl)) rfl
theorem w_799 : Cond.fieldLink "SchemeElevenModel" 498 "SchemeElevenModel" "meantId" "I" ∈ zTw := zTw_of (zt_in_11 (List.mem_of_getElem? (i := 11) rfl)) rfl
theorem w_800 : Cond.methodLink "SchemeElevenModel" 565 ⟨"SchemeElevenModel", "means", "(II)V"⟩ ∈ zTw := zTw_of (zt_in_9 (List.mem_of_getElem? (i := 202) rfl)) rfl
theorem w_801 : Cond.code ⟨"SchemeElevenModel", "means", "(II)V"⟩ prog_14_method_99_code 8 none ∈ zTw := zTw_of (zt_in_9 (List.mem_of_getElem? (i := 205) rfl)) rfl
theorem w_802 : Cond.instanceMethod ⟨"SchemeElevenModel", "means", "(II)V"⟩ ∈ zTw := zTw_of (zt_in_9 (List.mem_of_getElem? (i := 204) rfl)) rfl
theorem w_803 : Cond.fieldLink "SchemeElevenModel" 620 "SchemeElevenModel" "codeEnd" "I" ∈ zTw := zTw_of (zt_in_10 (List.mem_of_getElem? (i := 189) rfl)) rfl
theorem w_804 : Cond.fieldLink "SchemeElevenModel" 543 "SchemeElevenModel" "variableDepth" "[I" ∈ zTw := zTw_of (zt_in_11 (List.mem_of_getElem? (i := 14) rfl)) rfl
theorem w_805 : Cond.fieldLink "SchemeElevenModel" 522 "SchemeElevenModel" "variable" "[I" ∈ zTw := zTw_of (zt_in_11 (List.mem_of_getElem? (i := 13) rfl)) rfl
theorem w_806 : Cond.methodLink "SchemeElevenModel" 540 ⟨"SchemeElevenModel", "variableOf", "(I)I"⟩ ∈ zTw := zTw_of (zt_in_10 (List.mem_of_getElem? (i := 14) rfl)) rfl
theorem w_807 : Cond.code ⟨"SchemeElevenModel", "variableOf", "(I)I"⟩ prog_14_method_107_code 3 (some FieldType.int) ∈ zTw := zTw_of (zt_in_10 (List.mem_of_getElem? (i := 17) rfl)) rfl
theorem w_808 : Cond.instanceMethod ⟨"SchemeElevenModel", "variableOf", "(I)I"⟩ ∈ zTw := zTw_of (zt_in_10 (List.mem_of_getElem? (i := 16) rfl)) rfl
theorem w_809 : Cond.methodLink "SchemeElevenModel" 537 ⟨"SchemeElevenModel", "isLiteral", "(I)Z"⟩ ∈ zTw := zTw_of (zt_in_10 (List.mem_of_getElem? (i := 6) rfl)) rfl
theorem w_810 : Cond.code ⟨"SchemeElevenModel", "isLiteral", "(I)Z"⟩ prog_14_method_106_code 3 (some FieldType.boolean) ∈ zTw := zTw_of (zt_in_10 (List.mem_of_getElem? (i := 9) rfl)) rfl
theorem w_811 : Cond.instanceMethod ⟨"SchemeElevenModel", "isLiteral", "(I)Z"⟩ ∈ zTw := zTw_of (zt_in_10 (List.mem_of_getElem? (i := 8) rfl)) rfl
theorem w_812 : Cond.methodLink "SchemeElevenModel" 525 ⟨"SchemeElevenModel", "isDots", "(I)Z"⟩ ∈ zTw := zTw_of (zt_in_9 (List.mem_of_getElem? (i := 234) rfl)) rfl
theorem w_813 : Cond.code ⟨"SchemeElevenModel", "isDots", "(I)Z"⟩ prog_14_method_105_code 2 (some FieldType.boolean) ∈ zTw := zTw_of (zt_in_9 (List.mem_of_getElem? (i := 237) rfl)) rfl
theorem w_814 : Cond.instanceMethod ⟨"SchemeElevenModel", "isDots", "(I)Z"⟩ ∈ zTw := zTw_of (zt_in_9 (List.mem_of_getElem? (i := 236) rfl)) rfl
theorem w_815 : Cond.methodLink "SchemeElevenModel" 528 ⟨"SchemeElevenModel", "isDotted", "(I)Z"⟩ ∈ zTw := zTw_of (zt_in_9 (List.mem_of_getElem? (i := 230) rfl)) rfl
theorem w_816 : Cond.code ⟨"SchemeElevenModel", "isDotted", "(I)Z"⟩ prog_14_method_108_code 2 (some FieldType.boolean) ∈ zTw := zTw_of (zt_in_9 (List.mem_of_getElem? (i := 233) rfl)) rfl
theorem w_817 : Cond.instanceMethod ⟨"SchemeElevenModel", "isDotted", "(I)Z"⟩ ∈ zTw := zTw_of (zt_in_9 (List.mem_of_getElem? (i := 232) rfl)) rfl
theorem w_818 : Cond.fieldLink "SchemeElevenModel" 125 "SchemeElevenModel" "latest" "I" ∈ zTw := zTw_of (zt_in_10 (List.mem_of_getElem? (i := 187) rfl)) rfl
theorem w_819 : Cond.methodLink "SchemeElevenModel" 128 ⟨"SchemeElevenModel", "step", "()I"⟩ ∈ zTw := zTw_of (zt_in_8 (List.mem_of_getElem? (i := 104) rfl)) rfl
theorem w_820 : Cond.code ⟨"SchemeElevenModel", "step", "()I"⟩ prog_14_method_15_code 3 (some FieldType.int) ∈ zTw := zTw_of (zt_in_8 (List.mem_of_getElem? (i := 108) rfl)) rfl
theorem w_821 : Cond.instanceMethod ⟨"SchemeElevenModel", "step", "()I"⟩ ∈ zTw := zTw_of (zt_in_8 (List.mem_of_getElem? (i := 106) rfl)) rfl
theorem w_822 : Cond.fieldLink "SchemeElevenModel" 7 "SchemeElevenModel" "m" "I" ∈ zTw := zTw_of (zt_in_10 (List.mem_of_getElem? (i := 182) rfl)) rfl
theorem w_823 : Cond.methodLink "SchemeElevenModel" 546 ⟨"SchemeElevenModel", "hasDeeper", "(II)Z"⟩ ∈ zTw := zTw_of (zt_in_10 (List.mem_of_getElem? (i := 144) rfl)) rfl
theorem w_824 : Cond.code ⟨"SchemeElevenModel", "hasDeeper", "(II)Z"⟩ prog_14_method_110_code 5 (some FieldType.boolean) ∈ zTw := zTw_of (zt_in_10 (List.mem_of_getElem? (i := 147) rfl)) rfl
theorem w_825 : Cond.instanceMethod ⟨"SchemeElevenModel", "hasDeeper", "(II)Z"⟩ ∈ zTw := zTw_of (zt_in_10 (List.mem_of_getElem? (i := 146) rfl)) rfl
theorem w_826 : Cond.methodLink "SchemeElevenModel" 131 ⟨"SchemeElevenModel", "told", "(II)I"⟩ ∈ zTw := zTw_of (zt_in_8 (List.mem_of_getElem? (i := 219) rfl)) rfl
theorem w_827 : Cond.code ⟨"SchemeElevenModel", "told", "(II)I"⟩ prog_14_method_34_code 5 (some FieldType.int) ∈ zTw := zTw_of (zt_in_8 (List.mem_of_getElem? (i := 222) rfl)) rfl
theorem w_828 : Cond.instanceMethod ⟨"SchemeElevenModel", "told", "(II)I"⟩ ∈ zTw := zTw_of (zt_in_8 (List.mem_of_getElem? (i := 221) rfl)) rfl
theorem w_829 : Cond.methodLink "SchemeElevenModel" 819 ⟨"SchemeElevenModel", "reset", "()V"⟩ ∈ zTw := zTw_of (zt_in_9 (List.mem_of_getElem? (i := 52) rfl)) rfl
theorem w_830 : Cond.code ⟨"SchemeElevenModel", "reset", "()V"⟩ prog_14_method_153_code 4 none ∈ zTw := zTw_of (zt_in_9 (List.mem_of_getElem? (i := 55) rfl)) rfl
theorem w_831 : Cond.instanceMethod ⟨"SchemeElevenModel", "reset", "()V"⟩ ∈ zTw := zTw_of (zt_in_9 (List.mem_of_getElem? (i := 53) rfl)) rfl
theorem w_832 : Cond.selects "SchemeElevenModel" ⟨"SchemeElevenModel", "reset", "()V"⟩ ⟨"SchemeElevenModel", "reset", "()V"⟩ ∈ zTw := zTw_of (zt_in_9 (List.mem_of_getElem? (i := 54) rfl)) rfl
theorem w_833 : Cond.fieldLink "SchemeElevenModel" 816 "SchemeElevenModel" "starter" "[I" ∈ zTw := zTw_of (zt_in_11 (List.mem_of_getElem? (i := 52) rfl)) rfl
theorem w_834 : Cond.fieldLink "SchemeElevenModel" 787 "SchemeElevenModel" "savedRules" "[I" ∈ zTw := zTw_of (zt_in_11 (List.mem_of_getElem? (i := 51) rfl)) rfl
theorem w_835 : Cond.fieldLink "SchemeElevenModel" 784 "SchemeElevenModel" "savedName" "[I" ∈ zTw := zTw_of (zt_in_11 (List.mem_of_getElem? (i := 50) rfl)) rfl
theorem w_836 : Cond.fieldLink "SchemeElevenModel" 777 "SchemeElevenModel" "dataRows" "[[I" ∈ zTw := zTw_of (zt_in_11 (List.mem_of_getElem? (i := 49) rfl)) rfl
theorem w_837 : Cond.classLink "SchemeElevenModel" 811 "[I" ∈ zTw := zTw_of (zt_in_9 (List.mem_of_getElem? (i := 49) rfl)) rfl
theorem w_838 : Cond.fieldLink "SchemeElevenModel" 774 "SchemeElevenModel" "savedData" "[[I" ∈ zTw := zTw_of (zt_in_11 (List.mem_of_getElem? (i := 48) rfl)) rfl
theorem w_839 : Cond.classLink "SchemeElevenModel" 812 "[[I" ∈ zTw := zTw_of (zt_in_9 (List.mem_of_getElem? (i := 51) rfl)) rfl
theorem w_840 : Cond.fieldLink "SchemeElevenModel" 800 "SchemeElevenModel" "formAt" "[I" ∈ zTw := zTw_of (zt_in_11 (List.mem_of_getElem? (i := 38) rfl)) rfl
theorem w_841 : Cond.fieldLink "SchemeElevenModel" 744 "SchemeElevenModel" "waitingPlace" "[I" ∈ zTw := zTw_of (zt_in_11 (List.mem_of_getElem? (i := 37) rfl)) rfl
theorem w_842 : Cond.fieldLink "SchemeElevenModel" 741 "SchemeElevenModel" "waitingDatum" "[I" ∈ zTw := zTw_of (zt_in_11 (List.mem_of_getElem? (i := 36) rfl)) rfl
theorem w_843 : Cond.fieldLink "SchemeElevenModel" 635 "SchemeElevenModel" "names" "[I" ∈ zTw := zTw_of (zt_in_11 (List.mem_of_getElem? (i := 33) rfl)) rfl
theorem w_844 : Cond.fieldLink "SchemeElevenModel" 726 "SchemeElevenModel" "pendingAt" "[I" ∈ zTw := zTw_of (zt_in_11 (List.mem_of_getElem? (i := 31) rfl)) rfl
theorem w_845 : Cond.fieldLink "SchemeElevenModel" 723 "SchemeElevenModel" "pendingLevel" "[I" ∈ zTw := zTw_of (zt_in_11 (List.mem_of_getElem? (i := 30) rfl)) rfl
theorem w_846 : Cond.fieldLink "SchemeElevenModel" 720 "SchemeElevenModel" "pendingPlace" "[I" ∈ zTw := zTw_of (zt_in_11 (List.mem_of_getElem? (i := 29) rfl)) rfl
theorem w_847 : Cond.fieldLink "SchemeElevenModel" 717 "SchemeElevenModel" "pendingScope" "[I" ∈ zTw := zTw_of (zt_in_11 (List.mem_of_getElem? (i := 28) rfl)) rfl
theorem w_848 : Cond.fieldLink "SchemeElevenModel" 714 "SchemeElevenModel" "pendingBody" "[I" ∈ zTw := zTw_of (zt_in_11 (List.mem_of_getElem? (i := 27) rfl)) rfl
theorem w_849 : Cond.fieldLink "SchemeElevenModel" 708 "SchemeElevenModel" "pendingNames" "[I" ∈ zTw := zTw_of (zt_in_11 (List.mem_of_getElem? (i := 26) rfl)) rfl
theorem w_850 : Cond.fieldLink "SchemeElevenModel" 574 "SchemeElevenModel" "turn" "[I" ∈ zTw := zTw_of (zt_in_11 (List.mem_of_getElem? (i := 17) rfl)) rfl
theorem w_851 : Cond.fieldLink "SchemeElevenModel" 483 "SchemeElevenModel" "toldRules" "[I" ∈ zTw := zTw_of (zt_in_11 (List.mem_of_getElem? (i := 5) rfl)) rfl
theorem w_852 : Cond.fieldLink "SchemeElevenModel" 480 "SchemeElevenModel" "toldName" "[I" ∈ zTw := zTw_of (zt_in_11 (List.mem_of_getElem? (i := 4) rfl)) rfl
theorem w_853 : Cond.fieldLink "SchemeElevenModel" 477 "SchemeElevenModel" "scopeIsRib" "[I" ∈ zTw := zTw_of (zt_in_11 (List.mem_of_getElem? (i := 2) rfl)) rfl
theorem w_854 : Cond.fieldLink "SchemeElevenModel" 468 "SchemeElevenModel" "scopeFrom" "[I" ∈ zTw := zTw_of (zt_in_11 (List.mem_of_getElem? (i := 1) rfl)) rfl
theorem w_855 : Cond.fieldLink "SchemeElevenModel" 474 "SchemeElevenModel" "scopeAround" "[I" ∈ zTw := zTw_of (zt_in_11 (List.mem_of_getElem? (i := 0) rfl)) rfl
theorem w_856 : Cond.fieldLink "SchemeElevenModel" 504 "SchemeElevenModel" "aliasIn" "[I" ∈ zTw := zTw_of (zt_in_10 (List.mem_of_getElem? (i := 238) rfl)) rfl
theorem w_857 : Cond.fieldLink "SchemeElevenModel" 462 "SchemeElevenModel" "aliasOf" "[I" ∈ zTw := zTw_of (zt_in_10 (List.mem_of_getElem? (i := 237) rfl)) rfl
theorem w_858 : Cond.fieldLink "SchemeElevenModel" 434 "SchemeElevenModel" "row" "[I" ∈ zTw := zTw_of (zt_in_10 (List.mem_of_getElem? (i := 236) rfl)) rfl
theorem w_859 : Cond.fieldLink "SchemeElevenModel" 329 "SchemeElevenModel" "letterMany" "[I" ∈ zTw := zTw_of (zt_in_10 (List.mem_of_getElem? (i := 222) rfl)) rfl
theorem w_860 : Cond.fieldLink "SchemeElevenModel" 332 "SchemeElevenModel" "letters" "[I" ∈ zTw := zTw_of (zt_in_10 (List.mem_of_getElem? (i := 221) rfl)) rfl
theorem w_861 : Cond.fieldLink "SchemeElevenModel" 274 "SchemeElevenModel" "line" "[I" ∈ zTw := zTw_of (zt_in_10 (List.mem_of_getElem? (i := 206) rfl)) rfl
theorem w_862 : Cond.fieldLink "SchemeElevenModel" 308 "SchemeElevenModel" "out" "[I" ∈ zTw := zTw_of (zt_in_10 (List.mem_of_getElem? (i := 203) rfl)) rfl
theorem w_863 : Cond.fieldLink "SchemeElevenModel" 302 "SchemeElevenModel" "inputs" "[I" ∈ zTw := zTw_of (zt_in_10 (List.mem_of_getElem? (i := 201) rfl)) rfl
theorem w_864 : Cond.fieldLink "SchemeElevenModel" 217 "SchemeElevenModel" "arguments" "[I" ∈ zTw := zTw_of (zt_in_10 (List.mem_of_getElem? (i := 198) rfl)) rfl
theorem w_865 : Cond.fieldLink "SchemeElevenModel" 151 "SchemeElevenModel" "waits" "[I" ∈ zTw := zTw_of (zt_in_10 (List.mem_of_getElem? (i := 195) rfl)) rfl
theorem w_866 : Cond.fieldLink "SchemeElevenModel" 158 "SchemeElevenModel" "moved" "[I" ∈ zTw := zTw_of (zt_in_10 (List.mem_of_getElem? (i := 194) rfl)) rfl
theorem w_867 : Cond.fieldLink "SchemeElevenModel" 148 "SchemeElevenModel" "reached" "[Z" ∈ zTw := zTw_of (zt_in_10 (List.mem_of_getElem? (i := 193) rfl)) rfl
theorem w_868 : Cond.arrayClass FieldType.boolean ∈ zTw := zTw_of (zt_in_12 (List.mem_of_getElem? (i := 42) rfl)) rfl
theorem w_869 : Cond.fieldLink "SchemeElevenModel" 141 "SchemeElevenModel" "begins" "[Z" ∈ zTw := zTw_of (zt_in_10 (List.mem_of_getElem? (i := 192) rfl)) rfl
theorem w_870 : Cond.fieldLink "SchemeElevenModel" 44 "SchemeElevenModel" "flags" "[[I" ∈ zTw := zTw_of (zt_in_10 (List.mem_of_getElem? (i := 181) rfl)) rfl
theorem w_871 : Cond.fieldLink "SchemeElevenModel" 1 "SchemeElevenModel" "registers" "[[I" ∈ zTw := zTw_of (zt_in_10 (List.mem_of_getElem? (i := 180) rfl)) rfl
theorem w_872 : Cond.constant "SchemeElevenModel" 51 (65536 : Int32) ∈ zTw := zTw_of (zt_in_8 (List.mem_of_getElem? (i := 144) rfl)) rfl
theorem w_873 : Cond.methodLink "SchemeElevenModel" 806 ⟨"java/lang/Object", "<init>", "()V"⟩ ∈ zTw := zTw_of (zt_in_9 (List.mem_of_getElem? (i := 48) rfl)) rfl
theorem w_874 : Cond.fieldLink "SchemeElevenModel" 299 "SchemeElevenModel" "inputMany" "I" ∈ zTw := zTw_of (zt_in_10 (List.mem_of_getElem? (i := 202) rfl)) rfl
theorem w_875 : Cond.methodLink "SchemeElevenModel" 510 ⟨"SchemeElevenModel", "atLast", "(I)I"⟩ ∈ zTw := zTw_of (zt_in_10 (List.mem_of_getElem? (i := 2) rfl)) rfl
theorem w_876 : Cond.code ⟨"SchemeElevenModel", "atLast", "(I)I"⟩ prog_14_method_94_code 3 (some FieldType.int) ∈ zTw := zTw_of (zt_in_10 (List.mem_of_getElem? (i := 5) rfl)) rfl
theorem w_877 : Cond.instanceMethod ⟨"SchemeElevenModel", "atLast", "(I)I"⟩ ∈ zTw := zTw_of (zt_in_10 (List.mem_of_getElem? (i := 4) rfl)) rfl
theorem w_878 : Cond.methodLink "SchemeElevenModel" 235 ⟨"SchemeElevenModel", "is", "(II)Z"⟩ ∈ zTw := zTw_of (zt_in_9 (List.mem_of_getElem? (i := 3) rfl)) rfl
theorem w_879 : Cond.code ⟨"SchemeElevenModel", "is", "(II)Z"⟩ prog_14_method_42_code 3 (some FieldType.boolean) ∈ zTw := zTw_of (zt_in_9 (List.mem_of_getElem? (i := 6) rfl)) rfl
theorem w_880 : Cond.instanceMethod ⟨"SchemeElevenModel", "is", "(II)Z"⟩ ∈ zTw := zTw_of (zt_in_9 (List.mem_of_getElem? (i := 5) rfl)) rfl
theorem w_881 : Cond.methodLink "SchemeElevenModel" 229 ⟨"SchemeElevenModel", "isPrimitive", "(I)Z"⟩ ∈ zTw := zTw_of (zt_in_9 (List.mem_of_getElem? (i := 25) rfl)) rfl
theorem w_882 : Cond.code ⟨"SchemeElevenModel", "isPrimitive", "(I)Z"⟩ prog_14_method_43_code 1 (some FieldType.boolean) ∈ zTw := zTw_of (zt_in_9 (List.mem_of_getElem? (i := 27) rfl)) rfl
theorem w_883 : Cond.static ⟨"SchemeElevenModel", "isPrimitive", "(I)Z"⟩ ∈ zTw := zTw_of (zt_in_9 (List.mem_of_getElem? (i := 26) rfl)) rfl
theorem w_884 : Cond.methodLink "SchemeElevenModel" 368 ⟨"java/lang/String", "indexOf", "(I)I"⟩ ∈ zTw := zTw_of (zt_in_9 (List.mem_of_getElem? (i := 130) rfl)) rfl
theorem w_885 : Cond.code ⟨"java/lang/String", "indexOf", "(I)I"⟩ prog_17_method_79_code 2 (some FieldType.int) ∈ zTw := zTw_of (zt_in_9 (List.mem_of_getElem? (i := 133) rfl)) rfl
theorem w_886 : Cond.instanceMethod ⟨"java/lang/String", "indexOf", "(I)I"⟩ ∈ zTw := zTw_of (zt_in_9 (List.mem_of_getElem? (i := 131) rfl)) rfl
theorem w_887 : Cond.selects "java/lang/String" ⟨"java/lang/String", "indexOf", "(I)I"⟩ ⟨"java/lang/String", "indexOf", "(I)I"⟩ ∈ zTw := zTw_of (zt_in_9 (List.mem_of_getElem? (i := 132) rfl)) rfl
theorem w_888 : Cond.methodLink "SchemeElevenModel" 256 ⟨"SchemeElevenModel", "isProcedure", "(I)Z"⟩ ∈ zTw := zTw_of (zt_in_9 (List.mem_of_getElem? (i := 21) rfl)) rfl
theorem w_889 : Cond.code ⟨"SchemeElevenModel", "isProcedure", "(I)Z"⟩ prog_14_method_66_code 2 (some FieldType.boolean) ∈ zTw := zTw_of (zt_in_9 (List.mem_of_getElem? (i := 24) rfl)) rfl
theorem w_890 : Cond.instanceMethod ⟨"SchemeElevenModel", "isProcedure", "(I)Z"⟩ ∈ zTw := zTw_of (zt_in_9 (List.mem_of_getElem? (i := 23) rfl)) rfl
theorem w_891 : Cond.methodLink "SchemeElevenModel" 238 ⟨"SchemeElevenModel", "isNumber", "(I)Z"⟩ ∈ zTw := zTw_of (zt_in_9 (List.mem_of_getElem? (i := 15) rfl)) rfl
theorem w_892 : Cond.code ⟨"SchemeElevenModel", "isNumber", "(I)Z"⟩ prog_14_method_39_code 1 (some FieldType.boolean) ∈ zTw := zTw_of (zt_in_9 (List.mem_of_getElem? (i := 17) rfl)) rfl
theorem w_893 : Cond.static ⟨"SchemeElevenModel", "isNumber", "(I)Z"⟩ ∈ zTw := zTw_of (zt_in_9 (List.mem_of_getElem? (i := 16) rfl)) rfl
theorem w_894 : Cond.fieldLink "SchemeElevenModel" 711 "SchemeElevenModel" "pendings" "I" ∈ zTw := zTw_of (zt_in_11 (List.mem_of_getElem? (i := 32) rfl)) rfl
theorem w_895 : Cond.fieldLink "SchemeElevenModel" 456 "SchemeElevenModel" "symbols" "I" ∈ zTw := zTw_of (zt_in_10 (List.mem_of_getElem? (i := 224) rfl)) rfl
theorem w_896 : Cond.fieldLink "SchemeElevenModel" 822 "SchemeElevenModel" "nextForm" "I" ∈ zTw := zTw_of (zt_in_11 (List.mem_of_getElem? (i := 40) rfl)) rfl
theorem w_897 : Cond.fieldLink "SchemeElevenModel" 803 "SchemeElevenModel" "formMany" "I" ∈ zTw := zTw_of (zt_in_11 (List.mem_of_getElem? (i := 39) rfl)) rfl
theorem w_898 : Cond.methodLink "SchemeElevenModel" 844 ⟨"SchemeElevenModel", "takesText", "()V"⟩ ∈ zTw := zTw_of (zt_in_9 (List.mem_of_getElem? (i := 72) rfl)) rfl
theorem w_899 : Cond.code ⟨"SchemeElevenModel", "takesText", "()V"⟩ prog_14_method_151_code 8 none ∈ zTw := zTw_of (zt_in_9 (List.mem_of_getElem? (i := 75) rfl)) rfl
theorem w_900 : Cond.instanceMethod ⟨"SchemeElevenModel", "takesText", "()V"⟩ ∈ zTw := zTw_of (zt_in_9 (List.mem_of_getElem? (i := 74) rfl)) rfl
theorem w_901 : Cond.fieldLink "SchemeElevenModel" 311 "SchemeElevenModel" "outMany" "I" ∈ zTw := zTw_of (zt_in_10 (List.mem_of_getElem? (i := 204) rfl)) rfl
theorem w_902 : Cond.fieldLink "SchemeElevenModel" 828 "SchemeElevenModel" "doneForms" "I" ∈ zTw := zTw_of (zt_in_11 (List.mem_of_getElem? (i := 42) rfl)) rfl
theorem w_903 : Cond.fieldLink "SchemeElevenModel" 831 "SchemeElevenModel" "error" "I" ∈ zTw := zTw_of (zt_in_11 (List.mem_of_getElem? (i := 43) rfl)) rfl
theorem w_904 : Cond.fieldLink "SchemeElevenModel" 161 "SchemeElevenModel" "packed" "I" ∈ zTw := zTw_of (zt_in_10 (List.mem_of_getElem? (i := 191) rfl)) rfl
theorem w_905 : Cond.fieldLink "SchemeElevenModel" 138 "SchemeElevenModel" "heapEnd" "I" ∈ zTw := zTw_of (zt_in_10 (List.mem_of_getElem? (i := 190) rfl)) rfl
theorem w_906 : Cond.fieldLink "SchemeElevenModel" 170 "SchemeElevenModel" "staticEnd" "I" ∈ zTw := zTw_of (zt_in_10 (List.mem_of_getElem? (i := 188) rfl)) rfl
theorem w_907 : Cond.fieldLink "SchemeElevenModel" 501 "SchemeElevenModel" "meantScope" "I" ∈ zTw := zTw_of (zt_in_11 (List.mem_of_getElem? (i := 12) rfl)) rfl
theorem w_908 : Cond.fieldLink "SchemeElevenModel" 305 "SchemeElevenModel" "kept" "I" ∈ zTw := zTw_of (zt_in_10 (List.mem_of_getElem? (i := 205) rfl)) rfl
theorem w_909 : Cond.methodLink "SchemeElevenModel" 122 ⟨"SchemeElevenModel", "isBenchPlace", "(I)Z"⟩ ∈ zTw := zTw_of (zt_in_8 (List.mem_of_getElem? (i := 89) rfl)) rfl
theorem w_910 : Cond.code ⟨"SchemeElevenModel", "isBenchPlace", "(I)Z"⟩ prog_14_method_29_code 1 (some FieldType.boolean) ∈ zTw := zTw_of (zt_in_8 (List.mem_of_getElem? (i := 91) rfl)) rfl
theorem w_911 : Cond.static ⟨"SchemeElevenModel", "isBenchPlace", "(I)Z"⟩ ∈ zTw := zTw_of (zt_in_8 (List.mem_of_getElem? (i := 90) rfl)) rfl
theorem w_912 : Cond.methodLink "SchemeElevenModel" 391 ⟨"SchemeElevenModel", "blanks", "()V"⟩ ∈ zTw := zTw_of (zt_in_9 (List.mem_of_getElem? (i := 87) rfl)) rfl
theorem w_913 : Cond.code ⟨"SchemeElevenModel", "blanks", "()V"⟩ prog_14_method_85_code 1 none ∈ zTw := zTw_of (zt_in_9 (List.mem_of_getElem? (i := 90) rfl)) rfl
theorem w_914 : Cond.instanceMethod ⟨"SchemeElevenModel", "blanks", "()V"⟩ ∈ zTw := zTw_of (zt_in_9 (List.mem_of_getElem? (i := 89) rfl)) rfl
theorem w_915 : Cond.methodLink "SchemeElevenModel" 397 ⟨"SchemeElevenModel", "token", "()V"⟩ ∈ zTw := zTw_of (zt_in_9 (List.mem_of_getElem? (i := 95) rfl)) rfl
theorem w_916 : Cond.code ⟨"SchemeElevenModel", "token", "()V"⟩ prog_14_method_88_code 3 none ∈ zTw := zTw_of (zt_in_9 (List.mem_of_getElem? (i := 98) rfl)) rfl
theorem w_917 : Cond.instanceMethod ⟨"SchemeElevenModel", "token", "()V"⟩ ∈ zTw := zTw_of (zt_in_9 (List.mem_of_getElem? (i := 97) rfl)) rfl
theorem w_918 : Cond.methodLink "SchemeElevenModel" 836 ⟨"java/lang/String", "length", "()I"⟩ ∈ zTw := zTw_of (zt_in_9 (List.mem_of_getElem? (i := 57) rfl)) rfl
theorem w_919 : Cond.methodLink "SchemeElevenModel" 838 ⟨"java/lang/String", "charAt", "(I)C"⟩ ∈ zTw := zTw_of (zt_in_9 (List.mem_of_getElem? (i := 58) rfl)) rfl
theorem w_920 : Cond.methodLink "SchemeElevenModel" 176 ⟨"SchemeElevenModel", "setCell", "(II)V"⟩ ∈ zTw := zTw_of (zt_in_9 (List.mem_of_getElem? (i := 67) rfl)) rfl
theorem w_921 : Cond.code ⟨"SchemeElevenModel", "setCell", "(II)V"⟩ prog_14_method_38_code 3 none ∈ zTw := zTw_of (zt_in_9 (List.mem_of_getElem? (i := 70) rfl)) rfl
theorem w_922 : Cond.instanceMethod ⟨"SchemeElevenModel", "setCell", "(II)V"⟩ ∈ zTw := zTw_of (zt_in_9 (List.mem_of_getElem? (i := 69) rfl)) rfl
theorem w_923 : Cond.methodLink "SchemeElevenModel" 453 ⟨"SchemeElevenModel", "symbol", "(I)I"⟩ ∈ zTw := zTw_of (zt_in_9 (List.mem_of_getElem? (i := 59) rfl)) rfl
theorem w_924 : Cond.code ⟨"SchemeElevenModel", "symbol", "(I)I"⟩ prog_14_method_93_code 5 (some FieldType.int) ∈ zTw := zTw_of (zt_in_9 (List.mem_of_getElem? (i := 62) rfl)) rfl
theorem w_925 : Cond.instanceMethod ⟨"SchemeElevenModel", "symbol", "(I)I"⟩ ∈ zTw := zTw_of (zt_in_9 (List.mem_of_getElem? (i := 61) rfl)) rfl
theorem w_926 : Cond.fieldLink "SchemeElevenModel" 825 "SchemeElevenModel" "begun" "Z" ∈ zTw := zTw_of (zt_in_11 (List.mem_of_getElem? (i := 41) rfl)) rfl
theorem w_927 : Cond.constant "SchemeElevenModel" 62 (32768 : Int32) ∈ zTw := zTw_of (zt_in_8 (List.mem_of_getElem? (i := 157) rfl)) rfl
theorem w_928 : Cond.methodLink "SchemeElevenModel" 409 ⟨"SchemeElevenModel", "mayBegin", "()Z"⟩ ∈ zTw := zTw_of (zt_in_9 (List.mem_of_getElem? (i := 99) rfl)) rfl
theorem w_929 : Cond.code ⟨"SchemeElevenModel", "mayBegin", "()Z"⟩ prog_14_method_87_code 2 (some FieldType.boolean) ∈ zTw := zTw_of (zt_in_9 (List.mem_of_getElem? (i := 102) rfl)) rfl
theorem w_930 : Cond.instanceMethod ⟨"SchemeElevenModel", "mayBegin", "()Z"⟩ ∈ zTw := zTw_of (zt_in_9 (List.mem_of_getElem? (i := 101) rfl)) rfl
theorem w_931 : Cond.constant "SchemeElevenModel" 437 (100000 : Int32) ∈ zTw := zTw_of (zt_in_9 (List.mem_of_getElem? (i := 123) rfl)) rfl
theorem w_932 : Cond.methodLink "SchemeElevenModel" 780 ⟨"SchemeElevenModel", "copy", "([II[III)V"⟩ ∈ zTw := zTw_of (zt_in_9 (List.mem_of_getElem? (i := 80) rfl)) rfl
theorem w_933 : Cond.code ⟨"SchemeElevenModel", "copy", "([II[III)V"⟩ prog_14_method_149_code 6 none ∈ zTw := zTw_of (zt_in_9 (List.mem_of_getElem? (i := 82) rfl)) rfl
theorem w_934 : Cond.static ⟨"SchemeElevenModel", "copy", "([II[III)V"⟩ ∈ zTw := zTw_of (zt_in_9 (List.mem_of_getElem? (i := 81) rfl)) rfl
theorem w_935 : Cond.constant "SchemeElevenModel" 11 (65535 : Int32) ∈ zTw := zTw_of (zt_in_8 (List.mem_of_getElem? (i := 99) rfl)) rfl
theorem w_936 : Cond.fieldLink "SchemeElevenModel" 271 "SchemeElevenModel" "lineSize" "I" ∈ zTw := zTw_of (zt_in_10 (List.mem_of_getElem? (i := 207) rfl)) rfl
theorem w_937 : Cond.methodLink "SchemeElevenModel" 268 ⟨"SchemeElevenModel", "written", "(I)V"⟩ ∈ zTw := zTw_of (zt_in_8 (List.mem_of_getElem? (i := 231) rfl)) rfl
theorem w_938 : Cond.code ⟨"SchemeElevenModel", "written", "(I)V"⟩ prog_14_method_74_code 2 none ∈ zTw := zTw_of (zt_in_8 (List.mem_of_getElem? (i := 234) rfl)) rfl
theorem w_939 : Cond.instanceMethod ⟨"SchemeElevenModel", "written", "(I)V"⟩ ∈ zTw := zTw_of (zt_in_8 (List.mem_of_getElem? (i := 233) rfl)) rfl
theorem w_940 : Cond.methodLink "SchemeElevenModel" 443 ⟨"java/lang/Math", "max", "(II)I"⟩ ∈ zTw := zTw_of (zt_in_9 (List.mem_of_getElem? (i := 125) rfl)) rfl
theorem w_941 : Cond.methodLink "SchemeElevenModel" 438 ⟨"java/lang/Math", "min", "(II)I"⟩ ∈ zTw := zTw_of (zt_in_9 (List.mem_of_getElem? (i := 124) rfl)) rfl
theorem w_942 : Cond.methodLink "SchemeElevenModel" 56 ⟨"SchemeElevenModel", "single", "(IZ)V"⟩ ∈ zTw := zTw_of (zt_in_8 (List.mem_of_getElem? (i := 175) rfl)) rfl
theorem w_943 : Cond.code ⟨"SchemeElevenModel", "single", "(IZ)V"⟩ prog_14_method_22_code 5 none ∈ zTw := zTw_of (zt_in_8 (List.mem_of_getElem? (i := 178) rfl)) rfl
theorem w_944 : Cond.instanceMethod ⟨"SchemeElevenModel", "single", "(IZ)V"⟩ ∈ zTw := zTw_of (zt_in_8 (List.mem_of_getElem? (i := 177) rfl)) rfl
theorem w_945 : Cond.methodLink "SchemeElevenModel" 36 ⟨"SchemeElevenModel", "fetched", "()I"⟩ ∈ zTw := zTw_of (zt_in_8 (List.mem_of_getElem? (i := 109) rfl)) rfl
theorem w_946 : Cond.code ⟨"SchemeElevenModel", "fetched", "()I"⟩ prog_14_method_7_code 2 (some FieldType.int) ∈ zTw := zTw_of (zt_in_8 (List.mem_of_getElem? (i := 112) rfl)) rfl
theorem w_947 : Cond.instanceMethod ⟨"SchemeElevenModel", "fetched", "()I"⟩ ∈ zTw := zTw_of (zt_in_8 (List.mem_of_getElem? (i := 111) rfl)) rfl
theorem w_948 : Cond.methodLink "SchemeElevenModel" 797 ⟨"SchemeElevenModel", "form", "(I)V"⟩ ∈ zTw := zTw_of (zt_in_9 (List.mem_of_getElem? (i := 190) rfl)) rfl
theorem w_949 : Cond.code ⟨"SchemeElevenModel", "form", "(I)V"⟩ prog_14_method_144_code 6 none ∈ zTw := zTw_of (zt_in_9 (List.mem_of_getElem? (i := 193) rfl)) rfl
theorem w_950 : Cond.instanceMethod ⟨"SchemeElevenModel", "form", "(I)V"⟩ ∈ zTw := zTw_of (zt_in_9 (List.mem_of_getElem? (i := 192) rfl)) rfl
theorem w_951 : Cond.methodLink "SchemeElevenModel" 794 ⟨"SchemeElevenModel", "readText", "()V"⟩ ∈ zTw := zTw_of (zt_in_9 (List.mem_of_getElem? (i := 83) rfl)) rfl
theorem w_952 : Cond.code ⟨"SchemeElevenModel", "readText", "()V"⟩ prog_14_method_86_code 1 none ∈ zTw := zTw_of (zt_in_9 (List.mem_of_getElem? (i := 86) rfl)) rfl
theorem w_953 : Cond.instanceMethod ⟨"SchemeElevenModel", "readText", "()V"⟩ ∈ zTw := zTw_of (zt_in_9 (List.mem_of_getElem? (i := 85) rfl)) rfl
theorem w_954 : Cond.fieldLink "SchemeElevenModel" 590 "SchemeElevenModel" "madeParts" "I" ∈ zTw := zTw_of (zt_in_11 (List.mem_of_getElem? (i := 20) rfl)) rfl
theorem w_955 : Cond.fieldLink "SchemeElevenModel" 617 "SchemeElevenModel" "uses" "I" ∈ zTw := zTw_of (zt_in_11 (List.mem_of_getElem? (i := 19) rfl)) rfl
theorem w_956 : Cond.fieldLink "SchemeElevenModel" 471 "SchemeElevenModel" "toldMany" "I" ∈ zTw := zTw_of (zt_in_11 (List.mem_of_getElem? (i := 6) rfl)) rfl
theorem w_957 : Cond.fieldLink "SchemeElevenModel" 465 "SchemeElevenModel" "scopes" "I" ∈ zTw := zTw_of (zt_in_11 (List.mem_of_getElem? (i := 3) rfl)) rfl
theorem w_958 : Cond.fieldLink "SchemeElevenModel" 599 "SchemeElevenModel" "aliases" "I" ∈ zTw := zTw_of (zt_in_10 (List.mem_of_getElem? (i := 239) rfl)) rfl
theorem w_959 : Cond.methodLink "SchemeElevenModel" 790 ⟨"SchemeElevenModel", "saves", "(Z)V"⟩ ∈ zTw := zTw_of (zt_in_9 (List.mem_of_getElem? (i := 76) rfl)) rfl
theorem w_960 : Cond.code ⟨"SchemeElevenModel", "saves", "(Z)V"⟩ prog_14_method_150_code 3 none ∈ zTw := zTw_of (zt_in_9 (List.mem_of_getElem? (i := 79) rfl)) rfl
theorem w_961 : Cond.instanceMethod ⟨"SchemeElevenModel", "saves", "(Z)V"⟩ ∈ zTw := zTw_of (zt_in_9 (List.mem_of_getElem? (i := 78) rfl)) rfl
theorem w_962 : Cond.methodLink "SchemeElevenModel" 425 ⟨"SchemeElevenModel", "rowOfSigns", "()V"⟩ ∈ zTw := zTw_of (zt_in_9 (List.mem_of_getElem? (i := 185) rfl)) rfl
theorem w_963 : Cond.code ⟨"SchemeElevenModel", "rowOfSigns", "()V"⟩ prog_14_method_92_code 6 none ∈ zTw := zTw_of (zt_in_9 (List.mem_of_getElem? (i := 188) rfl)) rfl
theorem w_964 : Cond.instanceMethod ⟨"SchemeElevenModel", "rowOfSigns", "()V"⟩ ∈ zTw := zTw_of (zt_in_9 (List.mem_of_getElem? (i := 187) rfl)) rfl
theorem w_965 : Cond.methodLink "SchemeElevenModel" 419 ⟨"SchemeElevenModel", "isSign", "(I)Z"⟩ ∈ zTw := zTw_of (zt_in_9 (List.mem_of_getElem? (i := 126) rfl)) rfl
theorem w_966 : Cond.code ⟨"SchemeElevenModel", "isSign", "(I)Z"⟩ prog_14_method_83_code 1 (some FieldType.boolean) ∈ zTw := zTw_of (zt_in_9 (List.mem_of_getElem? (i := 128) rfl)) rfl
theorem w_967 : Cond.static ⟨"SchemeElevenModel", "isSign", "(I)Z"⟩ ∈ zTw := zTw_of (zt_in_9 (List.mem_of_getElem? (i := 127) rfl)) rfl
theorem w_968 : Cond.methodLink "SchemeElevenModel" 416 ⟨"SchemeElevenModel", "closes", "()V"⟩ ∈ zTw := zTw_of (zt_in_9 (List.mem_of_getElem? (i := 103) rfl)) rfl
theorem w_969 : Cond.code ⟨"SchemeElevenModel", "closes", "()V"⟩ prog_14_method_89_code 2 none ∈ zTw := zTw_of (zt_in_9 (List.mem_of_getElem? (i := 106) rfl)) rfl
theorem w_970 : Cond.instanceMethod ⟨"SchemeElevenModel", "closes", "()V"⟩ ∈ zTw := zTw_of (zt_in_9 (List.mem_of_getElem? (i := 105) rfl)) rfl
theorem w_971 : Cond.methodLink "SchemeElevenModel" 135 ⟨"SchemeElevenModel", "cell", "(I)I"⟩ ∈ zTw := zTw_of (zt_in_9 (List.mem_of_getElem? (i := 7) rfl)) rfl
theorem w_972 : Cond.code ⟨"SchemeElevenModel", "cell", "(I)I"⟩ prog_14_method_37_code 2 (some FieldType.int) ∈ zTw := zTw_of (zt_in_9 (List.mem_of_getElem? (i := 10) rfl)) rfl
theorem w_973 : Cond.instanceMethod ⟨"SchemeElevenModel", "cell", "(I)I"⟩ ∈ zTw := zTw_of (zt_in_9 (List.mem_of_getElem? (i := 9) rfl)) rfl
theorem w_974 : Cond.methodLink "SchemeElevenModel" 326 ⟨"SchemeElevenModel", "item", "(I)V"⟩ ∈ zTw := zTw_of (zt_in_9 (List.mem_of_getElem? (i := 11) rfl)) rfl
theorem w_975 : Cond.code ⟨"SchemeElevenModel", "item", "(I)V"⟩ prog_14_method_76_code 5 none ∈ zTw := zTw_of (zt_in_9 (List.mem_of_getElem? (i := 14) rfl)) rfl
theorem w_976 : Cond.instanceMethod ⟨"SchemeElevenModel", "item", "(I)V"⟩ ∈ zTw := zTw_of (zt_in_9 (List.mem_of_getElem? (i := 13) rfl)) rfl
theorem w_977 : Cond.fieldLink "SchemeElevenModel" 314 "SchemeElevenModel" "items" "I" ∈ zTw := zTw_of (zt_in_10 (List.mem_of_getElem? (i := 208) rfl)) rfl
theorem w_978 : Cond.fieldLink "SchemeElevenModel" 317 "SchemeElevenModel" "ended" "Z" ∈ zTw := zTw_of (zt_in_10 (List.mem_of_getElem? (i := 209) rfl)) rfl
theorem w_979 : Cond.methodLink "SchemeElevenModel" 320 ⟨"SchemeElevenModel", "write", "(II)V"⟩ ∈ zTw := zTw_of (zt_in_8 (List.mem_of_getElem? (i := 235) rfl)) rfl
theorem w_980 : Cond.code ⟨"SchemeElevenModel", "write", "(II)V"⟩ prog_14_method_75_code 4 none ∈ zTw := zTw_of (zt_in_8 (List.mem_of_getElem? (i := 238) rfl)) rfl
theorem w_981 : Cond.instanceMethod ⟨"SchemeElevenModel", "write", "(II)V"⟩ ∈ zTw := zTw_of (zt_in_8 (List.mem_of_getElem? (i := 237) rfl)) rfl
theorem w_oi : Cond.code objectInit ⟨#[0xb1]⟩ 1 none ∈ zTw := zTw_of (zt_in_1 (List.mem_of_getElem? (i := 29) rfl)) rfl
theorem v_2_1 : Cond.selects "SchemeEleven$Coder" ⟨"SchemeEleven$Coder", "push", "(IIIII)V"⟩ ⟨"SchemeEleven$Coder", "push", "(IIIII)V"⟩ ∈ zTw := zv_in_2 (List.mem_of_getElem? (i := 1) rfl)
theorem v_2_8 : Cond.selects "SchemeEleven$Coder" ⟨"SchemeEleven$Coder", "emit", "(I)V"⟩ ⟨"SchemeEleven$Coder", "emit", "(I)V"⟩ ∈ zTw := zv_in_2 (List.mem_of_getElem? (i := 8) rfl)
theorem v_2_12 : Cond.selects "SchemeEleven$Coder" ⟨"SchemeEleven$Coder", "inTail", "()Z"⟩ ⟨"SchemeEleven$Coder", "inTail", "()Z"⟩ ∈ zTw := zv_in_2 (List.mem_of_getElem? (i := 12) rfl)
theorem v_3_1 : Cond.selects "SchemeEleven$Coder" ⟨"SchemeEleven$Coder", "third", "()I"⟩ ⟨"SchemeEleven$Coder", "third", "()I"⟩ ∈ zTw := zv_in_3 (List.mem_of_getElem? (i := 1) rfl)
theorem v_2_3 : Cond.selects "SchemeEleven$Coder" ⟨"SchemeEleven$Coder", "second", "()I"⟩ ⟨"SchemeEleven$Coder", "second", "()I"⟩ ∈ zTw := zv_in_2 (List.mem_of_getElem? (i := 3) rfl)
theorem v_3_12 : Cond.selects "SchemeEleven$Coder" ⟨"SchemeEleven$Coder", "meaningOfFirst", "()I"⟩ ⟨"SchemeEleven$Coder", "meaningOfFirst", "()I"⟩ ∈ zTw := zv_in_3 (List.mem_of_getElem? (i := 12) rfl)
theorem v_2_11 : Cond.selects "SchemeEleven$Coder" ⟨"SchemeEleven$Coder", "codeConstant", "(I)V"⟩ ⟨"SchemeEleven$Coder", "codeConstant", "(I)V"⟩ ∈ zTw := zv_in_2 (List.mem_of_getElem? (i := 11) rfl)
theorem v_4_13 : Cond.selects "SchemeEleven$Coder" ⟨"SchemeEleven$Coder", "tellMacro", "(Z)V"⟩ ⟨"SchemeEleven$Coder", "tellMacro", "(Z)V"⟩ ∈ zTw := zv_in_4 (List.mem_of_getElem? (i := 13) rfl)
theorem v_3_11 : Cond.selects "SchemeEleven$Coder" ⟨"SchemeEleven$Coder", "codeForm", "()V"⟩ ⟨"SchemeEleven$Coder", "codeForm", "()V"⟩ ∈ zTw := zv_in_3 (List.mem_of_getElem? (i := 11) rfl)
theorem v_3_6 : Cond.selects "SchemeEleven$Coder" ⟨"SchemeEleven$Coder", "codeDefineSyntax", "()V"⟩ ⟨"SchemeEleven$Coder", "codeDefineSyntax", "()V"⟩ ∈ zTw := zv_in_3 (List.mem_of_getElem? (i := 6) rfl)
theorem v_1_11 : Cond.selects "SchemeEleven$Image" ⟨"SchemeEleven$Image", "same", "(I[III)Z"⟩ ⟨"SchemeEleven$Image", "same", "(I[III)Z"⟩ ∈ zTw := zv_in_1 (List.mem_of_getElem? (i := 11) rfl)
theorem v_6_1 : Cond.selects "SchemeEleven$Machine" ⟨"SchemeEleven$Machine", "low", "(I)I"⟩ ⟨"SchemeEleven$Machine", "low", "(I)I"⟩ ∈ zTw := zv_in_6 (List.mem_of_getElem? (i := 1) rfl)
theorem v_4_11 : Cond.selects "SchemeEleven$Pattern" ⟨"SchemeEleven$Pattern", "learnVariable", "(III)V"⟩ ⟨"SchemeEleven$Pattern", "learnVariable", "(III)V"⟩ ∈ zTw := zv_in_4 (List.mem_of_getElem? (i := 11) rfl)
theorem v_4_9 : Cond.selects "SchemeEleven$Pattern" ⟨"SchemeEleven$Pattern", "learn", "(IIII)Z"⟩ ⟨"SchemeEleven$Pattern", "learn", "(IIII)Z"⟩ ∈ zTw := zv_in_4 (List.mem_of_getElem? (i := 9) rfl)
theorem v_4_10 : Cond.selects "SchemeEleven$Pattern" ⟨"SchemeEleven$Pattern", "learnGroup", "(III)Z"⟩ ⟨"SchemeEleven$Pattern", "learnGroup", "(III)Z"⟩ ∈ zTw := zv_in_4 (List.mem_of_getElem? (i := 10) rfl)
theorem v_1_14 : Cond.selects "SchemeEleven$Reader" ⟨"SchemeEleven$Reader", "append", "(II)V"⟩ ⟨"SchemeEleven$Reader", "append", "(II)V"⟩ ∈ zTw := zv_in_1 (List.mem_of_getElem? (i := 14) rfl)
theorem v_1_12 : Cond.selects "SchemeEleven$Reader" ⟨"SchemeEleven$Reader", "deliver", "(I)V"⟩ ⟨"SchemeEleven$Reader", "deliver", "(I)V"⟩ ∈ zTw := zv_in_1 (List.mem_of_getElem? (i := 12) rfl)
theorem v_1_6 : Cond.selects "SchemeEleven$Reader" ⟨"SchemeEleven$Reader", "readRow", "([III)V"⟩ ⟨"SchemeEleven$Reader", "readRow", "([III)V"⟩ ∈ zTw := zv_in_1 (List.mem_of_getElem? (i := 6) rfl)
theorem v_1_3 : Cond.selects "SchemeEleven$Reader" ⟨"SchemeEleven$Reader", "readMark", "(II)V"⟩ ⟨"SchemeEleven$Reader", "readMark", "(II)V"⟩ ∈ zTw := zv_in_1 (List.mem_of_getElem? (i := 3) rfl)
theorem v_1_5 : Cond.selects "SchemeEleven$Reader" ⟨"SchemeEleven$Reader", "mayStand", "(I)Z"⟩ ⟨"SchemeEleven$Reader", "mayStand", "(I)Z"⟩ ∈ zTw := zv_in_1 (List.mem_of_getElem? (i := 5) rfl)
theorem v_1_4 : Cond.selects "SchemeEleven$Reader" ⟨"SchemeEleven$Reader", "closeList", "(I)V"⟩ ⟨"SchemeEleven$Reader", "closeList", "(I)V"⟩ ∈ zTw := zv_in_1 (List.mem_of_getElem? (i := 4) rfl)
theorem v_1_10 : Cond.selects "SchemeEleven$Reader" ⟨"SchemeEleven$Reader", "readName", "([III)V"⟩ ⟨"SchemeEleven$Reader", "readName", "([III)V"⟩ ∈ zTw := zv_in_1 (List.mem_of_getElem? (i := 10) rfl)
theorem v_1_8 : Cond.selects "SchemeEleven$Reader" ⟨"SchemeEleven$Reader", "readNumber", "([III)V"⟩ ⟨"SchemeEleven$Reader", "readNumber", "([III)V"⟩ ∈ zTw := zv_in_1 (List.mem_of_getElem? (i := 8) rfl)
theorem v_1_7 : Cond.selects "SchemeEleven$Reader" ⟨"SchemeEleven$Reader", "readBoolean", "(II)V"⟩ ⟨"SchemeEleven$Reader", "readBoolean", "(II)V"⟩ ∈ zTw := zv_in_1 (List.mem_of_getElem? (i := 7) rfl)
theorem v_3_0 : Cond.selects "SchemeEleven$Scopes" ⟨"SchemeEleven$Scopes", "ofSymbol", "(I)I"⟩ ⟨"SchemeEleven$Scopes", "ofSymbol", "(I)I"⟩ ∈ zTw := zv_in_3 (List.mem_of_getElem? (i := 0) rfl)
theorem v_9_13 : Cond.selects "SchemeEleven$Scribe" ⟨"SchemeEleven$Scribe", "mark", "(II)V"⟩ ⟨"SchemeEleven$Scribe", "mark", "(II)V"⟩ ∈ zTw := zv_in_9 (List.mem_of_getElem? (i := 13) rfl)
theorem v_9_8 : Cond.selects "SchemeEleven$Scribe" ⟨"SchemeEleven$Scribe", "part", "(II)V"⟩ ⟨"SchemeEleven$Scribe", "part", "(II)V"⟩ ∈ zTw := zv_in_9 (List.mem_of_getElem? (i := 8) rfl)
theorem v_9_7 : Cond.selects "SchemeEleven$Scribe" ⟨"SchemeEleven$Scribe", "begin", "()V"⟩ ⟨"SchemeEleven$Scribe", "begin", "()V"⟩ ∈ zTw := zv_in_9 (List.mem_of_getElem? (i := 7) rfl)
theorem v_4_12 : Cond.selects "SchemeEleven$Spreader" ⟨"SchemeEleven$Spreader", "isTemplate", "(III)Z"⟩ ⟨"SchemeEleven$Spreader", "isTemplate", "(III)Z"⟩ ∈ zTw := zv_in_4 (List.mem_of_getElem? (i := 12) rfl)
theorem v_4_8 : Cond.selects "SchemeEleven$Spreader" ⟨"SchemeEleven$Spreader", "isRule", "(II)Z"⟩ ⟨"SchemeEleven$Spreader", "isRule", "(II)Z"⟩ ∈ zTw := zv_in_4 (List.mem_of_getElem? (i := 8) rfl)
theorem v_4_7 : Cond.selects "SchemeEleven$Spreader" ⟨"SchemeEleven$Spreader", "areNames", "(I)Z"⟩ ⟨"SchemeEleven$Spreader", "areNames", "(I)Z"⟩ ∈ zTw := zv_in_4 (List.mem_of_getElem? (i := 7) rfl)
theorem v_5_14 : Cond.selects "SchemeEleven$Text" ⟨"SchemeEleven$Text", "addKept", "(I)I"⟩ ⟨"SchemeEleven$Text", "addKept", "(I)I"⟩ ∈ zTw := zv_in_5 (List.mem_of_getElem? (i := 14) rfl)
theorem v_5_13 : Cond.selects "SchemeEleven$Text" ⟨"SchemeEleven$Text", "copy", "(II)I"⟩ ⟨"SchemeEleven$Text", "copy", "(II)I"⟩ ∈ zTw := zv_in_5 (List.mem_of_getElem? (i := 13) rfl)
theorem v_3_7 : Cond.selects "SchemeEleven$Text" ⟨"SchemeEleven$Text", "findsAlias", "(II)Z"⟩ ⟨"SchemeEleven$Text", "findsAlias", "(II)Z"⟩ ∈ zTw := zv_in_3 (List.mem_of_getElem? (i := 7) rfl)
theorem v_4_14 : Cond.selects "SchemeEleven$Text" ⟨"SchemeEleven$Text", "weigh", "(III)V"⟩ ⟨"SchemeEleven$Text", "weigh", "(III)V"⟩ ∈ zTw := zv_in_4 (List.mem_of_getElem? (i := 14) rfl)
theorem v_5_15 : Cond.selects "SchemeEleven" ⟨"SchemeEleven", "tapeFour", "(I)V"⟩ ⟨"SchemeEleven", "tapeFour", "(I)V"⟩ ∈ zTw := zv_in_5 (List.mem_of_getElem? (i := 15) rfl)
theorem v_2_0 : Cond.selects "SchemeEleven" ⟨"SchemeEleven", "takeText", "([II)Z"⟩ ⟨"SchemeEleven", "takeText", "([II)Z"⟩ ∈ zTw := zv_in_2 (List.mem_of_getElem? (i := 0) rfl)
theorem v_1_15 : Cond.selects "SchemeEleven" ⟨"SchemeEleven", "writePrelude", "()V"⟩ ⟨"SchemeEleven", "writePrelude", "()V"⟩ ∈ zTw := zv_in_1 (List.mem_of_getElem? (i := 15) rfl)
theorem v_1_1 : Cond.selects "SchemeEleven" ⟨"SchemeEleven", "readNames", "()V"⟩ ⟨"SchemeEleven", "readNames", "()V"⟩ ∈ zTw := zv_in_1 (List.mem_of_getElem? (i := 1) rfl)
theorem v_1_0 : Cond.selects "SchemeEleven" ⟨"SchemeEleven", "clearScheme", "()V"⟩ ⟨"SchemeEleven", "clearScheme", "()V"⟩ ∈ zTw := zv_in_1 (List.mem_of_getElem? (i := 0) rfl)
theorem v_1_2 : Cond.selects "SchemeEleven" ⟨"SchemeEleven", "write", "(Ljava/lang/String;)V"⟩ ⟨"SchemeEleven", "write", "(Ljava/lang/String;)V"⟩ ∈ zTw := zv_in_1 (List.mem_of_getElem? (i := 2) rfl)
theorem v_16_5 : Cond.selects "SchemeElevenModel" ⟨"SchemeElevenModel", "isRight", "(II)Z"⟩ ⟨"SchemeElevenModel", "isRight", "(II)Z"⟩ ∈ zTw := zv_in_16 (List.mem_of_getElem? (i := 5) rfl)
theorem v_13_14 : Cond.selects "SchemeElevenModel" ⟨"SchemeElevenModel", "part", "(II)I"⟩ ⟨"SchemeElevenModel", "part", "(II)I"⟩ ∈ zTw := zv_in_13 (List.mem_of_getElem? (i := 14) rfl)
theorem v_14_6 : Cond.selects "SchemeElevenModel" ⟨"SchemeElevenModel", "gathers", "(II)Z"⟩ ⟨"SchemeElevenModel", "gathers", "(II)Z"⟩ ∈ zTw := zv_in_14 (List.mem_of_getElem? (i := 6) rfl)
theorem v_13_9 : Cond.selects "SchemeElevenModel" ⟨"SchemeElevenModel", "isName", "(I)Z"⟩ ⟨"SchemeElevenModel", "isName", "(I)Z"⟩ ∈ zTw := zv_in_13 (List.mem_of_getElem? (i := 9) rfl)
theorem v_13_8 : Cond.selects "SchemeElevenModel" ⟨"SchemeElevenModel", "length", "(I)I"⟩ ⟨"SchemeElevenModel", "length", "(I)I"⟩ ∈ zTw := zv_in_13 (List.mem_of_getElem? (i := 8) rfl)
theorem v_13_15 : Cond.selects "SchemeElevenModel" ⟨"SchemeElevenModel", "behind", "(II)I"⟩ ⟨"SchemeElevenModel", "behind", "(II)I"⟩ ∈ zTw := zv_in_13 (List.mem_of_getElem? (i := 15) rfl)
theorem v_14_3 : Cond.selects "SchemeElevenModel" ⟨"SchemeElevenModel", "isNamed", "(II)Z"⟩ ⟨"SchemeElevenModel", "isNamed", "(II)Z"⟩ ∈ zTw := zv_in_14 (List.mem_of_getElem? (i := 3) rfl)
theorem v_12_14 : Cond.selects "SchemeElevenModel" ⟨"SchemeElevenModel", "byteOf", "(I)I"⟩ ⟨"SchemeElevenModel", "byteOf", "(I)I"⟩ ∈ zTw := zv_in_12 (List.mem_of_getElem? (i := 14) rfl)
theorem v_13_3 : Cond.selects "SchemeElevenModel" ⟨"SchemeElevenModel", "comes", "(I)V"⟩ ⟨"SchemeElevenModel", "comes", "(I)V"⟩ ∈ zTw := zv_in_13 (List.mem_of_getElem? (i := 3) rfl)
theorem v_13_5 : Cond.selects "SchemeElevenModel" ⟨"SchemeElevenModel", "sized", "(I)V"⟩ ⟨"SchemeElevenModel", "sized", "(I)V"⟩ ∈ zTw := zv_in_13 (List.mem_of_getElem? (i := 5) rfl)
theorem v_13_2 : Cond.selects "SchemeElevenModel" ⟨"SchemeElevenModel", "atom", "(III)I"⟩ ⟨"SchemeElevenModel", "atom", "(III)I"⟩ ∈ zTw := zv_in_13 (List.mem_of_getElem? (i := 2) rfl)
theorem v_13_4 : Cond.selects "SchemeElevenModel" ⟨"SchemeElevenModel", "listed", "(II)I"⟩ ⟨"SchemeElevenModel", "listed", "(II)I"⟩ ∈ zTw := zv_in_13 (List.mem_of_getElem? (i := 4) rfl)
theorem v_15_3 : Cond.selects "SchemeElevenModel" ⟨"SchemeElevenModel", "word", "(II)V"⟩ ⟨"SchemeElevenModel", "word", "(II)V"⟩ ∈ zTw := zv_in_15 (List.mem_of_getElem? (i := 3) rfl)
theorem v_16_12 : Cond.selects "SchemeElevenModel" ⟨"SchemeElevenModel", "copied", "(I)I"⟩ ⟨"SchemeElevenModel", "copied", "(I)I"⟩ ∈ zTw := zv_in_16 (List.mem_of_getElem? (i := 12) rfl)
theorem v_15_6 : Cond.selects "SchemeElevenModel" ⟨"SchemeElevenModel", "constant", "(II)V"⟩ ⟨"SchemeElevenModel", "constant", "(II)V"⟩ ∈ zTw := zv_in_15 (List.mem_of_getElem? (i := 6) rfl)
theorem v_13_12 : Cond.selects "SchemeElevenModel" ⟨"SchemeElevenModel", "macroOf", "(I)I"⟩ ⟨"SchemeElevenModel", "macroOf", "(I)I"⟩ ∈ zTw := zv_in_13 (List.mem_of_getElem? (i := 12) rfl)
theorem v_16_4 : Cond.selects "SchemeElevenModel" ⟨"SchemeElevenModel", "areRules", "(I)Z"⟩ ⟨"SchemeElevenModel", "areRules", "(I)Z"⟩ ∈ zTw := zv_in_16 (List.mem_of_getElem? (i := 4) rfl)
theorem v_16_11 : Cond.selects "SchemeElevenModel" ⟨"SchemeElevenModel", "hasAlias", "(I)Z"⟩ ⟨"SchemeElevenModel", "hasAlias", "(I)Z"⟩ ∈ zTw := zv_in_16 (List.mem_of_getElem? (i := 11) rfl)
theorem v_16_14 : Cond.selects "SchemeElevenModel" ⟨"SchemeElevenModel", "feeds", "(I)V"⟩ ⟨"SchemeElevenModel", "feeds", "(I)V"⟩ ∈ zTw := zv_in_16 (List.mem_of_getElem? (i := 14) rfl)
theorem v_10_8 : Cond.selects "SchemeElevenModel" ⟨"SchemeElevenModel", "setR", "(II)V"⟩ ⟨"SchemeElevenModel", "setR", "(II)V"⟩ ∈ zTw := zv_in_10 (List.mem_of_getElem? (i := 8) rfl)
theorem v_10_6 : Cond.selects "SchemeElevenModel" ⟨"SchemeElevenModel", "\x72", "(I)I"⟩ ⟨"SchemeElevenModel", "\x72", "(I)I"⟩ ∈ zTw := zv_in_10 (List.mem_of_getElem? (i := 6) rfl)
theorem v_10_7 : Cond.selects "SchemeElevenModel" ⟨"SchemeElevenModel", "wordAt", "(I)I"⟩ ⟨"SchemeElevenModel", "wordAt", "(I)I"⟩ ∈ zTw := zv_in_10 (List.mem_of_getElem? (i := 7) rfl)
theorem v_16_13 : Cond.selects "SchemeElevenModel" ⟨"SchemeElevenModel", "lambdas", "()V"⟩ ⟨"SchemeElevenModel", "lambdas", "()V"⟩ ∈ zTw := zv_in_16 (List.mem_of_getElem? (i := 13) rfl)
theorem v_16_10 : Cond.selects "SchemeElevenModel" ⟨"SchemeElevenModel", "definesSyntax", "(I)V"⟩ ⟨"SchemeElevenModel", "definesSyntax", "(I)V"⟩ ∈ zTw := zv_in_16 (List.mem_of_getElem? (i := 10) rfl)
theorem v_13_10 : Cond.selects "SchemeElevenModel" ⟨"SchemeElevenModel", "means", "(II)V"⟩ ⟨"SchemeElevenModel", "means", "(II)V"⟩ ∈ zTw := zv_in_13 (List.mem_of_getElem? (i := 10) rfl)
theorem v_14_7 : Cond.selects "SchemeElevenModel" ⟨"SchemeElevenModel", "variableOf", "(I)I"⟩ ⟨"SchemeElevenModel", "variableOf", "(I)I"⟩ ∈ zTw := zv_in_14 (List.mem_of_getElem? (i := 7) rfl)
theorem v_14_5 : Cond.selects "SchemeElevenModel" ⟨"SchemeElevenModel", "isLiteral", "(I)Z"⟩ ⟨"SchemeElevenModel", "isLiteral", "(I)Z"⟩ ∈ zTw := zv_in_14 (List.mem_of_getElem? (i := 5) rfl)
theorem v_14_2 : Cond.selects "SchemeElevenModel" ⟨"SchemeElevenModel", "isDots", "(I)Z"⟩ ⟨"SchemeElevenModel", "isDots", "(I)Z"⟩ ∈ zTw := zv_in_14 (List.mem_of_getElem? (i := 2) rfl)
theorem v_14_1 : Cond.selects "SchemeElevenModel" ⟨"SchemeElevenModel", "isDotted", "(I)Z"⟩ ⟨"SchemeElevenModel", "isDotted", "(I)Z"⟩ ∈ zTw := zv_in_14 (List.mem_of_getElem? (i := 1) rfl)
theorem v_10_4 : Cond.selects "SchemeElevenModel" ⟨"SchemeElevenModel", "step", "()I"⟩ ⟨"SchemeElevenModel", "step", "()I"⟩ ∈ zTw := zv_in_10 (List.mem_of_getElem? (i := 4) rfl)
theorem v_16_6 : Cond.selects "SchemeElevenModel" ⟨"SchemeElevenModel", "hasDeeper", "(II)Z"⟩ ⟨"SchemeElevenModel", "hasDeeper", "(II)Z"⟩ ∈ zTw := zv_in_16 (List.mem_of_getElem? (i := 6) rfl)
theorem v_11_13 : Cond.selects "SchemeElevenModel" ⟨"SchemeElevenModel", "told", "(II)I"⟩ ⟨"SchemeElevenModel", "told", "(II)I"⟩ ∈ zTw := zv_in_11 (List.mem_of_getElem? (i := 13) rfl)
theorem v_14_4 : Cond.selects "SchemeElevenModel" ⟨"SchemeElevenModel", "atLast", "(I)I"⟩ ⟨"SchemeElevenModel", "atLast", "(I)I"⟩ ∈ zTw := zv_in_14 (List.mem_of_getElem? (i := 4) rfl)
theorem v_12_1 : Cond.selects "SchemeElevenModel" ⟨"SchemeElevenModel", "is", "(II)Z"⟩ ⟨"SchemeElevenModel", "is", "(II)Z"⟩ ∈ zTw := zv_in_12 (List.mem_of_getElem? (i := 1) rfl)
theorem v_12_4 : Cond.selects "SchemeElevenModel" ⟨"SchemeElevenModel", "isProcedure", "(I)Z"⟩ ⟨"SchemeElevenModel", "isProcedure", "(I)Z"⟩ ∈ zTw := zv_in_12 (List.mem_of_getElem? (i := 4) rfl)
theorem v_12_10 : Cond.selects "SchemeElevenModel" ⟨"SchemeElevenModel", "takesText", "()V"⟩ ⟨"SchemeElevenModel", "takesText", "()V"⟩ ∈ zTw := zv_in_12 (List.mem_of_getElem? (i := 10) rfl)
theorem v_12_13 : Cond.selects "SchemeElevenModel" ⟨"SchemeElevenModel", "blanks", "()V"⟩ ⟨"SchemeElevenModel", "blanks", "()V"⟩ ∈ zTw := zv_in_12 (List.mem_of_getElem? (i := 13) rfl)
theorem v_12_15 : Cond.selects "SchemeElevenModel" ⟨"SchemeElevenModel", "token", "()V"⟩ ⟨"SchemeElevenModel", "token", "()V"⟩ ∈ zTw := zv_in_12 (List.mem_of_getElem? (i := 15) rfl)
theorem v_12_9 : Cond.selects "SchemeElevenModel" ⟨"SchemeElevenModel", "setCell", "(II)V"⟩ ⟨"SchemeElevenModel", "setCell", "(II)V"⟩ ∈ zTw := zv_in_12 (List.mem_of_getElem? (i := 9) rfl)
theorem v_12_7 : Cond.selects "SchemeElevenModel" ⟨"SchemeElevenModel", "symbol", "(I)I"⟩ ⟨"SchemeElevenModel", "symbol", "(I)I"⟩ ∈ zTw := zv_in_12 (List.mem_of_getElem? (i := 7) rfl)
theorem v_13_0 : Cond.selects "SchemeElevenModel" ⟨"SchemeElevenModel", "mayBegin", "()Z"⟩ ⟨"SchemeElevenModel", "mayBegin", "()Z"⟩ ∈ zTw := zv_in_13 (List.mem_of_getElem? (i := 0) rfl)
theorem v_11_14 : Cond.selects "SchemeElevenModel" ⟨"SchemeElevenModel", "written", "(I)V"⟩ ⟨"SchemeElevenModel", "written", "(I)V"⟩ ∈ zTw := zv_in_11 (List.mem_of_getElem? (i := 14) rfl)
theorem v_11_4 : Cond.selects "SchemeElevenModel" ⟨"SchemeElevenModel", "single", "(IZ)V"⟩ ⟨"SchemeElevenModel", "single", "(IZ)V"⟩ ∈ zTw := zv_in_11 (List.mem_of_getElem? (i := 4) rfl)
theorem v_10_5 : Cond.selects "SchemeElevenModel" ⟨"SchemeElevenModel", "fetched", "()I"⟩ ⟨"SchemeElevenModel", "fetched", "()I"⟩ ∈ zTw := zv_in_10 (List.mem_of_getElem? (i := 5) rfl)
theorem v_13_7 : Cond.selects "SchemeElevenModel" ⟨"SchemeElevenModel", "form", "(I)V"⟩ ⟨"SchemeElevenModel", "form", "(I)V"⟩ ∈ zTw := zv_in_13 (List.mem_of_getElem? (i := 7) rfl)
theorem v_12_12 : Cond.selects "SchemeElevenModel" ⟨"SchemeElevenModel", "readText", "()V"⟩ ⟨"SchemeElevenModel", "readText", "()V"⟩ ∈ zTw := zv_in_12 (List.mem_of_getElem? (i := 12) rfl)
theorem v_12_11 : Cond.selects "SchemeElevenModel" ⟨"SchemeElevenModel", "saves", "(Z)V"⟩ ⟨"SchemeElevenModel", "saves", "(Z)V"⟩ ∈ zTw := zv_in_12 (List.mem_of_getElem? (i := 11) rfl)
theorem v_13_6 : Cond.selects "SchemeElevenModel" ⟨"SchemeElevenModel", "rowOfSigns", "()V"⟩ ⟨"SchemeElevenModel", "rowOfSigns", "()V"⟩ ∈ zTw := zv_in_13 (List.mem_of_getElem? (i := 6) rfl)
theorem v_13_1 : Cond.selects "SchemeElevenModel" ⟨"SchemeElevenModel", "closes", "()V"⟩ ⟨"SchemeElevenModel", "closes", "()V"⟩ ∈ zTw := zv_in_13 (List.mem_of_getElem? (i := 1) rfl)
theorem v_12_2 : Cond.selects "SchemeElevenModel" ⟨"SchemeElevenModel", "cell", "(I)I"⟩ ⟨"SchemeElevenModel", "cell", "(I)I"⟩ ∈ zTw := zv_in_12 (List.mem_of_getElem? (i := 2) rfl)
theorem v_12_3 : Cond.selects "SchemeElevenModel" ⟨"SchemeElevenModel", "item", "(I)V"⟩ ⟨"SchemeElevenModel", "item", "(I)V"⟩ ∈ zTw := zv_in_12 (List.mem_of_getElem? (i := 3) rfl)
theorem v_11_15 : Cond.selects "SchemeElevenModel" ⟨"SchemeElevenModel", "write", "(II)V"⟩ ⟨"SchemeElevenModel", "write", "(II)V"⟩ ∈ zTw := zv_in_11 (List.mem_of_getElem? (i := 15) rfl)
