-- classes: name, fields (declarer, name, descriptor, final), types; laid by program
def zR_0 : String := "ManagedBus"
def zTT_0 : u_T := fun k => match k with
  | 0 => ("ManagedBus", "buses", "[LManagedBus$Bus;", true)
  | 1 => ("ManagedBus", "nodes", "[LManagedBus$Node;", true)
  | 2 => ("ManagedBus", "sensingNodes", "[LManagedBus$SensingNode;", true)
  | 3 => ("ManagedBus", "manager", "LManagedBus$Manager;", true)
  | 4 => ("ManagedBus", "bridge", "LManagedBus$Bridge;", true)
  | _ => ("ManagedBus", "clock", "I", false)
def zTY_0 : Nat → FieldType := fun k => match k with
  | 0 => .array (.object "ManagedBus$Bus")
  | 1 => .array (.object "ManagedBus$Node")
  | 2 => .array (.object "ManagedBus$SensingNode")
  | 3 => .object "ManagedBus$Manager"
  | 4 => .object "ManagedBus$Bridge"
  | _ => .int
theorem zNM_0 : ∀ a, a < 6 → ∀ b, b < 6 → a ≠ b → (zTT_0 a).2.1 ≠ (zTT_0 b).2.1 := by decide +kernel
theorem zTO_0 : ∀ k, k < 6 → parseFieldDescriptor (zTT_0 k).2.2.1 = some (zTY_0 k) := by decide +kernel
def zR_1 : String := "ManagedBus$Manager"
def zTT_1 : u_T := fun k => match k with
  | 0 => ("ManagedBus$Manager", "sheetBytes", "[I", true)
  | 1 => ("ManagedBus$Manager", "eventSources", "[I", true)
  | 2 => ("ManagedBus$Manager", "eventStates", "[I", true)
  | 3 => ("ManagedBus$Manager", "eventValues", "[I", true)
  | 4 => ("ManagedBus$Manager", "events", "I", false)
  | 5 => ("ManagedBus$Manager", "nextEvent", "I", false)
  | 6 => ("ManagedBus$Manager", "requests", "[LManagedBus$Request;", true)
  | 7 => ("ManagedBus$Manager", "requestCount", "I", false)
  | 8 => ("ManagedBus$Node", "port", "LManagedBus$Port;", true)
  | 9 => ("ManagedBus$Node", "bus", "I", false)
  | _ => ("ManagedBus$Node", "parts", "[LManagedBus$Part;", true)
def zTY_1 : Nat → FieldType := fun k => match k with
  | 0 => .array .int
  | 1 => .array .int
  | 2 => .array .int
  | 3 => .array .int
  | 4 => .int
  | 5 => .int
  | 6 => .array (.object "ManagedBus$Request")
  | 7 => .int
  | 8 => .object "ManagedBus$Port"
  | 9 => .int
  | _ => .array (.object "ManagedBus$Part")
theorem zNM_1 : ∀ a, a < 11 → ∀ b, b < 11 → a ≠ b → (zTT_1 a).2.1 ≠ (zTT_1 b).2.1 := by decide +kernel
theorem zTO_1 : ∀ k, k < 11 → parseFieldDescriptor (zTT_1 k).2.2.1 = some (zTY_1 k) := by decide +kernel
def zR_2 : String := "ManagedBus$Port"
def zTT_2 : u_T := fun k => match k with
  | 0 => ("ManagedBus$Port", "owner", "Z", true)
  | 1 => ("ManagedBus$Port", "identity", "I", false)
  | 2 => ("ManagedBus$Port", "address", "I", false)
  | 3 => ("ManagedBus$Port", "resolved", "Z", false)
  | 4 => ("ManagedBus$Port", "endpoint", "I", false)
  | 5 => ("ManagedBus$Port", "tries", "I", false)
  | 6 => ("ManagedBus$Port", "waiting", "I", false)
  | 7 => ("ManagedBus$Port", "slots", "[LManagedBus$Packet;", true)
  | _ => ("ManagedBus$Port", "head", "I", false)
def zTY_2 : Nat → FieldType := fun k => match k with
  | 0 => .boolean
  | 1 => .int
  | 2 => .int
  | 3 => .boolean
  | 4 => .int
  | 5 => .int
  | 6 => .int
  | 7 => .array (.object "ManagedBus$Packet")
  | _ => .int
theorem zNM_2 : ∀ a, a < 9 → ∀ b, b < 9 → a ≠ b → (zTT_2 a).2.1 ≠ (zTT_2 b).2.1 := by decide +kernel
theorem zTO_2 : ∀ k, k < 9 → parseFieldDescriptor (zTT_2 k).2.2.1 = some (zTY_2 k) := by decide +kernel
def zR_3 : String := "ManagedBus$Packet"
def zTT_3 : u_T := fun k => match k with
  | 0 => ("ManagedBus$Packet", "target", "I", false)
  | 1 => ("ManagedBus$Packet", "source", "I", false)
  | 2 => ("ManagedBus$Packet", "flags", "I", false)
  | 3 => ("ManagedBus$Packet", "length", "I", false)
  | _ => ("ManagedBus$Packet", "bytes", "[I", true)
def zTY_3 : Nat → FieldType := fun k => match k with
  | 0 => .int
  | 1 => .int
  | 2 => .int
  | 3 => .int
  | _ => .array .int
theorem zNM_3 : ∀ a, a < 5 → ∀ b, b < 5 → a ≠ b → (zTT_3 a).2.1 ≠ (zTT_3 b).2.1 := by decide +kernel
theorem zTO_3 : ∀ k, k < 5 → parseFieldDescriptor (zTT_3 k).2.2.1 = some (zTY_3 k) := by decide +kernel
def zR_4 : String := "ManagedBus$Bridge"
def zTT_4 : u_T := fun k => match k with
  | 0 => ("ManagedBus$Bridge", "farPort", "LManagedBus$Port;", true)
  | 1 => ("ManagedBus$SensingNode", "value", "I", false)
  | 2 => ("ManagedBus$SensingNode", "state", "I", false)
  | 3 => ("ManagedBus$SensingNode", "low", "I", false)
  | 4 => ("ManagedBus$SensingNode", "high", "I", false)
  | 5 => ("ManagedBus$SensingNode", "slack", "I", false)
  | 6 => ("ManagedBus$SensingNode", "blockBytes", "[I", true)
  | 7 => ("ManagedBus$SensingNode", "receiver", "I", false)
  | 8 => ("ManagedBus$SensingNode", "eventCount", "I", false)
  | 9 => ("ManagedBus$SensingNode", "letter", "[I", true)
  | 10 => ("ManagedBus$Node", "port", "LManagedBus$Port;", true)
  | 11 => ("ManagedBus$Node", "bus", "I", false)
  | _ => ("ManagedBus$Node", "parts", "[LManagedBus$Part;", true)
def zTY_4 : Nat → FieldType := fun k => match k with
  | 0 => .object "ManagedBus$Port"
  | 1 => .int
  | 2 => .int
  | 3 => .int
  | 4 => .int
  | 5 => .int
  | 6 => .array .int
  | 7 => .int
  | 8 => .int
  | 9 => .array .int
  | 10 => .object "ManagedBus$Port"
  | 11 => .int
  | _ => .array (.object "ManagedBus$Part")
theorem zNM_4 : ∀ a, a < 13 → ∀ b, b < 13 → a ≠ b → (zTT_4 a).2.1 ≠ (zTT_4 b).2.1 := by decide +kernel
theorem zTO_4 : ∀ k, k < 13 → parseFieldDescriptor (zTT_4 k).2.2.1 = some (zTY_4 k) := by decide +kernel
def zR_5 : String := "ManagedBus$Bus"
def zTT_5 : u_T := fun k => match k with
  | 0 => ("ManagedBus$Bus", "number", "I", true)
  | 1 => ("ManagedBus$Bus", "ports", "[LManagedBus$Port;", true)
  | 2 => ("ManagedBus$Bus", "enumeration", "LManagedBus$Enumeration;", true)
  | 3 => ("ManagedBus$Bus", "wire", "LManagedBus$Row;", true)
  | 4 => ("ManagedBus$Bus", "noisePlace", "I", false)
  | 5 => ("ManagedBus$Bus", "noiseMask", "I", false)
  | _ => ("ManagedBus$Bus", "candidate", "LManagedBus$Row;", true)
def zTY_5 : Nat → FieldType := fun k => match k with
  | 0 => .int
  | 1 => .array (.object "ManagedBus$Port")
  | 2 => .object "ManagedBus$Enumeration"
  | 3 => .object "ManagedBus$Row"
  | 4 => .int
  | 5 => .int
  | _ => .object "ManagedBus$Row"
theorem zNM_5 : ∀ a, a < 7 → ∀ b, b < 7 → a ≠ b → (zTT_5 a).2.1 ≠ (zTT_5 b).2.1 := by decide +kernel
theorem zTO_5 : ∀ k, k < 7 → parseFieldDescriptor (zTT_5 k).2.2.1 = some (zTY_5 k) := by decide +kernel
def zR_6 : String := "ManagedBus$Enumeration"
def zTT_6 : u_T := fun k => match k with
  | 0 => ("ManagedBus$Enumeration", "state", "I", false)
  | 1 => ("ManagedBus$Enumeration", "assigned", "I", false)
  | 2 => ("ManagedBus$Enumeration", "tries", "I", false)
  | 3 => ("ManagedBus$Enumeration", "bridgeAddress", "I", false)
  | 4 => ("ManagedBus$Enumeration", "stage", "I", false)
  | 5 => ("ManagedBus$Enumeration", "heard", "I", false)
  | 6 => ("ManagedBus$Enumeration", "setIndex", "I", false)
  | _ => ("ManagedBus$Enumeration", "givenToBridge", "I", false)
def zTY_6 : Nat → FieldType := fun k => match k with
  | 0 => .int
  | 1 => .int
  | 2 => .int
  | 3 => .int
  | 4 => .int
  | 5 => .int
  | 6 => .int
  | _ => .int
theorem zNM_6 : ∀ a, a < 8 → ∀ b, b < 8 → a ≠ b → (zTT_6 a).2.1 ≠ (zTT_6 b).2.1 := by decide +kernel
theorem zTO_6 : ∀ k, k < 8 → parseFieldDescriptor (zTT_6 k).2.2.1 = some (zTY_6 k) := by decide +kernel
def zR_7 : String := "ManagedBus$Row"
def zTT_7 : u_T := fun k => match k with
  | 0 => ("ManagedBus$Row", "bytes", "[I", true)
  | _ => ("ManagedBus$Row", "length", "I", false)
def zTY_7 : Nat → FieldType := fun k => match k with
  | 0 => .array .int
  | _ => .int
theorem zNM_7 : ∀ a, a < 2 → ∀ b, b < 2 → a ≠ b → (zTT_7 a).2.1 ≠ (zTT_7 b).2.1 := by decide +kernel
theorem zTO_7 : ∀ k, k < 2 → parseFieldDescriptor (zTT_7 k).2.2.1 = some (zTY_7 k) := by decide +kernel
def zR_8 : String := "ManagedBus$SensingNode"
def zTT_8 : u_T := fun k => match k with
  | 0 => ("ManagedBus$SensingNode", "value", "I", false)
  | 1 => ("ManagedBus$SensingNode", "state", "I", false)
  | 2 => ("ManagedBus$SensingNode", "low", "I", false)
  | 3 => ("ManagedBus$SensingNode", "high", "I", false)
  | 4 => ("ManagedBus$SensingNode", "slack", "I", false)
  | 5 => ("ManagedBus$SensingNode", "blockBytes", "[I", true)
  | 6 => ("ManagedBus$SensingNode", "receiver", "I", false)
  | 7 => ("ManagedBus$SensingNode", "eventCount", "I", false)
  | 8 => ("ManagedBus$SensingNode", "letter", "[I", true)
  | 9 => ("ManagedBus$Node", "port", "LManagedBus$Port;", true)
  | 10 => ("ManagedBus$Node", "bus", "I", false)
  | _ => ("ManagedBus$Node", "parts", "[LManagedBus$Part;", true)
def zTY_8 : Nat → FieldType := fun k => match k with
  | 0 => .int
  | 1 => .int
  | 2 => .int
  | 3 => .int
  | 4 => .int
  | 5 => .array .int
  | 6 => .int
  | 7 => .int
  | 8 => .array .int
  | 9 => .object "ManagedBus$Port"
  | 10 => .int
  | _ => .array (.object "ManagedBus$Part")
theorem zNM_8 : ∀ a, a < 12 → ∀ b, b < 12 → a ≠ b → (zTT_8 a).2.1 ≠ (zTT_8 b).2.1 := by decide +kernel
theorem zTO_8 : ∀ k, k < 12 → parseFieldDescriptor (zTT_8 k).2.2.1 = some (zTY_8 k) := by decide +kernel
def zR_9 : String := "ManagedBus$Part"
def zTT_9 : u_T := fun k => match k with
  | 0 => ("ManagedBus$Part", "source", "I", true)
  | 1 => ("ManagedBus$Part", "kind", "I", false)
  | 2 => ("ManagedBus$Part", "length", "I", false)
  | 3 => ("ManagedBus$Part", "bytes", "[I", true)
  | 4 => ("ManagedBus$Part", "open", "Z", false)
  | _ => ("ManagedBus$Part", "due", "I", false)
def zTY_9 : Nat → FieldType := fun k => match k with
  | 0 => .int
  | 1 => .int
  | 2 => .int
  | 3 => .array .int
  | 4 => .boolean
  | _ => .int
theorem zNM_9 : ∀ a, a < 6 → ∀ b, b < 6 → a ≠ b → (zTT_9 a).2.1 ≠ (zTT_9 b).2.1 := by decide +kernel
theorem zTO_9 : ∀ k, k < 6 → parseFieldDescriptor (zTT_9 k).2.2.1 = some (zTY_9 k) := by decide +kernel
def zR_10 : String := "ManagedBus$Request"
def zTT_10 : u_T := fun k => match k with
  | 0 => ("ManagedBus$Request", "endpoint", "I", true)
  | 1 => ("ManagedBus$Request", "tag", "I", true)
  | 2 => ("ManagedBus$Request", "bytes", "[I", true)
  | 3 => ("ManagedBus$Request", "answerBytes", "[I", true)
  | 4 => ("ManagedBus$Request", "answerLength", "I", false)
  | 5 => ("ManagedBus$Request", "state", "I", false)
  | 6 => ("ManagedBus$Request", "timer", "I", false)
  | _ => ("ManagedBus$Request", "sendings", "I", false)
def zTY_10 : Nat → FieldType := fun k => match k with
  | 0 => .int
  | 1 => .int
  | 2 => .array .int
  | 3 => .array .int
  | 4 => .int
  | 5 => .int
  | 6 => .int
  | _ => .int
theorem zNM_10 : ∀ a, a < 8 → ∀ b, b < 8 → a ≠ b → (zTT_10 a).2.1 ≠ (zTT_10 b).2.1 := by decide +kernel
theorem zTO_10 : ∀ k, k < 8 → parseFieldDescriptor (zTT_10 k).2.2.1 = some (zTY_10 k) := by decide +kernel
def zR_11 : String := "ManagedBusModel"
def zTT_11 : u_T := fun k => match k with
  | 0 => ("ManagedBusModel", "clock", "I", false)
  | 1 => ("ManagedBusModel", "bus", "[I", true)
  | 2 => ("ManagedBusModel", "identity", "[I", true)
  | 3 => ("ManagedBusModel", "address", "[I", true)
  | 4 => ("ManagedBusModel", "resolved", "[Z", true)
  | 5 => ("ManagedBusModel", "tries", "[I", true)
  | 6 => ("ManagedBusModel", "waiting", "[I", true)
  | 7 => ("ManagedBusModel", "output", "[I", true)
  | 8 => ("ManagedBusModel", "endpoint", "[I", true)
  | 9 => ("ManagedBusModel", "partSize", "[I", true)
  | 10 => ("ManagedBusModel", "partKind", "[I", true)
  | 11 => ("ManagedBusModel", "partDue", "[I", true)
  | 12 => ("ManagedBusModel", "part", "[I", true)
  | 13 => ("ManagedBusModel", "value", "[I", true)
  | 14 => ("ManagedBusModel", "low", "[I", true)
  | 15 => ("ManagedBusModel", "high", "[I", true)
  | 16 => ("ManagedBusModel", "slack", "[I", true)
  | 17 => ("ManagedBusModel", "state", "[I", true)
  | 18 => ("ManagedBusModel", "receiver", "[I", true)
  | 19 => ("ManagedBusModel", "events", "[I", true)
  | 20 => ("ManagedBusModel", "blocks", "[I", true)
  | 21 => ("ManagedBusModel", "how", "[I", true)
  | 22 => ("ManagedBusModel", "stage", "[I", true)
  | 23 => ("ManagedBusModel", "set", "[I", true)
  | 24 => ("ManagedBusModel", "failures", "[I", true)
  | 25 => ("ManagedBusModel", "assigned", "[I", true)
  | 26 => ("ManagedBusModel", "given", "[I", true)
  | 27 => ("ManagedBusModel", "heard", "[I", true)
  | 28 => ("ManagedBusModel", "toBridge", "I", false)
  | 29 => ("ManagedBusModel", "noiseAt", "[I", true)
  | 30 => ("ManagedBusModel", "noiseMask", "[I", true)
  | 31 => ("ManagedBusModel", "row", "[I", true)
  | 32 => ("ManagedBusModel", "size", "I", false)
  | 33 => ("ManagedBusModel", "best", "[I", true)
  | 34 => ("ManagedBusModel", "bestSize", "I", false)
  | 35 => ("ManagedBusModel", "wires", "[I", true)
  | 36 => ("ManagedBusModel", "wireSize", "[I", true)
  | 37 => ("ManagedBusModel", "packet", "[I", true)
  | 38 => ("ManagedBusModel", "message", "[I", true)
  | 39 => ("ManagedBusModel", "length", "I", false)
  | 40 => ("ManagedBusModel", "page", "[I", true)
  | 41 => ("ManagedBusModel", "requests", "I", false)
  | 42 => ("ManagedBusModel", "asked", "[I", true)
  | 43 => ("ManagedBusModel", "askedSize", "[I", true)
  | 44 => ("ManagedBusModel", "askedBytes", "[I", true)
  | 45 => ("ManagedBusModel", "requestState", "[I", true)
  | 46 => ("ManagedBusModel", "timer", "[I", true)
  | 47 => ("ManagedBusModel", "sendings", "[I", true)
  | 48 => ("ManagedBusModel", "answerSize", "[I", true)
  | 49 => ("ManagedBusModel", "answers", "[I", true)
  | 50 => ("ManagedBusModel", "logged", "I", false)
  | _ => ("ManagedBusModel", "log", "[I", true)
def zTY_11 : Nat → FieldType := fun k => match k with
  | 0 => .int
  | 1 => .array .int
  | 2 => .array .int
  | 3 => .array .int
  | 4 => .array .boolean
  | 5 => .array .int
  | 6 => .array .int
  | 7 => .array .int
  | 8 => .array .int
  | 9 => .array .int
  | 10 => .array .int
  | 11 => .array .int
  | 12 => .array .int
  | 13 => .array .int
  | 14 => .array .int
  | 15 => .array .int
  | 16 => .array .int
  | 17 => .array .int
  | 18 => .array .int
  | 19 => .array .int
  | 20 => .array .int
  | 21 => .array .int
  | 22 => .array .int
  | 23 => .array .int
  | 24 => .array .int
  | 25 => .array .int
  | 26 => .array .int
  | 27 => .array .int
  | 28 => .int
  | 29 => .array .int
  | 30 => .array .int
  | 31 => .array .int
  | 32 => .int
  | 33 => .array .int
  | 34 => .int
  | 35 => .array .int
  | 36 => .array .int
  | 37 => .array .int
  | 38 => .array .int
  | 39 => .int
  | 40 => .array .int
  | 41 => .int
  | 42 => .array .int
  | 43 => .array .int
  | 44 => .array .int
  | 45 => .array .int
  | 46 => .array .int
  | 47 => .array .int
  | 48 => .array .int
  | 49 => .array .int
  | 50 => .int
  | _ => .array .int
theorem zNM_11 : ∀ a, a < 52 → ∀ b, b < 52 → a ≠ b → (zTT_11 a).2.1 ≠ (zTT_11 b).2.1 := by decide +kernel
theorem zTO_11 : ∀ k, k < 52 → parseFieldDescriptor (zTT_11 k).2.2.1 = some (zTY_11 k) := by decide +kernel
abbrev zCl : List vw_C := [(zR_0, zTT_0, 6), (zR_1, zTT_1, 11), (zR_2, zTT_2, 9), (zR_3, zTT_3, 5), (zR_4, zTT_4, 13), (zR_5, zTT_5, 7), (zR_6, zTT_6, 8), (zR_7, zTT_7, 2), (zR_8, zTT_8, 12), (zR_9, zTT_9, 6), (zR_10, zTT_10, 8), (zR_11, zTT_11, 52)]
abbrev zNC : Nat := 12
-- fields of a class by slot: (field id, 0 int, 1 boolean, 2 reference)
def zFs : List (List (Nat × Nat)) := [[(0, 2), (1, 2), (2, 2), (3, 2), (4, 2), (5, 0)],
  [(6, 2), (7, 2), (8, 2), (9, 2), (10, 0), (11, 0), (12, 2), (13, 0), (14, 2), (15, 0), (16, 2)],
  [(17, 1), (18, 0), (19, 0), (20, 1), (21, 0), (22, 0), (23, 0), (24, 2), (25, 0)],
  [(26, 0), (27, 0), (28, 0), (29, 0), (30, 2)],
  [(31, 2), (32, 0), (33, 0), (34, 0), (35, 0), (36, 0), (37, 2), (38, 0), (39, 0), (40, 2), (14, 2), (15, 0), (16, 2)],
  [(41, 0), (42, 2), (43, 2), (44, 2), (45, 0), (46, 0), (47, 2)],
  [(48, 0), (49, 0), (50, 0), (51, 0), (52, 0), (53, 0), (54, 0), (55, 0)],
  [(56, 2), (57, 0)],
  [(32, 0), (33, 0), (34, 0), (35, 0), (36, 0), (37, 2), (38, 0), (39, 0), (40, 2), (14, 2), (15, 0), (16, 2)],
  [(58, 0), (59, 0), (60, 0), (61, 2), (62, 1), (63, 0)],
  [(64, 0), (65, 0), (66, 2), (67, 2), (68, 0), (69, 0), (70, 0), (71, 0)],
  [(72, 0), (73, 2), (74, 2), (75, 2), (76, 2), (77, 2), (78, 2), (79, 2), (80, 2), (81, 2), (82, 2), (83, 2), (84, 2), (85, 2), (86, 2), (87, 2), (88, 2), (89, 2), (90, 2), (91, 2), (92, 2), (93, 2), (94, 2), (95, 2), (96, 2), (97, 2), (98, 2), (99, 2), (100, 0), (101, 2), (102, 2), (103, 2), (104, 0), (105, 2), (106, 0), (107, 2), (108, 2), (109, 2), (110, 2), (111, 0), (112, 2), (113, 0), (114, 2), (115, 2), (116, 2), (117, 2), (118, 2), (119, 2), (120, 2), (121, 2), (122, 0), (123, 2)]]
def zF (c : Nat) : List (Nat × Nat) := zFs.getD c []
-- arrays of references: kinds from 15 on, by their element class
def zEls : List String := ["ManagedBus$Bus", "ManagedBus$Node", "ManagedBus$SensingNode", "ManagedBus$Part", "ManagedBus$Packet", "ManagedBus$Request", "ManagedBus$Port"]
def zASs : List (Nat × Nat) := [(15, 5), (16, 1), (16, 4), (16, 8), (17, 4), (17, 8), (18, 9), (19, 3), (20, 10), (21, 2)]
def zAS (k c : Nat) : Bool := zASs.contains (k, c)
