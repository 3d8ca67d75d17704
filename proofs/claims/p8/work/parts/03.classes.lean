abbrev R_K : String := "BlobStore$Chunk"
def F_K : u_T := fun k => match k with
  | 0 => ("BlobStore$Chunk", "length", "I", false)
  | 1 => ("BlobStore$Chunk", "bytes", "J", false)
  | _ => ("BlobStore$Chunk", "address", "[I", true)
def T_K : Nat → FieldType := fun k => match k with
  | 0 => .int
  | 1 => .long
  | _ => .array .int
abbrev R_P : String := "BlobStore$Power"
def F_P : u_T := fun k => match k with
  | 0 => ("BlobStore$Power", "writes", "I", false)
  | 1 => ("BlobStore$Power", "writesToCut", "I", false)
  | _ => ("BlobStore$Power", "gone", "Z", false)
def T_P : Nat → FieldType := fun k => match k with
  | 0 => .int
  | 1 => .int
  | _ => .boolean
abbrev R_R : String := "BlobStore$Row"
def F_R : u_T := fun k => match k with
  | 0 => ("BlobStore$Row", "slots", "[I", true)
  | _ => ("BlobStore$Row", "length", "I", false)
def T_R : Nat → FieldType := fun k => match k with
  | 0 => .array .int
  | _ => .int
abbrev R_S : String := "BlobStore$Session"
def F_S : u_T := fun k => match k with
  | 0 => ("BlobStore$Session", "open", "Z", false)
  | 1 => ("BlobStore$Session", "bucket", "I", false)
  | 2 => ("BlobStore$Session", "key", "I", false)
  | _ => ("BlobStore$Session", "parts", "[LBlobStore$Row;", true)
def T_S : Nat → FieldType := fun k => match k with
  | 0 => .boolean
  | 1 => .int
  | 2 => .int
  | _ => .array (.object "BlobStore$Row")
abbrev R_H : String := "BlobStore$Sha256"
def F_H : u_T := fun k => match k with
  | _ => ("BlobStore$Sha256", "schedule", "[I", true)
def T_H : Nat → FieldType := fun k => match k with
  | _ => .array .int
abbrev R_V : String := "BlobStore$Version"
def F_V : u_T := fun k => match k with
  | 0 => ("BlobStore$Version", "lives", "Z", false)
  | 1 => ("BlobStore$Version", "bucket", "I", false)
  | 2 => ("BlobStore$Version", "key", "I", false)
  | _ => ("BlobStore$Version", "row", "LBlobStore$Row;", true)
def T_V : Nat → FieldType := fun k => match k with
  | 0 => .boolean
  | 1 => .int
  | 2 => .int
  | _ => .object "BlobStore$Row"
abbrev R_B : String := "BlobStore"
def F_B : u_T := fun k => match k with
  | 0 => ("BlobStore", "power", "LBlobStore$Power;", true)
  | 1 => ("BlobStore", "sha256", "LBlobStore$Sha256;", true)
  | 2 => ("BlobStore", "slots", "[LBlobStore$Chunk;", true)
  | 3 => ("BlobStore", "sessions", "[LBlobStore$Session;", true)
  | 4 => ("BlobStore", "versions", "[LBlobStore$Version;", true)
  | 5 => ("BlobStore", "versionsEver", "I", false)
  | 6 => ("BlobStore", "incoming", "[LBlobStore$Chunk;", true)
  | 7 => ("BlobStore", "incomingSlots", "LBlobStore$Row;", true)
  | 8 => ("BlobStore", "wanted", "LBlobStore$Chunk;", true)
  | _ => ("BlobStore", "needs", "[I", true)
def T_B : Nat → FieldType := fun k => match k with
  | 0 => .object "BlobStore$Power"
  | 1 => .object "BlobStore$Sha256"
  | 2 => .array (.object "BlobStore$Chunk")
  | 3 => .array (.object "BlobStore$Session")
  | 4 => .array (.object "BlobStore$Version")
  | 5 => .int
  | 6 => .array (.object "BlobStore$Chunk")
  | 7 => .object "BlobStore$Row"
  | 8 => .object "BlobStore$Chunk"
  | _ => .array .int
abbrev R_M : String := "BlobStoreModel"
def F_M : u_T := fun k => match k with
  | 0 => ("BlobStoreModel", "thrown", "I", false)
  | 1 => ("BlobStoreModel", "sizes", "[I", true)
  | 2 => ("BlobStoreModel", "bytes", "[I", true)
  | 3 => ("BlobStoreModel", "open", "[Z", true)
  | 4 => ("BlobStoreModel", "sessionBucket", "[I", true)
  | 5 => ("BlobStoreModel", "sessionKey", "[I", true)
  | 6 => ("BlobStoreModel", "partSize", "[I", true)
  | 7 => ("BlobStoreModel", "partSlots", "[I", true)
  | 8 => ("BlobStoreModel", "versions", "I", false)
  | 9 => ("BlobStoreModel", "lives", "[Z", true)
  | 10 => ("BlobStoreModel", "versionBucket", "[I", true)
  | 11 => ("BlobStoreModel", "versionKey", "[I", true)
  | 12 => ("BlobStoreModel", "versionSize", "[I", true)
  | 13 => ("BlobStoreModel", "versionSlots", "[I", true)
  | 14 => ("BlobStoreModel", "writes", "I", false)
  | 15 => ("BlobStoreModel", "cut", "I", false)
  | 16 => ("BlobStoreModel", "down", "Z", false)
  | 17 => ("BlobStoreModel", "constants", "[I", true)
  | 18 => ("BlobStoreModel", "schedule", "[I", true)
  | 19 => ("BlobStoreModel", "hash", "[I", true)
  | 20 => ("BlobStoreModel", "row", "[I", true)
  | _ => ("BlobStoreModel", "limbs", "[J", true)
def T_M : Nat → FieldType := fun k => match k with
  | 0 => .int
  | 1 => .array .int
  | 2 => .array .int
  | 3 => .array .boolean
  | 4 => .array .int
  | 5 => .array .int
  | 6 => .array .int
  | 7 => .array .int
  | 8 => .int
  | 9 => .array .boolean
  | 10 => .array .int
  | 11 => .array .int
  | 12 => .array .int
  | 13 => .array .int
  | 14 => .int
  | 15 => .int
  | 16 => .boolean
  | 17 => .array .int
  | 18 => .array .int
  | 19 => .array .int
  | 20 => .array .int
  | _ => .array .long
abbrev bCl : List vw_C := [(R_K, F_K, 3), (R_P, F_P, 3), (R_R, F_R, 2), (R_S, F_S, 4), (R_H, F_H, 1), (R_V, F_V, 4), (R_B, F_B, 10), (R_M, F_M, 22)]
/-- a kind of object of the worlds: its number, its fields' words, their types, their names apart -/
def bCls (ci : Nat) (Cn : String) (T' : u_T) (N' : Nat) (ty : Nat → FieldType) : Prop := bCl[ci]? = some (Cn, T', N') ∧ (∀ w ∈ u_ws Cn T' N', w ∈ Tb) ∧ (∀ k, k < N' → parseFieldDescriptor (T' k).2.2.1 = some (ty k)) ∧ (∀ a, a < N' → ∀ b, b < N' → a ≠ b → (T' a).2.1 ≠ (T' b).2.1)
theorem k_K : bCls 0 R_K F_K 3 T_K := by
  refine ⟨rfl, fun w hw => ?_, by decide +kernel, by decide +kernel⟩
  obtain ⟨k, hk, rfl⟩ := List.mem_map.mp hw
  have hk := List.mem_range.mp hk
  rcases (show k = 0 ∨ k = 1 ∨ k = 2 by omega) with rfl | rfl | rfl
  · exact t1_89
  · exact t1_91
  · exact t1_93
theorem k_P : bCls 1 R_P F_P 3 T_P := by
  refine ⟨rfl, fun w hw => ?_, by decide +kernel, by decide +kernel⟩
  obtain ⟨k, hk, rfl⟩ := List.mem_map.mp hw
  have hk := List.mem_range.mp hk
  rcases (show k = 0 ∨ k = 1 ∨ k = 2 by omega) with rfl | rfl | rfl
  · exact t1_39
  · exact t1_41
  · exact t1_43
theorem k_R : bCls 2 R_R F_R 2 T_R := by
  refine ⟨rfl, fun w hw => ?_, by decide +kernel, by decide +kernel⟩
  obtain ⟨k, hk, rfl⟩ := List.mem_map.mp hw
  have hk := List.mem_range.mp hk
  rcases (show k = 0 ∨ k = 1 by omega) with rfl | rfl
  · exact t1_74
  · exact t1_76
theorem k_S : bCls 3 R_S F_S 4 T_S := by
  refine ⟨rfl, fun w hw => ?_, by decide +kernel, by decide +kernel⟩
  obtain ⟨k, hk, rfl⟩ := List.mem_map.mp hw
  have hk := List.mem_range.mp hk
  rcases (show k = 0 ∨ k = 1 ∨ k = 2 ∨ k = 3 by omega) with rfl | rfl | rfl | rfl
  · exact t1_113
  · exact t1_115
  · exact t1_117
  · exact t1_119
theorem k_H : bCls 4 R_H F_H 1 T_H := by
  refine ⟨rfl, fun w hw => ?_, by decide +kernel, by decide +kernel⟩
  obtain ⟨k, hk, rfl⟩ := List.mem_map.mp hw
  have hk := List.mem_range.mp hk
  obtain rfl : k = 0 := by omega
  · exact t1_53
theorem k_V : bCls 5 R_V F_V 4 T_V := by
  refine ⟨rfl, fun w hw => ?_, by decide +kernel, by decide +kernel⟩
  obtain ⟨k, hk, rfl⟩ := List.mem_map.mp hw
  have hk := List.mem_range.mp hk
  rcases (show k = 0 ∨ k = 1 ∨ k = 2 ∨ k = 3 by omega) with rfl | rfl | rfl | rfl
  · exact t1_137
  · exact t1_139
  · exact t1_141
  · exact t1_143
theorem k_B : bCls 6 R_B F_B 10 T_B := by
  refine ⟨rfl, fun w hw => ?_, by decide +kernel, by decide +kernel⟩
  obtain ⟨k, hk, rfl⟩ := List.mem_map.mp hw
  have hk := List.mem_range.mp hk
  rcases (show k = 0 ∨ k = 1 ∨ k = 2 ∨ k = 3 ∨ k = 4 ∨ k = 5 ∨ k = 6 ∨ k = 7 ∨ k = 8 ∨ k = 9 by omega) with rfl | rfl | rfl | rfl | rfl | rfl | rfl | rfl | rfl | rfl
  · exact t1_156
  · exact t1_158
  · exact t1_160
  · exact t1_162
  · exact t1_164
  · exact t1_166
  · exact t1_168
  · exact t1_170
  · exact t1_172
  · exact t1_174
theorem k_M : bCls 7 R_M F_M 22 T_M := by
  refine ⟨rfl, fun w hw => ?_, by decide +kernel, by decide +kernel⟩
  obtain ⟨k, hk, rfl⟩ := List.mem_map.mp hw
  have hk := List.mem_range.mp hk
  rcases (show k = 0 ∨ k = 1 ∨ k = 2 ∨ k = 3 ∨ k = 4 ∨ k = 5 ∨ k = 6 ∨ k = 7 ∨ k = 8 ∨ k = 9 ∨ k = 10 ∨ k = 11 ∨ k = 12 ∨ k = 13 ∨ k = 14 ∨ k = 15 ∨ k = 16 ∨ k = 17 ∨ k = 18 ∨ k = 19 ∨ k = 20 ∨ k = 21 by omega) with rfl | rfl | rfl | rfl | rfl | rfl | rfl | rfl | rfl | rfl | rfl | rfl | rfl | rfl | rfl | rfl | rfl | rfl | rfl | rfl | rfl | rfl
  · exact t3_129
  · exact t3_131
  · exact t3_133
  · exact t3_135
  · exact t3_137
  · exact t3_139
  · exact t3_141
  · exact t3_143
  · exact t3_145
  · exact t3_147
  · exact t3_149
  · exact t3_151
  · exact t3_153
  · exact t3_155
  · exact t3_157
  · exact t3_159
  · exact t3_161
  · exact t3_163
  · exact t3_165
  · exact t3_167
  · exact t3_169
  · exact t3_171
