section bMix
variable {p : Program} {l : Launch} {e : Env} {R : Room} {s : State} {m : MethodId} {args : Array Value} {below : List Frame} {meth : Method} {c : Code} {dd : bD} {A : Nat → Prop} {mc ms : Nat} {post : Option Value → (Nat → Nat) → (Nat → va_E) → Nat → Prop} {thr : String → (Nat → Nat) → (Nat → va_E) → Nat → Prop} {ad : Nat → Nat} {w : Nat → va_E} {N cells slots : Nat}
theorem lp_mix (C : bCx p R s m args meth c c_H_mixBlock R_H 16 none [] dd A) (hN : 305 ≤ N) (h2 : w 2 = .inr (4, [.ref (ad 3)])) {f0 : Nat → Int32} (h3 : w 3 = aI dd 64 f0) (hRf : 1 ≤ R.frames) (hRl : 21 ≤ R.locals) (hc : cells ≤ R.cells) (hs : slots ≤ R.slots) {q : Nat}
    (hx : ∀ x2 x3 x4 x5 x6 x7 x8 x9 : Int32, bV p l e R s m args below meth c dd A 16 mc ms post thr 210 (bO [(1, .ref q), (2, .int x2), (3, .int x3), (4, .int x4), (5, .int x5), (6, .int x6), (7, .int x7), (8, .int x8), (9, .int x9)]) [] ad w N cells slots) :
    ∀ (d i : Nat) (x2 x3 x4 x5 x6 x7 x8 x9 : Int32), i + d = 64 → bV p l e R s m args below meth c dd A 16 mc ms post thr 59 (bO [(0, .ref (ad 2)), (1, .ref q), (2, .int x2), (3, .int x3), (4, .int x4), (5, .int x5), (6, .int x6), (7, .int x7), (8, .int x8), (9, .int x9), (10, .int (nI i))]) [] ad w N cells slots := by
  intro d
  induction d with
  | zero =>
    intro i x2 x3 x4 x5 x6 x7 x8 x9 hi
    obtain rfl : i = 64 := by omega
    refine bv_iload 61 rfl C d_H_mixBlock_59 rfl ?_
    refine bv_bipush (v := nI 64) 63 rfl C d_H_mixBlock_61 (by decide) ?_
    refine bv_icmp_ge 210 66 rfl C d_H_mixBlock_63 (by decide) (fun h => ?_) (fun h => absurd (nI_le (by decide) (by decide)) h)
    refine bv_wk [(1, .ref q), (2, .int x2), (3, .int x3), (4, .int x4), (5, .int x5), (6, .int x6), (7, .int x7), (8, .int x8), (9, .int x9)] ⟨rfl, rfl, rfl, rfl, rfl, rfl, rfl, rfl, rfl, trivial⟩ ?_
    exact hx _ _ _ _ _ _ _ _
  | succ d ih =>
    intro i x2 x3 x4 x5 x6 x7 x8 x9 hi
    refine bv_iload 61 rfl C d_H_mixBlock_59 rfl ?_
    refine bv_bipush (v := nI 64) 63 rfl C d_H_mixBlock_61 (by decide) ?_
    refine bv_icmp_ge 210 66 rfl C d_H_mixBlock_63 (by decide) (fun h => absurd h (nI_ge (by omega) (by decide))) (fun h => ?_)
    refine bv_iload 68 rfl C d_H_mixBlock_66 rfl ?_
    refine bv_bipush (v := nI 6) 70 rfl C d_H_mixBlock_68 (by decide) ?_
    refine bv_call (rest := _) 73 rfl C d_H_mixBlock_70 ct_H_turnRight i_H_turnRight t1_3 (fun H locs ls _ => bs_S (av := [.int _, .int _]) C i_H_turnRight t2_16 t2_17 t1_3 (by decide) rfl rfl d_H_mixBlock_70 H locs ls) ⟨by first | decide | omega, by first | decide | omega⟩ (by omega) (by omega) (Nat.le_of_ble_eq_true rfl) (fun v ad1 w1 N1 hpo => ?_) (fun x Cn ad' w' N' hth => hth.elim)
    obtain ⟨rfl, rfl, rfl, y0, rfl⟩ := hpo
    refine bv_iload 75 rfl C d_H_mixBlock_73 rfl ?_
    refine bv_bipush (v := nI 11) 77 rfl C d_H_mixBlock_75 (by decide) ?_
    refine bv_call (rest := _) 80 rfl C d_H_mixBlock_77 ct_H_turnRight i_H_turnRight t1_3 (fun H locs ls _ => bs_S (av := [.int _, .int _]) C i_H_turnRight t2_16 t2_17 t1_3 (by decide) rfl rfl d_H_mixBlock_77 H locs ls) ⟨by first | decide | omega, by first | decide | omega⟩ (by omega) (by omega) (Nat.le_of_ble_eq_true rfl) (fun v ad1 w1 N1 hpo => ?_) (fun x Cn ad' w' N' hth => hth.elim)
    obtain ⟨rfl, rfl, rfl, y1, rfl⟩ := hpo
    refine bv_ixor 81 rfl C d_H_mixBlock_80 ?_
    refine bv_iload 83 rfl C d_H_mixBlock_81 rfl ?_
    refine bv_bipush (v := nI 25) 85 rfl C d_H_mixBlock_83 (by decide) ?_
    refine bv_call (rest := _) 88 rfl C d_H_mixBlock_85 ct_H_turnRight i_H_turnRight t1_3 (fun H locs ls _ => bs_S (av := [.int _, .int _]) C i_H_turnRight t2_16 t2_17 t1_3 (by decide) rfl rfl d_H_mixBlock_85 H locs ls) ⟨by first | decide | omega, by first | decide | omega⟩ (by omega) (by omega) (Nat.le_of_ble_eq_true rfl) (fun v ad1 w1 N1 hpo => ?_) (fun x Cn ad' w' N' hth => hth.elim)
    obtain ⟨rfl, rfl, rfl, y2, rfl⟩ := hpo
    refine bv_ixor 89 rfl C d_H_mixBlock_88 ?_
    refine bv_istore 91 rfl C d_H_mixBlock_89 (by decide) ?_
    refine bv_iload 93 rfl C d_H_mixBlock_91 rfl ?_
    refine bv_iload 95 rfl C d_H_mixBlock_93 rfl ?_
    refine bv_iand 96 rfl C d_H_mixBlock_95 ?_
    refine bv_iload 98 rfl C d_H_mixBlock_96 rfl ?_
    refine bv_iconst (v := -1) 99 rfl C d_H_mixBlock_98 (by decide) ?_
    refine bv_ixor 100 rfl C d_H_mixBlock_99 ?_
    refine bv_iload 102 rfl C d_H_mixBlock_100 rfl ?_
    refine bv_iand 103 rfl C d_H_mixBlock_102 ?_
    refine bv_ixor 104 rfl C d_H_mixBlock_103 ?_
    refine bv_istore 106 rfl C d_H_mixBlock_104 (by decide) ?_
    refine bv_iload 108 rfl C d_H_mixBlock_106 rfl ?_
    refine bv_iload 110 rfl C d_H_mixBlock_108 rfl ?_
    refine bv_iadd 111 rfl C d_H_mixBlock_110 ?_
    refine bv_iload 113 rfl C d_H_mixBlock_111 rfl ?_
    refine bv_iadd 114 rfl C d_H_mixBlock_113 ?_
    refine bv_gets 1 117 rfl C (show ("BlobStore$Sha256", "ROUND_WORDS", 1, 64) ∈ bSta by simp) t2_25 d_H_mixBlock_114 ?_
    refine bv_iload 119 rfl C d_H_mixBlock_117 rfl ?_
    refine bv_ti 1 i 120 rfl C (show ("BlobStore$Sha256", "ROUND_WORDS", 1, 64) ∈ bSta by simp) rfl (by omega) (by decide) d_H_mixBlock_119 ?_
    refine bv_iadd 121 rfl C d_H_mixBlock_120 ?_
    refine bv_aload_n 122 rfl C d_H_mixBlock_121 rfl ?_
    refine bv_get 2 0 125 rfl C k_H (by omega) rfl h2 (by decide) t1_52 rfl d_H_mixBlock_122 ?_
    refine bv_iload 127 rfl C d_H_mixBlock_125 rfl ?_
    refine bv_iald 3 i 128 rfl C (by omega) rfl h3 rfl (by omega) (by decide) d_H_mixBlock_127 ?_
    refine bv_iadd 129 rfl C d_H_mixBlock_128 ?_
    refine bv_istore 131 rfl C d_H_mixBlock_129 (by decide) ?_
    refine bv_iload_n 132 rfl C d_H_mixBlock_131 rfl ?_
    refine bv_iconst (v := nI 2) 133 rfl C d_H_mixBlock_132 (by decide) ?_
    refine bv_call (rest := _) 136 rfl C d_H_mixBlock_133 ct_H_turnRight i_H_turnRight t1_3 (fun H locs ls _ => bs_S (av := [.int _, .int _]) C i_H_turnRight t2_16 t2_17 t1_3 (by decide) rfl rfl d_H_mixBlock_133 H locs ls) ⟨by first | decide | omega, by first | decide | omega⟩ (by omega) (by omega) (Nat.le_of_ble_eq_true rfl) (fun v ad1 w1 N1 hpo => ?_) (fun x Cn ad' w' N' hth => hth.elim)
    obtain ⟨rfl, rfl, rfl, y3, rfl⟩ := hpo
    refine bv_iload_n 137 rfl C d_H_mixBlock_136 rfl ?_
    refine bv_bipush (v := nI 13) 139 rfl C d_H_mixBlock_137 (by decide) ?_
    refine bv_call (rest := _) 142 rfl C d_H_mixBlock_139 ct_H_turnRight i_H_turnRight t1_3 (fun H locs ls _ => bs_S (av := [.int _, .int _]) C i_H_turnRight t2_16 t2_17 t1_3 (by decide) rfl rfl d_H_mixBlock_139 H locs ls) ⟨by first | decide | omega, by first | decide | omega⟩ (by omega) (by omega) (Nat.le_of_ble_eq_true rfl) (fun v ad1 w1 N1 hpo => ?_) (fun x Cn ad' w' N' hth => hth.elim)
    obtain ⟨rfl, rfl, rfl, y4, rfl⟩ := hpo
    refine bv_ixor 143 rfl C d_H_mixBlock_142 ?_
    refine bv_iload_n 144 rfl C d_H_mixBlock_143 rfl ?_
    refine bv_bipush (v := nI 22) 146 rfl C d_H_mixBlock_144 (by decide) ?_
    refine bv_call (rest := _) 149 rfl C d_H_mixBlock_146 ct_H_turnRight i_H_turnRight t1_3 (fun H locs ls _ => bs_S (av := [.int _, .int _]) C i_H_turnRight t2_16 t2_17 t1_3 (by decide) rfl rfl d_H_mixBlock_146 H locs ls) ⟨by first | decide | omega, by first | decide | omega⟩ (by omega) (by omega) (Nat.le_of_ble_eq_true rfl) (fun v ad1 w1 N1 hpo => ?_) (fun x Cn ad' w' N' hth => hth.elim)
    obtain ⟨rfl, rfl, rfl, y5, rfl⟩ := hpo
    refine bv_ixor 150 rfl C d_H_mixBlock_149 ?_
    refine bv_istore 152 rfl C d_H_mixBlock_150 (by decide) ?_
    refine bv_iload_n 153 rfl C d_H_mixBlock_152 rfl ?_
    refine bv_iload_n 154 rfl C d_H_mixBlock_153 rfl ?_
    refine bv_iand 155 rfl C d_H_mixBlock_154 ?_
    refine bv_iload_n 156 rfl C d_H_mixBlock_155 rfl ?_
    refine bv_iload 158 rfl C d_H_mixBlock_156 rfl ?_
    refine bv_iand 159 rfl C d_H_mixBlock_158 ?_
    refine bv_ixor 160 rfl C d_H_mixBlock_159 ?_
    refine bv_iload_n 161 rfl C d_H_mixBlock_160 rfl ?_
    refine bv_iload 163 rfl C d_H_mixBlock_161 rfl ?_
    refine bv_iand 164 rfl C d_H_mixBlock_163 ?_
    refine bv_ixor 165 rfl C d_H_mixBlock_164 ?_
    refine bv_istore 167 rfl C d_H_mixBlock_165 (by decide) ?_
    refine bv_iload 169 rfl C d_H_mixBlock_167 rfl ?_
    refine bv_istore 171 rfl C d_H_mixBlock_169 (by decide) ?_
    refine bv_iload 173 rfl C d_H_mixBlock_171 rfl ?_
    refine bv_istore 175 rfl C d_H_mixBlock_173 (by decide) ?_
    refine bv_iload 177 rfl C d_H_mixBlock_175 rfl ?_
    refine bv_istore 179 rfl C d_H_mixBlock_177 (by decide) ?_
    refine bv_iload 181 rfl C d_H_mixBlock_179 rfl ?_
    refine bv_iload 183 rfl C d_H_mixBlock_181 rfl ?_
    refine bv_iadd 184 rfl C d_H_mixBlock_183 ?_
    refine bv_istore 186 rfl C d_H_mixBlock_184 (by decide) ?_
    refine bv_iload 188 rfl C d_H_mixBlock_186 rfl ?_
    refine bv_istore 190 rfl C d_H_mixBlock_188 (by decide) ?_
    refine bv_iload_n 191 rfl C d_H_mixBlock_190 rfl ?_
    refine bv_istore 193 rfl C d_H_mixBlock_191 (by decide) ?_
    refine bv_iload_n 194 rfl C d_H_mixBlock_193 rfl ?_
    refine bv_istore_n 195 rfl C d_H_mixBlock_194 (by decide) ?_
    refine bv_iload 197 rfl C d_H_mixBlock_195 rfl ?_
    refine bv_iload 199 rfl C d_H_mixBlock_197 rfl ?_
    refine bv_iadd 200 rfl C d_H_mixBlock_199 ?_
    refine bv_iload 202 rfl C d_H_mixBlock_200 rfl ?_
    refine bv_iadd 203 rfl C d_H_mixBlock_202 ?_
    refine bv_istore_n 204 rfl C d_H_mixBlock_203 (by decide) ?_
    refine bv_iinc 207 rfl C d_H_mixBlock_204 rfl (by first | exact b_inc _ | rfl) (by decide) ?_
    refine bv_goto 59 C d_H_mixBlock_207 (by decide) ?_
    refine bv_wk [(0, .ref (ad 2)), (1, .ref q), (2, .int _), (3, .int _), (4, .int _), (5, .int _), (6, .int _), (7, .int _), (8, .int _), (9, .int _), (10, .int (nI (i + 1)))] ⟨rfl, rfl, rfl, rfl, rfl, rfl, rfl, rfl, rfl, rfl, rfl, trivial⟩ ?_
    exact ih (i + 1) _ _ _ _ _ _ _ _ (by omega)
/-- Sha256.mixBlock: the address at key ka is written -/
theorem ct_H_mixBlock {ka : Nat} {f0 g0 : Nat → Int32} (hN : 305 ≤ N) (h2 : w 2 = .inr (4, [.ref (ad 3)])) (h3 : w 3 = aI dd 64 f0) (hk : ka < N) (hka : w ka = aI dd 8 g0) : bK l dd y_H_mixBlock 1 21 0 0 [.ref (ad 2), .ref (ad ka)] ad w N (fun v ad' w' N' => ad = ad' ∧ N = N' ∧ v = none ∧ ∃ g, w' = va_up w ka (aI dd 8 g)) bNo := by
  refine bK.start [(0, .ref (ad 2)), (1, .ref (ad ka))] (by decide) t2_22 (Nat.le_of_ble_eq_true rfl) rfl (fun p e s m args below meth c A hnm C => ?_)
  refine bv_gets 0 3 rfl C (show ("BlobStore$Sha256", "FIRST_HASH", 0, 8) ∈ bSta by simp) t2_23 d_H_mixBlock_0 ?_
  refine bv_iconst (v := nI 0) 4 rfl C d_H_mixBlock_3 (by decide) ?_
  refine bv_ti 0 0 5 rfl C (show ("BlobStore$Sha256", "FIRST_HASH", 0, 8) ∈ bSta by simp) rfl (by decide) (by decide) d_H_mixBlock_4 ?_
  refine bv_istore_n 6 rfl C d_H_mixBlock_5 (by decide) ?_
  refine bv_gets 0 9 rfl C (show ("BlobStore$Sha256", "FIRST_HASH", 0, 8) ∈ bSta by simp) t2_23 d_H_mixBlock_6 ?_
  refine bv_iconst (v := nI 1) 10 rfl C d_H_mixBlock_9 (by decide) ?_
  refine bv_ti 0 1 11 rfl C (show ("BlobStore$Sha256", "FIRST_HASH", 0, 8) ∈ bSta by simp) rfl (by decide) (by decide) d_H_mixBlock_10 ?_
  refine bv_istore_n 12 rfl C d_H_mixBlock_11 (by decide) ?_
  refine bv_gets 0 15 rfl C (show ("BlobStore$Sha256", "FIRST_HASH", 0, 8) ∈ bSta by simp) t2_23 d_H_mixBlock_12 ?_
  refine bv_iconst (v := nI 2) 16 rfl C d_H_mixBlock_15 (by decide) ?_
  refine bv_ti 0 2 17 rfl C (show ("BlobStore$Sha256", "FIRST_HASH", 0, 8) ∈ bSta by simp) rfl (by decide) (by decide) d_H_mixBlock_16 ?_
  refine bv_istore 19 rfl C d_H_mixBlock_17 (by decide) ?_
  refine bv_gets 0 22 rfl C (show ("BlobStore$Sha256", "FIRST_HASH", 0, 8) ∈ bSta by simp) t2_23 d_H_mixBlock_19 ?_
  refine bv_iconst (v := nI 3) 23 rfl C d_H_mixBlock_22 (by decide) ?_
  refine bv_ti 0 3 24 rfl C (show ("BlobStore$Sha256", "FIRST_HASH", 0, 8) ∈ bSta by simp) rfl (by decide) (by decide) d_H_mixBlock_23 ?_
  refine bv_istore 26 rfl C d_H_mixBlock_24 (by decide) ?_
  refine bv_gets 0 29 rfl C (show ("BlobStore$Sha256", "FIRST_HASH", 0, 8) ∈ bSta by simp) t2_23 d_H_mixBlock_26 ?_
  refine bv_iconst (v := nI 4) 30 rfl C d_H_mixBlock_29 (by decide) ?_
  refine bv_ti 0 4 31 rfl C (show ("BlobStore$Sha256", "FIRST_HASH", 0, 8) ∈ bSta by simp) rfl (by decide) (by decide) d_H_mixBlock_30 ?_
  refine bv_istore 33 rfl C d_H_mixBlock_31 (by decide) ?_
  refine bv_gets 0 36 rfl C (show ("BlobStore$Sha256", "FIRST_HASH", 0, 8) ∈ bSta by simp) t2_23 d_H_mixBlock_33 ?_
  refine bv_iconst (v := nI 5) 37 rfl C d_H_mixBlock_36 (by decide) ?_
  refine bv_ti 0 5 38 rfl C (show ("BlobStore$Sha256", "FIRST_HASH", 0, 8) ∈ bSta by simp) rfl (by decide) (by decide) d_H_mixBlock_37 ?_
  refine bv_istore 40 rfl C d_H_mixBlock_38 (by decide) ?_
  refine bv_gets 0 43 rfl C (show ("BlobStore$Sha256", "FIRST_HASH", 0, 8) ∈ bSta by simp) t2_23 d_H_mixBlock_40 ?_
  refine bv_bipush (v := nI 6) 45 rfl C d_H_mixBlock_43 (by decide) ?_
  refine bv_ti 0 6 46 rfl C (show ("BlobStore$Sha256", "FIRST_HASH", 0, 8) ∈ bSta by simp) rfl (by decide) (by decide) d_H_mixBlock_45 ?_
  refine bv_istore 48 rfl C d_H_mixBlock_46 (by decide) ?_
  refine bv_gets 0 51 rfl C (show ("BlobStore$Sha256", "FIRST_HASH", 0, 8) ∈ bSta by simp) t2_23 d_H_mixBlock_48 ?_
  refine bv_bipush (v := nI 7) 53 rfl C d_H_mixBlock_51 (by decide) ?_
  refine bv_ti 0 7 54 rfl C (show ("BlobStore$Sha256", "FIRST_HASH", 0, 8) ∈ bSta by simp) rfl (by decide) (by decide) d_H_mixBlock_53 ?_
  refine bv_istore 56 rfl C d_H_mixBlock_54 (by decide) ?_
  refine bv_iconst (v := nI 0) 57 rfl C d_H_mixBlock_56 (by decide) ?_
  refine bv_istore 59 rfl C d_H_mixBlock_57 (by decide) ?_
  refine bv_wk [(0, .ref (ad 2)), (1, .ref (ad ka)), (2, .int _), (3, .int _), (4, .int _), (5, .int _), (6, .int _), (7, .int _), (8, .int _), (9, .int _), (10, .int (nI 0))] ⟨rfl, rfl, rfl, rfl, rfl, rfl, rfl, rfl, rfl, rfl, rfl, trivial⟩ ?_
  refine lp_mix C hN h2 h3 (by decide) (by decide) (by decide) (by decide) (fun x2 x3 x4 x5 x6 x7 x8 x9 => ?_) 64 0 _ _ _ _ _ _ _ _ rfl
  refine bv_aload_n 211 rfl C d_H_mixBlock_210 rfl ?_
  refine bv_iconst (v := nI 0) 212 rfl C d_H_mixBlock_211 (by decide) ?_
  refine bv_gets 0 215 rfl C (show ("BlobStore$Sha256", "FIRST_HASH", 0, 8) ∈ bSta by simp) t2_23 d_H_mixBlock_212 ?_
  refine bv_iconst (v := nI 0) 216 rfl C d_H_mixBlock_215 (by decide) ?_
  refine bv_ti 0 0 217 rfl C (show ("BlobStore$Sha256", "FIRST_HASH", 0, 8) ∈ bSta by simp) rfl (by decide) (by decide) d_H_mixBlock_216 ?_
  refine bv_iload_n 218 rfl C d_H_mixBlock_217 rfl ?_
  refine bv_iadd 219 rfl C d_H_mixBlock_218 ?_
  refine bv_iast ka 0 220 rfl C hk rfl hka rfl (by decide) (by decide) d_H_mixBlock_219 ?_
  refine bv_aload_n 221 rfl C d_H_mixBlock_220 rfl ?_
  refine bv_iconst (v := nI 1) 222 rfl C d_H_mixBlock_221 (by decide) ?_
  refine bv_gets 0 225 rfl C (show ("BlobStore$Sha256", "FIRST_HASH", 0, 8) ∈ bSta by simp) t2_23 d_H_mixBlock_222 ?_
  refine bv_iconst (v := nI 1) 226 rfl C d_H_mixBlock_225 (by decide) ?_
  refine bv_ti 0 1 227 rfl C (show ("BlobStore$Sha256", "FIRST_HASH", 0, 8) ∈ bSta by simp) rfl (by decide) (by decide) d_H_mixBlock_226 ?_
  refine bv_iload_n 228 rfl C d_H_mixBlock_227 rfl ?_
  refine bv_iadd 229 rfl C d_H_mixBlock_228 ?_
  refine bv_iast ka 1 230 rfl C hk rfl (va_up_self _ _ _) rfl (by decide) (by decide) d_H_mixBlock_229 ?_
  rw [bu_same]
  refine bv_aload_n 231 rfl C d_H_mixBlock_230 rfl ?_
  refine bv_iconst (v := nI 2) 232 rfl C d_H_mixBlock_231 (by decide) ?_
  refine bv_gets 0 235 rfl C (show ("BlobStore$Sha256", "FIRST_HASH", 0, 8) ∈ bSta by simp) t2_23 d_H_mixBlock_232 ?_
  refine bv_iconst (v := nI 2) 236 rfl C d_H_mixBlock_235 (by decide) ?_
  refine bv_ti 0 2 237 rfl C (show ("BlobStore$Sha256", "FIRST_HASH", 0, 8) ∈ bSta by simp) rfl (by decide) (by decide) d_H_mixBlock_236 ?_
  refine bv_iload 239 rfl C d_H_mixBlock_237 rfl ?_
  refine bv_iadd 240 rfl C d_H_mixBlock_239 ?_
  refine bv_iast ka 2 241 rfl C hk rfl (va_up_self _ _ _) rfl (by decide) (by decide) d_H_mixBlock_240 ?_
  rw [bu_same]
  refine bv_aload_n 242 rfl C d_H_mixBlock_241 rfl ?_
  refine bv_iconst (v := nI 3) 243 rfl C d_H_mixBlock_242 (by decide) ?_
  refine bv_gets 0 246 rfl C (show ("BlobStore$Sha256", "FIRST_HASH", 0, 8) ∈ bSta by simp) t2_23 d_H_mixBlock_243 ?_
  refine bv_iconst (v := nI 3) 247 rfl C d_H_mixBlock_246 (by decide) ?_
  refine bv_ti 0 3 248 rfl C (show ("BlobStore$Sha256", "FIRST_HASH", 0, 8) ∈ bSta by simp) rfl (by decide) (by decide) d_H_mixBlock_247 ?_
  refine bv_iload 250 rfl C d_H_mixBlock_248 rfl ?_
  refine bv_iadd 251 rfl C d_H_mixBlock_250 ?_
  refine bv_iast ka 3 252 rfl C hk rfl (va_up_self _ _ _) rfl (by decide) (by decide) d_H_mixBlock_251 ?_
  rw [bu_same]
  refine bv_aload_n 253 rfl C d_H_mixBlock_252 rfl ?_
  refine bv_iconst (v := nI 4) 254 rfl C d_H_mixBlock_253 (by decide) ?_
  refine bv_gets 0 257 rfl C (show ("BlobStore$Sha256", "FIRST_HASH", 0, 8) ∈ bSta by simp) t2_23 d_H_mixBlock_254 ?_
  refine bv_iconst (v := nI 4) 258 rfl C d_H_mixBlock_257 (by decide) ?_
  refine bv_ti 0 4 259 rfl C (show ("BlobStore$Sha256", "FIRST_HASH", 0, 8) ∈ bSta by simp) rfl (by decide) (by decide) d_H_mixBlock_258 ?_
  refine bv_iload 261 rfl C d_H_mixBlock_259 rfl ?_
  refine bv_iadd 262 rfl C d_H_mixBlock_261 ?_
  refine bv_iast ka 4 263 rfl C hk rfl (va_up_self _ _ _) rfl (by decide) (by decide) d_H_mixBlock_262 ?_
  rw [bu_same]
  refine bv_aload_n 264 rfl C d_H_mixBlock_263 rfl ?_
  refine bv_iconst (v := nI 5) 265 rfl C d_H_mixBlock_264 (by decide) ?_
  refine bv_gets 0 268 rfl C (show ("BlobStore$Sha256", "FIRST_HASH", 0, 8) ∈ bSta by simp) t2_23 d_H_mixBlock_265 ?_
  refine bv_iconst (v := nI 5) 269 rfl C d_H_mixBlock_268 (by decide) ?_
  refine bv_ti 0 5 270 rfl C (show ("BlobStore$Sha256", "FIRST_HASH", 0, 8) ∈ bSta by simp) rfl (by decide) (by decide) d_H_mixBlock_269 ?_
  refine bv_iload 272 rfl C d_H_mixBlock_270 rfl ?_
  refine bv_iadd 273 rfl C d_H_mixBlock_272 ?_
  refine bv_iast ka 5 274 rfl C hk rfl (va_up_self _ _ _) rfl (by decide) (by decide) d_H_mixBlock_273 ?_
  rw [bu_same]
  refine bv_aload_n 275 rfl C d_H_mixBlock_274 rfl ?_
  refine bv_bipush (v := nI 6) 277 rfl C d_H_mixBlock_275 (by decide) ?_
  refine bv_gets 0 280 rfl C (show ("BlobStore$Sha256", "FIRST_HASH", 0, 8) ∈ bSta by simp) t2_23 d_H_mixBlock_277 ?_
  refine bv_bipush (v := nI 6) 282 rfl C d_H_mixBlock_280 (by decide) ?_
  refine bv_ti 0 6 283 rfl C (show ("BlobStore$Sha256", "FIRST_HASH", 0, 8) ∈ bSta by simp) rfl (by decide) (by decide) d_H_mixBlock_282 ?_
  refine bv_iload 285 rfl C d_H_mixBlock_283 rfl ?_
  refine bv_iadd 286 rfl C d_H_mixBlock_285 ?_
  refine bv_iast ka 6 287 rfl C hk rfl (va_up_self _ _ _) rfl (by decide) (by decide) d_H_mixBlock_286 ?_
  rw [bu_same]
  refine bv_aload_n 288 rfl C d_H_mixBlock_287 rfl ?_
  refine bv_bipush (v := nI 7) 290 rfl C d_H_mixBlock_288 (by decide) ?_
  refine bv_gets 0 293 rfl C (show ("BlobStore$Sha256", "FIRST_HASH", 0, 8) ∈ bSta by simp) t2_23 d_H_mixBlock_290 ?_
  refine bv_bipush (v := nI 7) 295 rfl C d_H_mixBlock_293 (by decide) ?_
  refine bv_ti 0 7 296 rfl C (show ("BlobStore$Sha256", "FIRST_HASH", 0, 8) ∈ bSta by simp) rfl (by decide) (by decide) d_H_mixBlock_295 ?_
  refine bv_iload 298 rfl C d_H_mixBlock_296 rfl ?_
  refine bv_iadd 299 rfl C d_H_mixBlock_298 ?_
  refine bv_iast ka 7 300 rfl C hk rfl (va_up_self _ _ _) rfl (by decide) (by decide) d_H_mixBlock_299 ?_
  rw [bu_same]
  exact bv_return C rfl d_H_mixBlock_300 (Nat.le_refl _) (Nat.le_refl _) ⟨rfl, rfl, rfl, _, rfl⟩
/-- Sha256.digest -/
theorem ct_H_digest {ka : Nat} {f0 g0 : Nat → Int32} {n : Int32} {x : Int64} (hN : 305 ≤ N) (h2 : w 2 = .inr (4, [.ref (ad 3)])) (h3 : w 3 = aI dd 64 f0) (hk : ka < N) (hn : ka ≠ 3) (hka : w ka = aI dd 8 g0) : bK l dd y_H_digest 2 56 0 0 [.ref (ad 2), .int n, .long x, .ref (ad ka)] ad w N (fun v ad' w' N' => ad = ad' ∧ N = N' ∧ v = none ∧ ∃ f g, w' = va_up (va_up w 3 (aI dd 64 f)) ka (aI dd 8 g)) bNo := by
  have h2' : ∀ f : Nat → Int32, va_up w 3 (aI dd 64 f) 2 = .inr (4, [.ref (ad 3)]) := fun f => by rw [va_up_ne _ _ (by decide)]; exact h2
  refine bK.start [(0, .ref (ad 2)), (1, .int n), (2, .long x), (4, .ref (ad ka))] (by decide) t2_5 (Nat.le_of_ble_eq_true rfl) rfl (fun p e s m args below meth c A hnm C => ?_)
  refine bv_aload_n 1 rfl C d_H_digest_0 rfl ?_
  refine bv_iload_n 2 rfl C d_H_digest_1 rfl ?_
  refine bv_lload_n 3 rfl C d_H_digest_2 rfl ?_
  refine bv_call (rest := []) 6 rfl C d_H_digest_3 (ct_H_padBlock hN h2 h3) i_H_padBlock t1_3 (fun H locs ls hP => bs_V (av := [.int n, .long x]) 2 C i_H_padBlock t2_6 t2_8 s_10 (by omega) rfl h2 rfl (by decide) rfl rfl d_H_digest_3 H locs ls hP) ⟨by first | decide | omega, by first | decide | omega⟩ (by decide) (by decide) (Nat.le_of_ble_eq_true rfl) (fun v ad1 w1 N1 hpo => ?_) (fun x Cn ad' w' N' hth => hth.elim)
  obtain ⟨rfl, rfl, rfl, f1, rfl⟩ := hpo
  refine bv_aload_n 7 rfl C d_H_digest_6 rfl ?_
  refine bv_call (rest := []) 10 rfl C d_H_digest_7 (ct_H_expandBlock hN (h2' f1) (va_up_self _ _ _)) i_H_expandBlock t1_3 (fun H locs ls hP => bs_V (av := []) 2 C i_H_expandBlock t2_12 t2_14 s_11 (by omega) rfl (h2' f1) rfl (by decide) rfl rfl d_H_digest_7 H locs ls hP) ⟨by first | decide | omega, by first | decide | omega⟩ (by decide) (by decide) (Nat.le_of_ble_eq_true rfl) (fun v ad1 w1 N1 hpo => ?_) (fun x Cn ad' w' N' hth => hth.elim)
  obtain ⟨rfl, rfl, rfl, f2, rfl⟩ := hpo
  rw [bu_same]
  refine bv_aload_n 11 rfl C d_H_digest_10 rfl ?_
  refine bv_aload 13 rfl C d_H_digest_11 rfl ?_
  refine bv_call (rest := []) 16 rfl C d_H_digest_13 (ct_H_mixBlock (ka := ka) hN (h2' f2) (va_up_self _ _ _) hk ((va_up_ne _ _ hn).trans hka)) i_H_mixBlock t1_3 (fun H locs ls hP => bs_V (av := [.ref (ad ka)]) 2 C i_H_mixBlock t2_19 t2_21 s_12 (by omega) rfl (h2' f2) rfl (by decide) rfl rfl d_H_digest_13 H locs ls hP) ⟨by first | decide | omega, by first | decide | omega⟩ (by decide) (by decide) (Nat.le_of_ble_eq_true rfl) (fun v ad1 w1 N1 hpo => ?_) (fun x Cn ad' w' N' hth => hth.elim)
  obtain ⟨rfl, rfl, rfl, g, rfl⟩ := hpo
  exact bv_return C rfl d_H_digest_16 (Nat.le_refl _) (Nat.le_refl _) ⟨rfl, rfl, rfl, f2, g, rfl⟩
/-- Chunk.fill -/
theorem ct_K_fill {k : Nat} {f0 g0 : Nat → Int32} {n len : Int32} {x by_ : Int64} (hN : 305 ≤ N) (h2 : w 2 = .inr (4, [.ref (ad 3)])) (h3 : w 3 = aI dd 64 f0) (hk : k + 1 < N) (hn : 10 ≤ k) (hw : w k = .inr (0, [.int len, .long by_, .ref (ad (k + 1))])) (hka : w (k + 1) = aI dd 8 g0) : bK l dd y_K_fill 3 80 0 0 [.ref (ad k), .int n, .long x, .ref (ad 2)] ad w N (fun v ad' w' N' => ad = ad' ∧ N = N' ∧ v = none ∧ (∃ y : Int64, w' k = .inr (0, [.int n, .long y, .ref (ad (k + 1))])) ∧ (∃ g, w' (k + 1) = aI dd 8 g) ∧ (∃ f, w' 3 = aI dd 64 f) ∧ ∀ i, i ≠ k → i ≠ k + 1 → i ≠ 3 → w' i = w i) bNo := by
  refine bK.start [(0, .ref (ad k)), (1, .int n), (2, .long x), (4, .ref (ad 2))] (by decide) t2_0 (Nat.le_of_ble_eq_true rfl) rfl (fun p e s m args below meth c A hnm C => ?_)
  refine bv_aload_n 1 rfl C d_K_fill_0 rfl ?_
  refine bv_iload_n 2 rfl C d_K_fill_1 rfl ?_
  refine bv_put k 0 5 rfl C k_K (by omega) rfl hw (by decide) t1_84 rfl rfl rfl (Nat.le_of_ble_eq_true rfl) d_K_fill_2 ?_
  refine bv_aload_n 6 rfl C d_K_fill_5 rfl ?_
  refine bv_lload_n 7 rfl C d_K_fill_6 rfl ?_
  refine bv_ldc2 10 rfl C t2_1 d_K_fill_7 ?_
  refine bv_bipush (v := nI 64) 12 rfl C d_K_fill_10 (by decide) ?_
  refine bv_bipush (v := nI 8) 14 rfl C d_K_fill_12 (by decide) ?_
  refine bv_iload_n 15 rfl C d_K_fill_14 rfl ?_
  refine bv_imul 16 rfl C d_K_fill_15 ?_
  refine bv_isub 17 rfl C d_K_fill_16 ?_
  refine bv_lshl 18 rfl C d_K_fill_17 rfl ?_
  refine bv_land 19 rfl C d_K_fill_18 ?_
  refine bv_put k 1 22 rfl C k_K (by omega) rfl (va_up_self _ _ _) (by decide) t1_86 rfl rfl rfl (Nat.le_of_ble_eq_true rfl) d_K_fill_19 ?_
  rw [bu_same]
  refine bv_aload 24 rfl C d_K_fill_22 rfl ?_
  refine bv_iload_n 25 rfl C d_K_fill_24 rfl ?_
  refine bv_aload_n 26 rfl C d_K_fill_25 rfl ?_
  refine bv_get k 1 29 rfl C k_K (by omega) rfl (va_up_self _ _ _) (by decide) t1_86 rfl d_K_fill_26 ?_
  refine bv_aload_n 30 rfl C d_K_fill_29 rfl ?_
  refine bv_get k 2 33 rfl C k_K (by omega) rfl (va_up_self _ _ _) (by decide) t1_87 rfl d_K_fill_30 ?_
  refine bv_call (rest := []) 36 rfl C d_K_fill_33 (ct_H_digest (ka := k + 1) hN (by rw [va_up_ne _ _ (by omega)]; exact h2) (by rw [va_up_ne _ _ (by omega)]; exact h3) hk (by omega) (by rw [va_up_ne _ _ (by omega)]; exact hka)) i_H_digest t1_3 (fun H locs ls hP => bs_VN (av := [.int n, .long _, .ref (ad (k + 1))]) 2 C i_H_digest n2_2 t2_4 s_9 (by omega) rfl (by rw [va_up_ne _ _ (by omega)]; exact h2) rfl (by decide) rfl rfl d_K_fill_33 H locs ls hP) ⟨by first | decide | omega, by first | decide | omega⟩ (by decide) (by decide) (Nat.le_of_ble_eq_true rfl) (fun v ad1 w1 N1 hpo => ?_) (fun x Cn ad' w' N' hth => hth.elim)
  obtain ⟨rfl, rfl, rfl, f, g, rfl⟩ := hpo
  exact bv_return C rfl d_K_fill_36 (Nat.le_refl _) (Nat.le_refl _) ⟨rfl, rfl, rfl, ⟨_, by rw [va_up_ne _ _ (by omega), va_up_ne _ _ (by omega), va_up_self]; rfl⟩, ⟨g, va_up_self _ _ _⟩, ⟨f, by rw [va_up_ne _ _ (by omega), va_up_self]⟩, fun i h1 h2 h3 => by rw [va_up_ne _ _ h2, va_up_ne _ _ h3, va_up_ne _ _ h1]⟩
end bMix
