section bLeaf
variable {l : Launch} {dd : bD} {ad : Nat → Nat} {w : Nat → va_E} {N : Nat}
/-- what a method that changes nothing answers -/
abbrev bSame (ad : Nat → Nat) (w : Nat → va_E) (N : Nat) (r : Option Value → Prop) : Option Value → (Nat → Nat) → (Nat → va_E) → Nat → Prop := fun v ad' w' N' => ad = ad' ∧ w = w' ∧ N = N' ∧ r v
abbrev bNo : String → (Nat → Nat) → (Nat → va_E) → Nat → Prop := fun _ _ _ _ => False
/-- Chunk.isFree -/
theorem ct_K_isFree {k aa : Nat} {len : Int32} {by_ : Int64} (hk : k < N) (hw : w k = .inr (0, [.int len, .long by_, .ref aa])) : bK l dd y_K_isFree 0 0 0 0 [.ref (ad k)] ad w N (bSame ad w N (fun v => v = some (.int (if len = 0 then nI 1 else nI 0)))) bNo := by
  refine bK.start [(0, .ref (ad k))] (by decide) t1_216 (Nat.le_of_ble_eq_true rfl) rfl (fun p e s m args below meth c A hnm C => ?_)
  refine bv_aload_n 1 rfl C d_K_isFree_0 rfl ?_
  refine bv_get k 0 4 rfl C k_K hk rfl hw (by decide) t1_84 rfl d_K_isFree_1 ?_
  refine bv_if_ne 11 7 rfl C d_K_isFree_4 (by decide) (fun h => ?_) (fun h => ?_)
  · refine bv_iconst (v := nI 0) 12 rfl C d_K_isFree_11 (by decide) ?_
    exact bv_zreturn C rfl (Or.inl rfl) d_K_isFree_12 (Nat.le_refl _) (Nat.le_refl _) ⟨rfl, rfl, rfl, by rw [if_neg h]⟩
  · refine bv_iconst (v := nI 1) 8 rfl C d_K_isFree_7 (by decide) ?_
    refine bv_goto 12 C d_K_isFree_8 (by decide) ?_
    exact bv_zreturn C rfl (Or.inr rfl) d_K_isFree_12 (Nat.le_refl _) (Nat.le_refl _) ⟨rfl, rfl, rfl, by rw [if_pos h]⟩
/-- Chunk.free -/
theorem ct_K_free {k aa : Nat} {len : Int32} {by_ : Int64} (hk : k < N) (hw : w k = .inr (0, [.int len, .long by_, .ref aa])) : bK l dd y_K_free 0 0 0 0 [.ref (ad k)] ad w N (fun v ad' w' N' => ad = ad' ∧ w' = va_up w k (.inr (0, [.int (nI 0), .long by_, .ref aa])) ∧ N = N' ∧ v = none) bNo := by
  refine bK.start [(0, .ref (ad k))] (by decide) t3_52 (Nat.le_of_ble_eq_true rfl) rfl (fun p e s m args below meth c A hnm C => ?_)
  refine bv_aload_n 1 rfl C d_K_free_0 rfl ?_
  refine bv_iconst (v := nI 0) 2 rfl C d_K_free_1 (by decide) ?_
  refine bv_put k 0 5 rfl C k_K hk rfl hw (by decide) t1_84 rfl rfl rfl (Nat.le_of_ble_eq_true rfl) d_K_free_2 ?_
  exact bv_return C rfl d_K_free_5 (Nat.le_refl _) (Nat.le_refl _) ⟨rfl, rfl, rfl, rfl⟩
/-- Sha256.turnRight -/
theorem ct_H_turnRight {x n : Int32} : bK l dd y_H_turnRight 0 0 0 0 [.int x, .int n] ad w N (bSame ad w N (fun v => ∃ y : Int32, v = some (.int y))) bNo := by
  refine bK.start [(0, .int x), (1, .int n)] (by decide) t2_18 (Nat.le_of_ble_eq_true rfl) rfl (fun p e s m args below meth c A hnm C => ?_)
  refine bv_iload_n 1 rfl C d_H_turnRight_0 rfl ?_
  refine bv_iload_n 2 rfl C d_H_turnRight_1 rfl ?_
  refine bv_iushr 3 rfl C d_H_turnRight_2 rfl ?_
  refine bv_iload_n 4 rfl C d_H_turnRight_3 rfl ?_
  refine bv_bipush (v := nI 32) 6 rfl C d_H_turnRight_4 (by decide) ?_
  refine bv_iload_n 7 rfl C d_H_turnRight_6 rfl ?_
  refine bv_isub 8 rfl C d_H_turnRight_7 ?_
  refine bv_ishl 9 rfl C d_H_turnRight_8 ?_
  refine bv_ior 10 rfl C d_H_turnRight_9 ?_
  exact bv_ireturn C rfl d_H_turnRight_10 (Nat.le_refl _) (Nat.le_refl _) ⟨rfl, rfl, rfl, _, rfl⟩
end bLeaf
