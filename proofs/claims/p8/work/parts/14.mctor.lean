/-- the reference's object: its arrays lie at keys 306 to 322 -/
abbrev mO (ad : Nat → Nat) (th ve wr cu dn : Int32) : va_E := .inr (7, [.int th, .ref (ad 306), .ref (ad 307), .ref (ad 308), .ref (ad 309), .ref (ad 310), .ref (ad 311), .ref (ad 312), .int ve, .ref (ad 313), .ref (ad 314), .ref (ad 315), .ref (ad 316), .ref (ad 317), .int wr, .int cu, .int dn, .ref (ad 318), .ref (ad 319), .ref (ad 320), .ref (ad 321), .ref (ad 322)])
/-- counting down: behind nI 0 comes -1 -/
def bdn : Nat → Int32
  | 0 => -1
  | d + 1 => nI d
theorem b_dec (d : Nat) : nI d + Int32.ofInt (-1) = bdn d := by
  cases d with
  | zero => decide
  | succ n => exact pk_m1 n
def pr : Nat → Nat → Nat → Bool
  | 0, _, _ => true
  | f + 1, d, p => if p < d * d then true else if p % d = 0 then false else pr f (d + 1) p
section bMc
variable {p : Program} {l : Launch} {e : Env} {R : Room} {s : State} {m : MethodId} {args : Array Value} {below : List Frame} {meth : Method} {c : Code} {dd : bD} {A : Nat → Prop} {mc ms : Nat} {post : Option Value → (Nat → Nat) → (Nat → va_E) → Nat → Prop} {thr : String → (Nat → Nat) → (Nat → va_E) → Nat → Prop} {ad : Nat → Nat} {w : Nat → va_E} {N cells slots : Nat}
theorem lp_isPrime (C : bCx p R s m args meth c c_M_isPrime R_M 2 (some .boolean) [] dd A) {q : Nat} (hq : q ≤ 311)
    (hx : ∀ (b : Bool) (i : Int32), b = pr 20 2 q → bV p l e R s m args below meth c dd A 2 mc ms post thr (cond b 23 15) (bO [(0, .int (nI q)), (1, .int i)]) [] ad w N cells slots) :
    ∀ (f d : Nat), d + f = 22 → 2 ≤ d → pr f d q = pr 20 2 q → bV p l e R s m args below meth c dd A 2 mc ms post thr 2 (bO [(0, .int (nI q)), (1, .int (nI d))]) [] ad w N cells slots := by
  intro f
  induction f with
  | zero =>
    intro d hd h2 hp
    obtain rfl : d = 22 := by omega
    refine bv_iload_n 3 rfl C d_M_isPrime_2 rfl ?_
    refine bv_iload_n 4 rfl C d_M_isPrime_3 rfl ?_
    refine bv_imul 5 rfl C d_M_isPrime_4 ?_
    refine bv_seti (nI (22 * 22)) (pk_mul 22 22) ?_
    refine bv_iload_n 6 rfl C d_M_isPrime_5 rfl ?_
    refine bv_icmp_gt 23 9 rfl C d_M_isPrime_6 (by decide) (fun h => ?_) (fun h => absurd (nI_lt (by omega) (by decide)) h)
    exact hx true _ hp
  | succ f ih =>
    intro d hd h2 hp
    have hb : d * d < 2 ^ 31 := Nat.lt_of_le_of_lt (Nat.mul_le_mul (show d ≤ 22 by omega) (show d ≤ 22 by omega)) (by decide)
    refine bv_iload_n 3 rfl C d_M_isPrime_2 rfl ?_
    refine bv_iload_n 4 rfl C d_M_isPrime_3 rfl ?_
    refine bv_imul 5 rfl C d_M_isPrime_4 ?_
    refine bv_seti (nI (d * d)) (pk_mul d d) ?_
    refine bv_iload_n 6 rfl C d_M_isPrime_5 rfl ?_
    refine bv_icmp_gt 23 9 rfl C d_M_isPrime_6 (by decide) (fun h => ?_) (fun h => ?_)
    · rw [nI_ltI (by omega) hb] at h
      refine hx true _ ?_
      rw [← hp]
      simp [pr, h]
    · rw [nI_ltI (by omega) hb] at h
      refine bv_iload_n 10 rfl C d_M_isPrime_9 rfl ?_
      refine bv_iload_n 11 rfl C d_M_isPrime_10 rfl ?_
      refine bv_irem 12 rfl C d_M_isPrime_11 (nI_ne0 (by omega) (by omega)) ?_
      refine bv_seti (nI (q % d)) (pk_rem (by omega) (by omega) (by omega)) ?_
      refine bv_if_ne 17 15 rfl C d_M_isPrime_12 (by decide) (fun h' => ?_) (fun h' => ?_)
      · refine bv_iinc 20 rfl C d_M_isPrime_17 rfl (by first | exact b_inc _ | rfl) (by decide) ?_
        refine bv_goto 2 C d_M_isPrime_20 (by decide) ?_
        refine bv_wk [(0, .int (nI q)), (1, .int (nI (d + 1)))] ⟨rfl, rfl, trivial⟩ ?_
        refine ih (d + 1) (by omega) (by omega) ?_
        rw [← hp]
        have hne : ¬ q % d = 0 := fun hz => h' (by rw [hz]; rfl)
        conv => rhs; unfold pr
        simp [h, hne]
      · refine hx false _ ?_
        rw [← hp]
        have hz : q % d = 0 := (nI_eq (Nat.lt_of_le_of_lt (Nat.mod_le q d) (by omega)) (by decide)).mp h'
        simp [pr, h, hz]
theorem ct_M_isPrime {q : Nat} (hq : q ≤ 311) : bK l dd y_M_isPrime 0 0 0 0 [.int (nI q)] ad w N (bSame ad w N (fun v => v = some (.int (nI (cond (pr 20 2 q) 1 0))))) bNo := by
  refine bK.start [(0, .int (nI q))] (by decide) t3_97 (Nat.le_of_ble_eq_true rfl) rfl (fun p e s m args below meth c A hnm C => ?_)
  refine bv_iconst (v := nI 2) 1 rfl C d_M_isPrime_0 (by decide) ?_
  refine bv_istore_n 2 rfl C d_M_isPrime_1 (by decide) ?_
  refine bv_wk [(0, .int (nI q)), (1, .int (nI 2))] ⟨rfl, rfl, trivial⟩ ?_
  refine lp_isPrime C hq (fun b i hb => ?_) 20 2 rfl (Nat.le_refl _) rfl
  cases b with
  | true =>
    refine bv_iconst (v := nI 1) 24 rfl C d_M_isPrime_23 (by decide) ?_
    exact bv_zreturn C rfl (Or.inr rfl) d_M_isPrime_24 (Nat.le_refl _) (Nat.le_refl _) ⟨rfl, rfl, rfl, by rw [← hb]; rfl⟩
  | false =>
    refine bv_iconst (v := nI 0) 16 rfl C d_M_isPrime_15 (by decide) ?_
    exact bv_zreturn C rfl (Or.inl rfl) d_M_isPrime_16 (Nat.le_refl _) (Nat.le_refl _) ⟨rfl, rfl, rfl, by rw [← hb]; rfl⟩
end bMc
