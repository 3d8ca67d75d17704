/-! the law's start: what the tables and the Statement give there -/
def bV0 : List Int32 := [1779033703, -1150833019, 1013904242, -1521486534, 1359893119, -1694144372, 528734635, 1541459225]
def bV1 : List Int32 := [1116352408, 1899447441, -1245643825, -373957723, 961987163, 1508970993, -1841331548, -1424204075, -670586216, 310598401, 607225278, 1426881987, 1925078388, -2132889090, -1680079193, -1046744716, -459576895, -272742522, 264347078, 604807628, 770255983, 1249150122, 1555081692, 1996064986, -1740746414, -1473132947, -1341970488, -1084653625, -958395405, -710438585, 113926993, 338241895, 666307205, 773529912, 1294757372, 1396182291, 1695183700, 1986661051, -2117940946, -1838011259, -1564481375, -1474664885, -1035236496, -949202525, -778901479, -694614492, -200395387, 275423344, 430227734, 506948616, 659060556, 883997877, 958139571, 1322822218, 1537002063, 1747873779, 1955562222, 2024104815, -2067236844, -1933114872, -1866530822, -1538233109, -1090935817, -965641998]
abbrev bTm (n : String) : Term := .static "BlobStore$Sha256" n "[I"
abbrev bGv : Cond := Jvm.Cond.and given_1 narrow_1
theorem bg_el0 : ∀ j, j < 8 → Cond.eq (.elem (bTm "FIRST_HASH") (.int (Int32.ofNat j))) (.int (bV0.getD j 0)) ∈ flatC bGv := by decide +kernel
theorem bg_el1 : ∀ j, j < 64 → Cond.eq (.elem (bTm "ROUND_WORDS") (.int (Int32.ofNat j))) (.int (bV1.getD j 0)) ∈ flatC bGv := by decide +kernel
theorem bg_ar0 : Cond.arrayOf (bTm "FIRST_HASH") .int ∈ flatC bGv ∧ Cond.eq (.length (bTm "FIRST_HASH")) (.int (Int32.ofNat 8)) ∈ flatC bGv := by decide +kernel
theorem bg_ar1 : Cond.arrayOf (bTm "ROUND_WORDS") .int ∈ flatC bGv ∧ Cond.eq (.length (bTm "ROUND_WORDS")) (.int (Int32.ofNat 64)) ∈ flatC bGv := by decide +kernel
theorem bg_ls0 : Cond.laysStatic "BlobStore$Sha256" "FIRST_HASH" "[I" ∈ tables_1 ∧ Cond.laysStatic "BlobStore$Sha256" "ROUND_WORDS" "[I" ∈ tables_1 := by decide +kernel
theorem bg_str : ∀ q ∈ bStr, Cond.stringRef q.1 q.2.1 q.2.2 ∈ tables_1 ∧ Cond.exactly (.string q.1 q.2.1) "java/lang/String" ∈ flatC bGv := by decide +kernel
theorem bg_zq : ∀ q ∈ bZq, Cond.laysStatic q.1 q.2.1 q.2.2 ∈ tables_1 ∧ Cond.isRef (.static q.1 q.2.1 q.2.2) ∈ flatC bGv := by decide +kernel
theorem bg_ncp : ∀ q ∈ bNcp, Cond.not (.castable q.1 q.2) ∈ flatC bGv := by decide +kernel
theorem bg_aov : ∀ q ∈ bAov, Cond.arrayOver (.object q) ∈ tables_1 := by decide +kernel
theorem bA_prim {args : Array Value} {s : State} {ty : FieldType} (h : (Cond.arrayClass ty).before args s = true) : ∃ cA, ArrOfT s cA ty ∧ s.vm.findClass ("[" ++ ty.toString) = some cA := by
  obtain ⟨cA, kA, comp, h1, h2, h3⟩ := Cond.arrayClass_spec h
  exact ⟨cA, fun n z => ⟨fun k h => (by cases h), kA, h2, comp, h3⟩, h1⟩
theorem bA_obj {args : Array Value} {s : State} {Cn : String} (h : (Cond.arrayOver (.object Cn)).before args s = true) : ∃ cA, ArrOfT s cA (.object Cn) ∧ va_RA s cA (.object Cn) := by
  obtain ⟨comp, c, k, h1, h2, h3, h4, h5⟩ := Cond.arrayOver_spec h
  exact ⟨c, fun n z => ⟨fun k h => (by cases h), k, h3, comp, h4⟩, k, comp, h3, h4, h1, h5⟩
theorem bLs.of {O n d : String} {A : Nat → Prop} {s : State} {args : Array Value} (hl : (Cond.laysStatic O n d).before args s = true) (hr : (Cond.isRef (.static O n d)).before args s = true) (hA : ∀ a : Nat, a < s.heap.size → ¬ A a) : bLs O n d A s s.heap := by
  obtain ⟨c, k, i, f, a, cell, hc, hi, hst, ha, hcell, hs, hcls, hlt, hty⟩ := Cond.laysStatic_spec hl
  obtain ⟨v, hv, hvr⟩ := Cond.isRef_spec hr
  obtain ⟨hst', a', cell', ha', hcell', -, hslot⟩ := Term.static_spec hi hv
  cases ha.symm.trans ha'
  cases hcell.symm.trans hcell'
  exact ⟨c, k, i, f, a, cell, ⟨v, hvr⟩, hc, hi, hst, ha, hty, hcell, hs, hcls, hlt, hslot, hA a (Array.getElem?_eq_some_iff.mp hcell).1⟩
theorem bcl_ok : ∀ q ∈ bCl, (∀ w ∈ u_ws q.1 q.2.1 q.2.2, w ∈ Tb) ∧ ∃ n, Cond.instantiable q.1 n ∈ Tb :=
  List.forall_mem_cons.mpr ⟨⟨k_K.2.1, _, t1_79⟩, List.forall_mem_cons.mpr ⟨⟨k_P.2.1, _, t1_29⟩, List.forall_mem_cons.mpr ⟨⟨k_R.2.1, _, t1_64⟩, List.forall_mem_cons.mpr ⟨⟨k_S.2.1, _, t1_96⟩, List.forall_mem_cons.mpr ⟨⟨k_H.2.1, _, t1_47⟩, List.forall_mem_cons.mpr ⟨⟨k_V.2.1, _, t1_122⟩, List.forall_mem_cons.mpr ⟨⟨k_B.2.1, _, t1_21⟩, List.forall_mem_cons.mpr ⟨⟨k_M.2.1, _, t3_90⟩, fun _ h => absurd h List.not_mem_nil⟩⟩⟩⟩⟩⟩⟩⟩
theorem bG.of {args : Array Value} {s : State} {A : Nat → Prop} (hts : ∀ w ∈ lw_tbl, w.before args s = true) (hg : bGv.before args s = true) (hA : ∀ a : Nat, a < s.heap.size → ¬ A a) : ∃ dd : bD, bG dd A s s.heap := by
  have hT : ∀ w ∈ tables_1, w.before args s = true := fun w hw => hts w (List.mem_append_right _ hw)
  have hB : ∀ w ∈ Tb, w.before args s = true := fun w hw => hts w (List.mem_filter.mp hw).1
  have hn := flat_of_before bGv hg
  have h0 : ∀ c : Nat, ∃ x : ClassId × (Nat → Nat), ∀ q, bCl[c]? = some q → u_Kn s q.1 q.2.1 q.2.2 x.1 x.2 := by
    intro c
    cases hq : bCl[c]? with
    | none => exact ⟨(0, fun _ => 0), fun q h => by cases h⟩
    | some q =>
      obtain ⟨h1, n, h2⟩ := bcl_ok q (List.mem_of_getElem? hq)
      obtain ⟨cC, iS, h3⟩ := u_known hB h1 (hB _ h2)
      exact ⟨(cC, iS), fun q' h => by cases h; exact h3⟩
  obtain ⟨D, hD⟩ := Classical.axiomOfChoice h0
  obtain ⟨a0, r0, f0⟩ := bA_prim (hB _ t1_56)
  obtain ⟨a1, r1, f1⟩ := bA_prim (hB _ t3_175)
  obtain ⟨a2, r2, f2⟩ := bA_prim (hB _ t3_174)
  obtain ⟨a3, r3, f3⟩ := bA_obj (hT _ (bg_aov R_K (by simp)))
  obtain ⟨a4, r4, f4⟩ := bA_obj (hT _ (bg_aov R_R (by simp)))
  obtain ⟨a5, r5, f5⟩ := bA_obj (hT _ (bg_aov R_S (by simp)))
  obtain ⟨a6, r6, f6⟩ := bA_obj (hT _ (bg_aov R_V (by simp)))
  obtain ⟨t0, e0, T0⟩ := va_Tof (A := A) (f := fun j => .int (bV0.getD j 0)) (N := 8) (by decide) (hn _ bg_ar0.1) (va_eqt (hn _ bg_ar0.2)) (fun j hj => va_eqt (hn _ (bg_el0 j hj))) hA
  obtain ⟨t1, e1, T1⟩ := va_Tof (A := A) (f := fun j => .int (bV1.getD j 0)) (N := 64) (by decide) (hn _ bg_ar1.1) (va_eqt (hn _ bg_ar1.2)) (fun j hj => va_eqt (hn _ (bg_el1 j hj))) hA
  have Z0 := va_Zof (A := A) (hT _ bg_ls0.1) (hB _ t1_3) e0 hA
  have Z1 := va_Zof (A := A) (hT _ bg_ls0.2) (hB _ t1_3) e1 hA
  refine ⟨((fun c => (D c).1, fun c => (D c).2), (fun k => match k with | 0 => a0 | 1 => a1 | 2 => a2 | 3 => a3 | 4 => a4 | 5 => a5 | _ => a6), (fun k => match k with | 0 => t0 | _ => t1), (fun k j => match k with | 0 => bV0.getD j 0 | _ => bV1.getD j 0)), ⟨fun c q h => hD c q h, fun k q h => ?_⟩, fun w hw => ?_, ?_, fun q hq => ?_, fun q hq => ?_, fun q hq => va_Nc.of (hn _ (bg_ncp q hq)), fun q hq => va_AO.of (hT _ (bg_aov q hq))⟩
  · have key : ∀ q ∈ bTys (fun k => match k with | 0 => a0 | 1 => a1 | 2 => a2 | 3 => a3 | 4 => a4 | 5 => a5 | _ => a6), ArrOfT s q.1 q.2 ∧ va_RA s q.1 q.2 :=
      List.forall_mem_cons.mpr ⟨⟨r0, f0⟩, List.forall_mem_cons.mpr ⟨⟨r1, f1⟩, List.forall_mem_cons.mpr ⟨⟨r2, f2⟩, List.forall_mem_cons.mpr ⟨⟨r3, f3⟩, List.forall_mem_cons.mpr ⟨⟨r4, f4⟩, List.forall_mem_cons.mpr ⟨⟨r5, f5⟩, List.forall_mem_cons.mpr ⟨⟨r6, f6⟩, fun _ h => absurd h List.not_mem_nil⟩⟩⟩⟩⟩⟩⟩
    exact key q (List.mem_of_getElem? h)
  · have hw2 := bNst_only w hw
    have hw3 := hT w (List.mem_filter.mp hw).1
    refine va_Nw.of ?_ hw3
    unfold bNestOnly at hw2
    split at hw2 <;> first | rfl | cases hw2
  · exact List.forall_mem_cons.mpr ⟨⟨Z0, T0⟩, List.forall_mem_cons.mpr ⟨⟨Z1, T1⟩, fun _ h => absurd h List.not_mem_nil⟩⟩
  · obtain ⟨a, c, cA, kA, q1, -⟩ := Cond.exactly_spec (args := args) (first := s) (o := none) (s := s) (idx := []) (hn _ (bg_str q hq).2)
    exact ⟨a, vk_R.of (hT _ (bg_str q hq).1) q1⟩
  · exact bLs.of (hT _ (bg_zq q hq).1) (hn _ (bg_zq q hq).2) hA
