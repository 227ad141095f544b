/-! ===== the law from its entry ===== -/
theorem il_L_9 : Cond.methodLink RL 9 yX8_init ∈ gw_t := gw_mem 84 (by decide +kernel) (by decide +kernel)
theorem il_L_12 : Cond.methodLink RL 12 yX9_init ∈ gw_t := gw_mem 922 (by decide +kernel) (by decide +kernel)
def st_tm (i : Nat) : Term := Term.string (cx_strs.getD i ("", 0, "")).1 (cx_strs.getD i ("", 0, "")).2.1
def st_F : List Cond := flatC (Jvm.Cond.and given_1 narrow_1)
theorem st_ex : ∀ i, i < 14 → Cond.exactly (st_tm i) "java/lang/String" ∈ st_F := by decide +kernel
theorem st_co : ∀ i, i < 14 → Cond.eq (.field (st_tm i) "java/lang/String" "coder" "B") (.int 0) ∈ st_F := by decide +kernel
theorem st_ar : ∀ i, i < 14 → Cond.arrayOf (.field (st_tm i) "java/lang/String" "value" "[B") .byte ∈ st_F := by decide +kernel
theorem st_le : ∀ i, i < 14 → Cond.eq (.length (.field (st_tm i) "java/lang/String" "value" "[B")) (.int (Int32.ofNat (cx_len.getD i 0))) ∈ st_F := by decide +kernel
theorem st_e0 : (st_F.drop 63).take 53 = (List.range 53).map (fun j => Cond.eq (.elem (.field (st_tm 0) "java/lang/String" "value" "[B") (.int (Int32.ofNat j))) (.int ((cx_byt.getD 0 []).getD j 0))) := by decide +kernel
theorem st_e1 : (st_F.drop 120).take 6 = (List.range 6).map (fun j => Cond.eq (.elem (.field (st_tm 1) "java/lang/String" "value" "[B") (.int (Int32.ofNat j))) (.int ((cx_byt.getD 1 []).getD j 0))) := by decide +kernel
theorem st_e2 : (st_F.drop 131).take 6 = (List.range 6).map (fun j => Cond.eq (.elem (.field (st_tm 2) "java/lang/String" "value" "[B") (.int (Int32.ofNat j))) (.int ((cx_byt.getD 2 []).getD j 0))) := by decide +kernel
theorem st_e3 : (st_F.drop 143).take 4 = (List.range 4).map (fun j => Cond.eq (.elem (.field (st_tm 3) "java/lang/String" "value" "[B") (.int (Int32.ofNat j))) (.int ((cx_byt.getD 3 []).getD j 0))) := by decide +kernel
theorem st_e4 : (st_F.drop 154).take 4 = (List.range 4).map (fun j => Cond.eq (.elem (.field (st_tm 4) "java/lang/String" "value" "[B") (.int (Int32.ofNat j))) (.int ((cx_byt.getD 4 []).getD j 0))) := by decide +kernel
theorem st_e5 : (st_F.drop 166).take 3 = (List.range 3).map (fun j => Cond.eq (.elem (.field (st_tm 5) "java/lang/String" "value" "[B") (.int (Int32.ofNat j))) (.int ((cx_byt.getD 5 []).getD j 0))) := by decide +kernel
theorem st_e6 : (st_F.drop 178).take 4 = (List.range 4).map (fun j => Cond.eq (.elem (.field (st_tm 6) "java/lang/String" "value" "[B") (.int (Int32.ofNat j))) (.int ((cx_byt.getD 6 []).getD j 0))) := by decide +kernel
theorem st_e7 : (st_F.drop 192).take 5 = (List.range 5).map (fun j => Cond.eq (.elem (.field (st_tm 7) "java/lang/String" "value" "[B") (.int (Int32.ofNat j))) (.int ((cx_byt.getD 7 []).getD j 0))) := by decide +kernel
theorem st_e8 : (st_F.drop 208).take 5 = (List.range 5).map (fun j => Cond.eq (.elem (.field (st_tm 8) "java/lang/String" "value" "[B") (.int (Int32.ofNat j))) (.int ((cx_byt.getD 8 []).getD j 0))) := by decide +kernel
theorem st_e9 : (st_F.drop 225).take 5 = (List.range 5).map (fun j => Cond.eq (.elem (.field (st_tm 9) "java/lang/String" "value" "[B") (.int (Int32.ofNat j))) (.int ((cx_byt.getD 9 []).getD j 0))) := by decide +kernel
theorem st_e10 : (st_F.drop 243).take 2 = (List.range 2).map (fun j => Cond.eq (.elem (.field (st_tm 10) "java/lang/String" "value" "[B") (.int (Int32.ofNat j))) (.int ((cx_byt.getD 10 []).getD j 0))) := by decide +kernel
theorem st_e11 : (st_F.drop 259).take 3 = (List.range 3).map (fun j => Cond.eq (.elem (.field (st_tm 11) "java/lang/String" "value" "[B") (.int (Int32.ofNat j))) (.int ((cx_byt.getD 11 []).getD j 0))) := by decide +kernel
theorem st_e12 : (st_F.drop 277).take 3 = (List.range 3).map (fun j => Cond.eq (.elem (.field (st_tm 12) "java/lang/String" "value" "[B") (.int (Int32.ofNat j))) (.int ((cx_byt.getD 12 []).getD j 0))) := by decide +kernel
theorem st_e13 : (st_F.drop 296).take 8 = (List.range 8).map (fun j => Cond.eq (.elem (.field (st_tm 13) "java/lang/String" "value" "[B") (.int (Int32.ofNat j))) (.int ((cx_byt.getD 13 []).getD j 0))) := by decide +kernel
theorem st_sl {F : List Cond} {d n : Nat} {f : Nat → Cond} (h : (F.drop d).take n = (List.range n).map f) {j : Nat} (hj : j < n) : f j ∈ F := List.mem_of_mem_drop (List.mem_of_mem_take (by rw [h]; exact List.mem_map.mpr ⟨j, List.mem_range.mpr hj, rfl⟩))
theorem st_el : ∀ i, i < 14 → ∀ j, j < cx_len.getD i 0 → Cond.eq (.elem (.field (st_tm i) "java/lang/String" "value" "[B") (.int (Int32.ofNat j))) (.int ((cx_byt.getD i []).getD j 0)) ∈ st_F := by
  intro i hi j hj
  match i, hi with
  | 0, _ => exact st_sl st_e0 hj
  | 1, _ => exact st_sl st_e1 hj
  | 2, _ => exact st_sl st_e2 hj
  | 3, _ => exact st_sl st_e3 hj
  | 4, _ => exact st_sl st_e4 hj
  | 5, _ => exact st_sl st_e5 hj
  | 6, _ => exact st_sl st_e6 hj
  | 7, _ => exact st_sl st_e7 hj
  | 8, _ => exact st_sl st_e8 hj
  | 9, _ => exact st_sl st_e9 hj
  | 10, _ => exact st_sl st_e10 hj
  | 11, _ => exact st_sl st_e11 hj
  | 12, _ => exact st_sl st_e12 hj
  | 13, _ => exact st_sl st_e13 hj
  | i + 14, hi => exact absurd hi (by omega)
theorem st_n1 : (st_F.drop 126).take 1 = (List.range 1).map (fun a => Cond.not (Cond.eq (st_tm a) (st_tm 1))) := by decide +kernel
theorem st_n2 : (st_F.drop 137).take 2 = (List.range 2).map (fun a => Cond.not (Cond.eq (st_tm a) (st_tm 2))) := by decide +kernel
theorem st_n3 : (st_F.drop 147).take 3 = (List.range 3).map (fun a => Cond.not (Cond.eq (st_tm a) (st_tm 3))) := by decide +kernel
theorem st_n4 : (st_F.drop 158).take 4 = (List.range 4).map (fun a => Cond.not (Cond.eq (st_tm a) (st_tm 4))) := by decide +kernel
theorem st_n5 : (st_F.drop 169).take 5 = (List.range 5).map (fun a => Cond.not (Cond.eq (st_tm a) (st_tm 5))) := by decide +kernel
theorem st_n6 : (st_F.drop 182).take 6 = (List.range 6).map (fun a => Cond.not (Cond.eq (st_tm a) (st_tm 6))) := by decide +kernel
theorem st_n7 : (st_F.drop 197).take 7 = (List.range 7).map (fun a => Cond.not (Cond.eq (st_tm a) (st_tm 7))) := by decide +kernel
theorem st_n8 : (st_F.drop 213).take 8 = (List.range 8).map (fun a => Cond.not (Cond.eq (st_tm a) (st_tm 8))) := by decide +kernel
theorem st_n9 : (st_F.drop 230).take 9 = (List.range 9).map (fun a => Cond.not (Cond.eq (st_tm a) (st_tm 9))) := by decide +kernel
theorem st_n10 : (st_F.drop 245).take 10 = (List.range 10).map (fun a => Cond.not (Cond.eq (st_tm a) (st_tm 10))) := by decide +kernel
theorem st_n11 : (st_F.drop 262).take 11 = (List.range 11).map (fun a => Cond.not (Cond.eq (st_tm a) (st_tm 11))) := by decide +kernel
theorem st_n12 : (st_F.drop 280).take 12 = (List.range 12).map (fun a => Cond.not (Cond.eq (st_tm a) (st_tm 12))) := by decide +kernel
theorem st_n13 : (st_F.drop 304).take 13 = (List.range 13).map (fun a => Cond.not (Cond.eq (st_tm a) (st_tm 13))) := by decide +kernel
theorem st_nn : ∀ j, j < 14 → ∀ i, i < j → Cond.not (Cond.eq (st_tm i) (st_tm j)) ∈ st_F := by
  intro j hj i hi
  match j, hj with
  | 0, _ => exact absurd hi (by omega)
  | 1, _ => exact st_sl (f := fun a => Cond.not (Cond.eq (st_tm a) (st_tm 1))) st_n1 hi
  | 2, _ => exact st_sl (f := fun a => Cond.not (Cond.eq (st_tm a) (st_tm 2))) st_n2 hi
  | 3, _ => exact st_sl (f := fun a => Cond.not (Cond.eq (st_tm a) (st_tm 3))) st_n3 hi
  | 4, _ => exact st_sl (f := fun a => Cond.not (Cond.eq (st_tm a) (st_tm 4))) st_n4 hi
  | 5, _ => exact st_sl (f := fun a => Cond.not (Cond.eq (st_tm a) (st_tm 5))) st_n5 hi
  | 6, _ => exact st_sl (f := fun a => Cond.not (Cond.eq (st_tm a) (st_tm 6))) st_n6 hi
  | 7, _ => exact st_sl (f := fun a => Cond.not (Cond.eq (st_tm a) (st_tm 7))) st_n7 hi
  | 8, _ => exact st_sl (f := fun a => Cond.not (Cond.eq (st_tm a) (st_tm 8))) st_n8 hi
  | 9, _ => exact st_sl (f := fun a => Cond.not (Cond.eq (st_tm a) (st_tm 9))) st_n9 hi
  | 10, _ => exact st_sl (f := fun a => Cond.not (Cond.eq (st_tm a) (st_tm 10))) st_n10 hi
  | 11, _ => exact st_sl (f := fun a => Cond.not (Cond.eq (st_tm a) (st_tm 11))) st_n11 hi
  | 12, _ => exact st_sl (f := fun a => Cond.not (Cond.eq (st_tm a) (st_tm 12))) st_n12 hi
  | 13, _ => exact st_sl (f := fun a => Cond.not (Cond.eq (st_tm a) (st_tm 13))) st_n13 hi
  | j + 14, hj => exact absurd hj (by omega)
theorem st_ne : ∀ i, i < 14 → ∀ j, j < 14 → i ≠ j → Cond.not (Cond.eq (st_tm i) (st_tm j)) ∈ st_F ∨ Cond.not (Cond.eq (st_tm j) (st_tm i)) ∈ st_F := fun i hi j hj h => (Nat.lt_or_ge i j).elim (fun q => Or.inl (st_nn j hj i q)) (fun q => Or.inr (st_nn i hi j (by omega)))
theorem st_N : ∀ i, i < 14 → cx_len.getD i 0 < 2 ^ 31 := by decide +kernel
theorem st_cs : Cond.eq (.static "java/lang/String" "COMPACT_STRINGS" "Z") (.int 1) ∈ st_F := by decide +kernel
theorem st_sf : Cond.isRef (.static "jdk/internal/util/Preconditions" "SIOOBE_FORMATTER" "Ljava/util/function/BiFunction;") ∈ st_F := by decide +kernel
theorem st_rf : ∀ i, i < 14 → Cond.stringRef (cx_strs.getD i ("", 0, "")).1 (cx_strs.getD i ("", 0, "")).2.1 (cx_strs.getD i ("", 0, "")).2.2 ∈ lw_tbl := by
  intro i hi
  match i, hi with
  | 0, _ => exact List.mem_of_getElem? (i := 325) (by decide +kernel)
  | 1, _ => exact List.mem_of_getElem? (i := 393) (by decide +kernel)
  | 2, _ => exact List.mem_of_getElem? (i := 400) (by decide +kernel)
  | 3, _ => exact List.mem_of_getElem? (i := 401) (by decide +kernel)
  | 4, _ => exact List.mem_of_getElem? (i := 402) (by decide +kernel)
  | 5, _ => exact List.mem_of_getElem? (i := 403) (by decide +kernel)
  | 6, _ => exact List.mem_of_getElem? (i := 404) (by decide +kernel)
  | 7, _ => exact List.mem_of_getElem? (i := 405) (by decide +kernel)
  | 8, _ => exact List.mem_of_getElem? (i := 406) (by decide +kernel)
  | 9, _ => exact List.mem_of_getElem? (i := 407) (by decide +kernel)
  | 10, _ => exact List.mem_of_getElem? (i := 408) (by decide +kernel)
  | 11, _ => exact List.mem_of_getElem? (i := 409) (by decide +kernel)
  | 12, _ => exact List.mem_of_getElem? (i := 410) (by decide +kernel)
  | 13, _ => exact List.mem_of_getElem? (i := 418) (by decide +kernel)
  | i + 14, hi => exact absurd hi (by omega)
theorem st_l1 : Cond.laysStatic "java/lang/String" "COMPACT_STRINGS" "Z" ∈ lw_tbl := List.mem_of_getElem? (i := 335) (by decide +kernel)
theorem st_l2 : Cond.laysStatic "jdk/internal/util/Preconditions" "SIOOBE_FORMATTER" "Ljava/util/function/BiFunction;" ∈ lw_tbl := List.mem_of_getElem? (i := 351) (by decide +kernel)
theorem st_i1 : Cond.initialized "java/lang/String" ∈ lw_tbl := List.mem_of_getElem? (i := 70) (by decide +kernel)
theorem st_i2 : Cond.initialized "jdk/internal/util/Preconditions" ∈ lw_tbl := List.mem_of_getElem? (i := 72) (by decide +kernel)
theorem st_ao0 : Cond.arrayOver (.object "WhoSingsNext$Person") ∈ lw_tbl := List.mem_of_getElem? (i := 97) (by decide +kernel)
theorem st_ao1 : Cond.arrayOver (.object "WhoSingsNext$Slip") ∈ lw_tbl := List.mem_of_getElem? (i := 99) (by decide +kernel)
theorem st_ao2 : Cond.arrayOver (.object "WhoSingsNext$Text") ∈ lw_tbl := List.mem_of_getElem? (i := 227) (by decide +kernel)
theorem st_ao3 : Cond.arrayOver (.object "WhoSingsNext$Evening") ∈ lw_tbl := List.mem_of_getElem? (i := 299) (by decide +kernel)
theorem st_ao4 : Cond.arrayOver (.object "WhoSingsNext$Sheet") ∈ lw_tbl := List.mem_of_getElem? (i := 324) (by decide +kernel)
theorem st_cls : ∀ q ∈ vwCl, (∀ w ∈ u_ws q.1 q.2.1 q.2.2, w ∈ gw_t) ∧ Cond.instantiable q.1 q.2.2 ∈ gw_t := List.forall_mem_cons.mpr ⟨⟨in_X0, nu_X0.1⟩, List.forall_mem_cons.mpr ⟨⟨in_X1, nu_X1.1⟩, List.forall_mem_cons.mpr ⟨⟨in_X2, nu_X2.1⟩, List.forall_mem_cons.mpr ⟨⟨in_X3, nu_X3.1⟩, List.forall_mem_cons.mpr ⟨⟨in_X4, nu_X4.1⟩, List.forall_mem_cons.mpr ⟨⟨in_X5, nu_X5.1⟩, List.forall_mem_cons.mpr ⟨⟨in_X6, nu_X6.1⟩, List.forall_mem_cons.mpr ⟨⟨in_X7, nu_X7.1⟩, List.forall_mem_cons.mpr ⟨⟨in_X8, nu_X8.1⟩, List.forall_mem_cons.mpr ⟨⟨in_X9, nu_X9.1⟩, fun _ h => absurd h List.not_mem_nil⟩⟩⟩⟩⟩⟩⟩⟩⟩⟩
theorem st_lw {w : Cond} (h : w ∈ gw_t) : w ∈ lw_tbl := (List.mem_filter.mp h).1
theorem st_obj {s : State} {args : Array Value} {C : String} (h : (Cond.arrayOver (.object C)).before args s = true) : ∃ cA, ArrOfT s cA (.object C) ∧ va_RA s cA (.object C) := by
  obtain ⟨comp, c, k, h1, h2, h3, h4, h5⟩ := Cond.arrayOver_spec h
  exact ⟨c, fun N z => ⟨(fun k h => by cases h), k, h3, comp, h4⟩, k, comp, h3, h4, h1, h5⟩
theorem st_pri {s : State} {args : Array Value} {ty : FieldType} (hty : ty = .int ∨ ty = .boolean) (h : (Cond.arrayClass ty).before args s = true) : ∃ cA, ArrOfT s cA ty ∧ va_RA s cA ty := by
  obtain ⟨c, k, comp, h1, h2, h3⟩ := Cond.arrayClass_spec h
  rcases hty with rfl | rfl
  · exact ⟨c, fun n z => ⟨fun k h => (by cases h), k, h2, comp, h3⟩, h1⟩
  · exact ⟨c, fun n z => ⟨fun k h => (by cases h), k, h2, comp, h3⟩, h1⟩
theorem st_G {s : State} {b : Nat} (hts : ∀ w ∈ lw_tbl, w.before #[Value.ref b] s = true) (hgv : (Jvm.Cond.and given_1 narrow_1).before #[Value.ref b] s = true) : ∃ G : cx_T, cx_b G = s.heap.size ∧ cx_Ka G s := by
  have hfl : ∀ w ∈ st_F, w.before #[Value.ref b] s = true := flat_of_before _ hgv
  have hA : ∀ a : Nat, a < s.heap.size → ¬ (s.heap.size ≤ a) := fun a h q => by omega
  obtain ⟨adK, adV, hS, hev⟩ := vk_Sof (args := #[Value.ref b]) (s := s) (N := 14) (tm := st_tm) (len := cx_len) (byt := cx_byt) (A := fun q => s.heap.size ≤ q) st_N (fun i hi => hfl _ (st_ex i hi)) (fun i hi => hfl _ (st_co i hi)) (fun i hi => hfl _ (st_ar i hi)) (fun i hi => hfl _ (st_le i hi)) (fun i hi j hj => hfl _ (st_el i hi j hj)) (fun i j hi hj hij => (st_ne i hi j hj hij).imp (hfl _) (hfl _)) hA
  have hcl : ∀ k : Nat, ∃ d : ClassId × (Nat → Nat), ∀ q : vw_C, vwCl[k]? = some q → u_Kn s q.1 q.2.1 q.2.2 d.1 d.2 := by
    intro k
    cases hk : vwCl[k]? with
    | none => exact ⟨(0, fun _ => 0), fun q hq => by cases hq⟩
    | some q =>
      obtain ⟨hin, hinst⟩ := st_cls q (List.mem_of_getElem? hk)
      obtain ⟨cC, iS, hKn⟩ := u_known (C := q.1) (T := q.2.1) (N := q.2.2) (n := q.2.2) hts (fun w hw => st_lw (hin w hw)) (hts _ (st_lw hinst))
      exact ⟨(cC, iS), fun q' hq' => by cases hq'; exact hKn⟩
  obtain ⟨dd, hdd⟩ := Classical.axiomOfChoice hcl
  have har : ∀ ty ∈ ([.int, .boolean, .object "WhoSingsNext$Person", .object "WhoSingsNext$Slip", .object "WhoSingsNext$Text", .object "WhoSingsNext$Evening", .object "WhoSingsNext$Sheet"] : List FieldType), ∃ cA, ArrOfT s cA ty ∧ va_RA s cA ty :=
    List.forall_mem_cons.mpr ⟨st_pri (Or.inl rfl) (hts _ (st_lw ac_i)), List.forall_mem_cons.mpr ⟨st_pri (Or.inr rfl) (hts _ (st_lw ac_z)), List.forall_mem_cons.mpr ⟨st_obj (hts _ st_ao0), List.forall_mem_cons.mpr ⟨st_obj (hts _ st_ao1), List.forall_mem_cons.mpr ⟨st_obj (hts _ st_ao2), List.forall_mem_cons.mpr ⟨st_obj (hts _ st_ao3), List.forall_mem_cons.mpr ⟨st_obj (hts _ st_ao4), fun _ h => absurd h List.not_mem_nil⟩⟩⟩⟩⟩⟩⟩
  have har2 : ∀ k : Nat, ∃ cA : ClassId, ∀ ty, ([.int, .boolean, .object "WhoSingsNext$Person", .object "WhoSingsNext$Slip", .object "WhoSingsNext$Text", .object "WhoSingsNext$Evening", .object "WhoSingsNext$Sheet"] : List FieldType)[k]? = some ty → ArrOfT s cA ty ∧ va_RA s cA ty := by
    intro k
    cases hk : ([.int, .boolean, .object "WhoSingsNext$Person", .object "WhoSingsNext$Slip", .object "WhoSingsNext$Text", .object "WhoSingsNext$Evening", .object "WhoSingsNext$Sheet"] : List FieldType)[k]? with
    | none => exact ⟨0, fun q hq => by cases hq⟩
    | some q =>
      obtain ⟨cA, h⟩ := har q (List.mem_of_getElem? hk)
      exact ⟨cA, fun q' hq' => by cases hq'; exact h⟩
  obtain ⟨cA, hcA⟩ := Classical.axiomOfChoice har2
  refine ⟨((fun k => (dd k).1, fun k => (dd k).2), cA, s.heap.size, adK, adV), rfl, ⟨⟨fun c q hq => hdd c q hq, ?_⟩, hS, ?_, ?_, ?_, ?_⟩, ?_⟩
  · intro k q hk
    match k, hk with
    | 0, hk => cases hk; exact hcA 0 _ rfl
    | 1, hk => cases hk; exact hcA 1 _ rfl
    | 2, hk => cases hk; exact hcA 2 _ rfl
    | 3, hk => cases hk; exact hcA 3 _ rfl
    | 4, hk => cases hk; exact hcA 4 _ rfl
    | 5, hk => cases hk; exact hcA 5 _ rfl
    | 6, hk => cases hk; exact hcA 6 _ rfl
    | k + 7, hk => simp at hk
  · intro i r hr
    have hi : i < 14 := (List.getElem?_eq_some_iff.mp hr).1
    have hd : cx_strs.getD i ("", 0, "") = r := by rw [List.getD_eq_getElem?_getD, hr]; rfl
    have h1 := hts _ (st_rf i hi)
    have h2 := hev i hi
    unfold st_tm at h2
    rw [hd] at h1 h2
    exact vk_R.of h1 h2
  · exact va_Zof (hts _ st_l1) (hts _ st_i1) (va_eqt (hfl _ st_cs)) hA
  · exact va_Zqof (hts _ st_l2) (hts _ st_i2) (hfl _ st_sf) hA
  · intro w hw
    have hm := List.mem_filter.mp hw
    have hb := hts w hm.1
    have hi := hm.2
    cases w <;> first | exact va_Nw.of rfl hb | (exact absurd hi (by simp [nw_is]))
  · intro C hC
    simp only [cx_ao, List.mem_cons, List.not_mem_nil, or_false] at hC
    rcases hC with rfl | rfl | rfl | rfl | rfl
    · exact va_AO.of (hts _ st_ao0)
    · exact va_AO.of (hts _ st_ao1)
    · exact va_AO.of (hts _ st_ao2)
    · exact va_AO.of (hts _ st_ao3)
    · exact va_AO.of (hts _ st_ao4)
set_option maxRecDepth 100000 in
set_option maxHeartbeats 8000000 in
/-- the law, from its entry, for every state of which the simulations keep -/
theorem start_open {Inv : Nat → Nat → mm_T → mm_T → Prop} (sim : sm_all Inv) (hI0 : Inv 0 144 ci_C jc_C) {p : Program} {e : Env} {s : State} {m : MethodId} {below : List Frame} {meth : Method} {c : Code} (l : Launch) {b L : Nat} {xs : Nat → Int32} (hL : L ≤ 3072) (C0 : lw_At p s m meth c b L xs) : W p l e room_1 s m #[Value.ref b] below meth c s.heap [] 0 0 (lw_Z below #[Value.ref b] s) (entryFrame m ([Value.ref b] : List Value).toArray 4) := by
  obtain ⟨hx, hb, hr, hml, hown, hts, hX, hbl, hlocks, hgv⟩ := id C0
  obtain ⟨G, hG, hKa⟩ := st_G hts hgv
  have X : cx_oi G p s m #[Value.ref b] meth c cL_law 4 RL ret := ⟨⟨hx, hb, hml, hown, fun w h => hts w (st_lw h), hKa.1, hr, hlocks⟩, hKa.2⟩
  have hl := lv_entry ([.ref b]) (n := 4) (Nat.le_of_ble_eq_true rfl)
  rw [lg_entry_eq]
  generalize (lg_sl ([.ref b]) ++ List.replicate (4 - (lg_sl ([.ref b])).length) Slot.unset).toArray = ls at hl ⊢
  have hl : lv_has ls 4 [(0, .ref b)] := hl
  have S : sg_ok G 0 0 (va_up (fun _ => .inr (0, [])) 0 (.inr (8, [.null, .null, .int 0, .null, .null, .int 0, .null, .null, .null]))) s s.heap [] 0 := ⟨fun k q h => by simp [gm_W] at h, by rw [hG]; rfl, va_S.rf, rfl⟩
  obtain ⟨M, eM⟩ : ∃ z : Nat → va_E, z = va_up (fun _ => .inr (0, [])) 0 (.inr (8, [.null, .null, .int 0, .null, .null, .int 0, .null, .null, .null])) := ⟨_, rfl⟩
  rw [← eM] at S
  have f0 : M 0 = .inr (8, [.null, .null, .int 0, .null, .null, .int 0, .null, .null, .null]) := by rw [eM]; exact up_at rfl
  refine sg_new X S f0 (show vwCl[8]? = some (RX8, TX8, 9) from rfl) in_X8 tyX8 tyX8_ok kl_L_7 nu_X8.1 nu_X8.2 df_X8 (Nat.le_of_ble_eq_true rfl) (Nat.le_of_ble_eq_true rfl) dL_law_0 (fun H S => ?_)
  refine lv_dup X.1.1 X.1.2.1 dL_law_3 rfl ?_
  refine sg_callI (n1 := 122) (M1 := ly_cell G (mm_mx ci_C jc_z)) X S (k_X8 f0) rfl il_L_9 ii_X8_init.1 ii_X8_init.2 cw_X8_init rfl iy_X8_init ⟨rfl, rfl⟩ ⟨Nat.le_of_ble_eq_true rfl, Nat.le_of_ble_eq_true rfl⟩ rfl (rest := [.ref (cx_b G + 0)]) rfl hl.1 (Nat.le_of_ble_eq_true rfl) dL_law_4 ⟨Nat.le_of_ble_eq_true rfl, Nat.le_of_ble_eq_true rfl⟩ (fun H locs S => ?_)
  refine lv_astore_n (lv' := [(1, .ref (cx_b G + ly_loc 8 0)), (0, .ref b)]) X.1.1 X.1.2.1 dL_law_7 rfl hl (by decide) rfl (fun ls hl => ?_)
  obtain ⟨M2, eM2⟩ : ∃ z : Nat → va_E, z = va_up (ly_cell G (mm_mx ci_C jc_z)) 122 (.inr (9, [.int 0, .null, .null, .int 0, .int 0, .null, .int 0, .null, .null, .int 0, .null, .null, .null, .null, .int 0, .int 0, .int 0, .int 0, .int 0, .int 0, .int 0, .int 0, .int 0, .int 0, .int 0, .int 0, .int 0, .int 0, .long 0, .int 0, .int 0, .int 0, .int 0, .int 0, .int 0, .int 0, .int 0, .null, .null, .int 0, .int 0, .null, .null, .null, .null, .int 0, .int 0, .int 0, .int 0, .int 0, .null, .null, .int 0, .int 0, .int 0, .int 0, .int 0, .null, .null, .null, .null])) := ⟨_, rfl⟩
  have S := S.to (M' := M2) (fun j hj => by rw [eM2, up_ne (by omega)])
  have f2 : M2 122 = .inr (9, [.int 0, .null, .null, .int 0, .int 0, .null, .int 0, .null, .null, .int 0, .null, .null, .null, .null, .int 0, .int 0, .int 0, .int 0, .int 0, .int 0, .int 0, .int 0, .int 0, .int 0, .int 0, .int 0, .int 0, .int 0, .long 0, .int 0, .int 0, .int 0, .int 0, .int 0, .int 0, .int 0, .int 0, .null, .null, .int 0, .int 0, .null, .null, .null, .null, .int 0, .int 0, .int 0, .int 0, .int 0, .null, .null, .int 0, .int 0, .int 0, .int 0, .int 0, .null, .null, .null, .null]) := by rw [eM2]; exact up_at rfl
  refine sg_new X S f2 (show vwCl[9]? = some (RX9, TX9, 61) from rfl) in_X9 tyX9 tyX9_ok kl_L_10 nu_X9.1 nu_X9.2 df_X9 (Nat.le_of_ble_eq_true rfl) (Nat.le_of_ble_eq_true rfl) dL_law_8 (fun H S => ?_)
  refine lv_dup X.1.1 X.1.2.1 dL_law_11 rfl ?_
  refine sg_callI (n1 := 144) (M1 := ly_cell G (mm_mx ci_C jc_C)) X S (k_X9 (I := ci_C) (J0 := jc_z) f2 (fun j hj => by rw [eM2, up_ne (by omega)])) rfl il_L_12 ii_X9_init.1 ii_X9_init.2 cw_X9_init rfl iy_X9_init ⟨rfl, rfl⟩ ⟨Nat.le_of_ble_eq_true rfl, Nat.le_of_ble_eq_true rfl⟩ rfl (rest := [.ref (cx_b G + 122)]) rfl hl.1 (Nat.le_of_ble_eq_true rfl) dL_law_12 ⟨Nat.le_of_ble_eq_true rfl, Nat.le_of_ble_eq_true rfl⟩ (fun H locs S => ?_)
  refine lv_astore_n (lv' := [(2, .ref (cx_b G + ly_loc 9 0)), (1, .ref (cx_b G + ly_loc 8 0)), (0, .ref b)]) X.1.1 X.1.2.1 dL_law_15 rfl hl (by decide) rfl (fun ls hl => ?_)
  refine lv_iconst (v := 0) X.1.1 X.1.2.1 dL_law_16 (by decide) ?_
  refine lv_istore_n (lv' := [(3, .int 0), (2, .ref (cx_b G + ly_loc 9 0)), (1, .ref (cx_b G + ly_loc 8 0)), (0, .ref b)]) X.1.1 X.1.2.1 dL_law_17 rfl hl (by decide) rfl (fun ls hl => ?_)
  refine sg_lg S (fun S => ?_)
  exact law_loop X hX hbl hG hL hr sim L 0 (by omega) (Nat.zero_le _) nI_0.symm hI0 S (lv_sub hl [0, 3, 2, 1] rfl) (Nat.le_of_ble_eq_true rfl) (Nat.le_of_ble_eq_true rfl)
