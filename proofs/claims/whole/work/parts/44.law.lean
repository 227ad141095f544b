/-! ===== the law's loop ===== -/
def fu : Nat := 1000
section LAWD
variable (Inv : Nat → Nat → mm_T → mm_T → Prop)
def sm_come : Prop := ∀ (k n : Nat) (I J : mm_T) (p1 p2 : Int32), k ≤ 3072 → Inv k n I J → ∃ (z : mm_T × Int32) (v : mm_T × Int32), f_X8_come fu n I p1 p2 = some z ∧ f_X9_come fu J p1 p2 = some v ∧ z.2 = v.2 ∧ Inv (k + 6) n z.1 v.1
def sm_slip : Prop := ∀ (k n : Nat) (I J : mm_T) (p1 p2 p3 : Int32), k ≤ 3072 → Inv k n I J → ∃ (z : mm_T × Int32) (v : mm_T × Int32), f_X8_slip fu n I p1 p2 p3 = some z ∧ f_X9_slip fu J p1 p2 p3 = some v ∧ z.2 = v.2 ∧ Inv (k + 6) n z.1 v.1
def sm_set : Prop := ∀ (k n : Nat) (I J : mm_T) (p1 p2 p3 : Int32), k ≤ 3072 → Inv k n I J → ∃ (z : mm_T × Int32) (v : mm_T × Int32), f_X8_set fu n I p1 p2 p3 = some z ∧ f_X9_set fu J p1 p2 p3 = some v ∧ z.2 = v.2 ∧ Inv (k + 6) n z.1 v.1
def sm_told : Prop := ∀ (k n : Nat) (I J : mm_T) (p1 p2 : Int32), k ≤ 3072 → Inv k n I J → ∃ (z : Int32) (v : Int32), f_X8_told fu n I p1 p2 = some z ∧ f_X9_told fu J p1 p2 = some v ∧ z = v ∧ Inv (k + 6) n I J
def sm_feed : Prop := ∀ (k n : Nat) (I J : mm_T) (p1 : Int32), k ≤ 3072 → Inv k n I J → ∃ (z : mm_T × Int32) (v : mm_T × Int32), f_X8_feed fu n I p1 = some z ∧ f_X9_feed fu J p1 = some v ∧ z.2 = v.2 ∧ Inv (k + 6) n z.1 v.1
def sm_text : Prop := ∀ (k n : Nat) (I J : mm_T), k ≤ 3072 → Inv k n I J → ∃ (t : Nat) (z : mm_T × Int32 × Nat) (v : mm_T × Int32), md_at n t ∧ tx_f fu n t I = some z ∧ f_X9_text fu J = some v ∧ z.2.1 = v.2 ∧ Inv (k + 6) z.2.2 z.1 v.1
def sm_force : Prop := ∀ (k n : Nat) (I J : mm_T) (p1 : Int32), k ≤ 3072 → Inv k n I J → ∃ (z : mm_T × Int32) (v : mm_T × Int32), f_X8_force fu n I p1 = some z ∧ f_X9_force fu J p1 = some v ∧ z.2 = v.2 ∧ Inv (k + 6) n z.1 v.1
def sm_evening : Prop := ∀ (k n : Nat) (I J : mm_T) (p1 p2 : Int32), k ≤ 3072 → Inv k n I J → ∃ (z : mm_T × Int32) (v : mm_T × Int32), f_X8_evening fu n I p1 p2 = some z ∧ f_X9_evening fu J p1 p2 = some v ∧ z.2 = v.2 ∧ Inv (k + 6) n z.1 v.1
def sm_best : Prop := ∀ (k n : Nat) (I J : mm_T) (p1 p2 : Int32), k ≤ 3072 → Inv k n I J → ∃ (z : mm_T × Int32) (v : mm_T × Int32), f_X8_best fu n I p1 p2 = some z ∧ f_X9_best fu J p1 p2 = some v ∧ z.2 = v.2 ∧ Inv (k + 6) n z.1 v.1
def sm_desk : Prop := ∀ (k n : Nat) (I J : mm_T) (p1 : Int32), k ≤ 3072 → Inv k n I J → ∃ (z : mm_T × Int32) (v : mm_T × Int32), f_X8_desk fu n I p1 = some z ∧ f_X9_desk fu J p1 = some v ∧ z.2 = v.2 ∧ Inv (k + 6) n z.1 v.1
def sm_hold : Prop := ∀ (k n : Nat) (I J : mm_T) (p1 : Int32), k ≤ 3072 → Inv k n I J → ∃ (z : mm_T × Int32) (v : mm_T × Int32), f_X8_hold fu n I p1 = some z ∧ f_X9_hold fu J p1 = some v ∧ z.2 = v.2 ∧ Inv (k + 6) n z.1 v.1
def sm_wait : Prop := ∀ (k n : Nat) (I J : mm_T) (p1 : Int32), k ≤ 3072 → Inv k n I J → ∃ (z : mm_T × Int32) (v : mm_T × Int32), f_X8_wait fu n I p1 = some z ∧ f_X9_wait fu J p1 = some v ∧ z.2 = v.2 ∧ Inv (k + 6) n z.1 v.1
def sm_refuse : Prop := ∀ (k n : Nat) (I J : mm_T) (p1 : Int32), k ≤ 3072 → Inv k n I J → ∃ (z : mm_T × Int32) (v : mm_T × Int32), f_X8_refuse fu n I p1 = some z ∧ f_X9_refuse fu J p1 = some v ∧ z.2 = v.2 ∧ Inv (k + 6) n z.1 v.1
def sm_coin : Prop := ∀ (k n : Nat) (I J : mm_T) (p1 : Int32), k ≤ 3072 → Inv k n I J → ∃ (z : mm_T × Int32) (v : mm_T × Int32), f_X8_coin fu n I p1 = some z ∧ f_X9_coin fu J p1 = some v ∧ z.2 = v.2 ∧ Inv (k + 6) n z.1 v.1
def sm_harm : Prop := ∀ (k n : Nat) (I J : mm_T) (p1 : Int32), k ≤ 3072 → Inv k n I J → ∃ (z : mm_T × Int32) (v : mm_T × Int32), f_X8_harm fu n I p1 = some z ∧ f_X9_harm fu J p1 = some v ∧ z.2 = v.2 ∧ Inv (k + 6) n z.1 v.1
def sm_judge : Prop := ∀ (k n : Nat) (I J : mm_T) (p1 : Int32), k ≤ 3072 → Inv k n I J → ∃ (z : mm_T × Int32) (v : mm_T × Int32), f_X8_judge fu n I p1 = some z ∧ f_X9_judge fu J p1 = some v ∧ z.2 = v.2 ∧ Inv (k + 6) n z.1 v.1
def sm_which : Prop := ∀ (k n : Nat) (I J : mm_T) (p1 : Int32), k ≤ 3072 → Inv k n I J → ∃ (z : mm_T × Int32) (v : mm_T × Int32), f_X8_which fu n I p1 = some z ∧ f_X9_which fu J p1 = some v ∧ z.2 = v.2 ∧ Inv (k + 6) n z.1 v.1
def sm_behind : Prop := ∀ (k n : Nat) (I J : mm_T), k ≤ 3072 → Inv k n I J → ∃ (z : mm_T × Int32) (v : mm_T × Int32), f_X8_behind fu n I  = some z ∧ f_X9_behind fu J  = some v ∧ z.2 = v.2 ∧ Inv (k + 6) n z.1 v.1
def sm_drawn : Prop := ∀ (k n : Nat) (I J : mm_T) (p1 : Int32), k ≤ 3072 → Inv k n I J → ∃ (z : mm_T × Int32) (v : mm_T × Int32), f_X8_drawn fu n I p1 = some z ∧ f_X9_drawn fu J p1 = some v ∧ z.2 = v.2 ∧ Inv (k + 6) n z.1 v.1
def sm_chance : Prop := ∀ (k n : Nat) (I J : mm_T) (p1 p2 p3 : Int32), k ≤ 3072 → Inv k n I J → ∃ (z : mm_T × Int64) (v : mm_T × Int64), f_X8_chance fu n I p1 p2 p3 = some z ∧ f_X9_chance fu J p1 p2 p3 = some v ∧ z.2 = v.2 ∧ Inv (k + 6) n z.1 v.1
def sm_image : Prop := ∀ (k n : Nat) (I J : mm_T), k ≤ 3072 → Inv k n I J → ∃ (z : mm_T × Int32) (v : mm_T × Int32), f_X8_image fu n I  = some z ∧ f_X9_image fu J  = some v ∧ z.2 = v.2 ∧ Inv (k + 6) n z.1 v.1
def sm_back : Prop := ∀ (k n : Nat) (I J : mm_T), k ≤ 3072 → Inv k n I J → ∃ (z : mm_T × Int32) (v : mm_T × Int32), f_X8_back fu n I  = some z ∧ f_X9_back fu J  = some v ∧ z.2 = v.2 ∧ Inv (k + 6) n z.1 v.1
def sm_count : Prop := ∀ (k n : Nat) (I J : mm_T) (p1 : Int32), k ≤ 3072 → Inv k n I J → ∃ (z : Int32) (v : Int32), f_X8_count fu n I p1 = some z ∧ f_X9_count fu J p1 = some v ∧ z = v ∧ Inv (k + 6) n I J
def sm_sheet : Prop := ∀ (k n : Nat) (I J : mm_T) (p1 p2 p3 : Int32), k ≤ 3072 → Inv k n I J → ∃ (z : mm_T × Int32) (v : mm_T × Int32), f_X8_sheet fu n I p1 p2 p3 = some z ∧ f_X9_sheet fu J p1 p2 p3 = some v ∧ z.2 = v.2 ∧ Inv (k + 6) n z.1 v.1
def sm_cell : Prop := ∀ (k n : Nat) (I J : mm_T) (p1 p2 p3 : Int32), k ≤ 3072 → Inv k n I J → ∃ (z : mm_T × Int32) (v : mm_T × Int32), f_X8_cell fu n I p1 p2 p3 = some z ∧ f_X9_cell fu J p1 p2 p3 = some v ∧ z.2 = v.2 ∧ Inv (k + 6) n z.1 v.1
def sm_copy : Prop := ∀ (k n : Nat) (I J : mm_T) (p1 p2 p3 p4 p5 : Int32), k ≤ 3072 → Inv k n I J → ∃ (z : mm_T × Int32) (v : mm_T × Int32), f_X8_copy fu n I p1 p2 p3 p4 p5 = some z ∧ f_X9_copy fu J p1 p2 p3 p4 p5 = some v ∧ z.2 = v.2 ∧ Inv (k + 6) n z.1 v.1
def sm_slips : Prop := ∀ (k n : Nat) (I J : mm_T) (p1 p2 p3 p4 : Int32), k ≤ 3072 → Inv k n I J → ∃ (z : mm_T × Int32) (v : mm_T × Int32), f_X8_slips fu n I p1 p2 p3 p4 = some z ∧ f_X9_slips fu J p1 p2 p3 p4 = some v ∧ z.2 = v.2 ∧ Inv (k + 6) n z.1 v.1
def sm_taken : Prop := ∀ (k n : Nat) (I J : mm_T) (p1 p2 : Int32), k ≤ 3072 → Inv k n I J → ∃ (z : Int32) (v : Int32), f_X8_taken fu n I p1 p2 = some z ∧ f_X9_taken fu J p1 p2 = some v ∧ z = v ∧ Inv (k + 6) n I J
def sm_all : Prop := sm_come Inv ∧ sm_slip Inv ∧ sm_set Inv ∧ sm_told Inv ∧ sm_feed Inv ∧ sm_text Inv ∧ sm_force Inv ∧ sm_evening Inv ∧ sm_best Inv ∧ sm_desk Inv ∧ sm_hold Inv ∧ sm_wait Inv ∧ sm_refuse Inv ∧ sm_coin Inv ∧ sm_harm Inv ∧ sm_judge Inv ∧ sm_which Inv ∧ sm_behind Inv ∧ sm_drawn Inv ∧ sm_chance Inv ∧ sm_image Inv ∧ sm_back Inv ∧ sm_count Inv ∧ sm_sheet Inv ∧ sm_cell Inv ∧ sm_copy Inv ∧ sm_slips Inv ∧ sm_taken Inv ∧ (∀ (k n : Nat) (I J : mm_T), Inv k n I J → 144 ≤ n) ∧ ∀ (k n : Nat) (I J : mm_T), Inv k n I J → Inv (k + 6) n I J
end LAWD
set_option maxRecDepth 100000 in
set_option maxHeartbeats 4000000 in
theorem lc_come {l : Launch} {G : cx_T} {p : Program} {e : Env} {s : State} {m : MethodId} {below : List Frame} {meth : Method} {c : Code} {b L : Nat} {xs : Nat → Int32} (X : cx_oi G p s m #[Value.ref b] meth c cL_law 4 RL ret) (hX : va_X b L xs s s.heap) (hbl : b < s.heap.size) (hbs : cx_b G = s.heap.size) {Inv : Nat → Nat → mm_T → mm_T → Prop} (sim : sm_come Inv) (h144 : ∀ (k n : Nat) (I J : mm_T), Inv k n I J → 144 ≤ n) {x : Int32} {cb sb kq : Nat} (hkq : kq ≤ 3072) (hcb : cb + 3 ≤ 600000) (hsb : sb + 195 ≤ 7302250) (hv1 : vp_in (x + 1) L) (hv2 : vp_in (x + 2) L) (K : ∀ (n : Nat) (I J : mm_T) {H : Heap} {locs : List Loc} {ls : Array Slot} {cells slots : Nat}, Inv (kq + 6) n I J → lg_ok G n (ly_cell G (mm_mx I J)) s H locs → lv_has ls 4 [(3, .int x), (0, .ref b), (1, .ref (cx_b G + ly_loc 8 0)), (2, .ref (cx_b G + ly_loc 9 0))] → cells ≤ cb + 3 → slots ≤ sb + 195 → W p l e room_1 s m #[Value.ref b] below meth c H locs cells slots (lw_Z below #[Value.ref b] s) (F0 m 985 ls [])) {n : Nat} {I J : mm_T} (hI : Inv kq n I J) {H : Heap} {locs : List Loc} {ls : Array Slot} {cells slots : Nat} (S : lg_ok G n (ly_cell G (mm_mx I J)) s H locs) (hl : lv_has ls 4 [(3, .int x), (0, .ref b), (1, .ref (cx_b G + ly_loc 8 0)), (2, .ref (cx_b G + ly_loc 9 0))]) (hc : cells ≤ cb) (hs : slots ≤ sb) : W p l e room_1 s m #[Value.ref b] below meth c H locs cells slots (lw_Z below #[Value.ref b] s) (F0 m 160 ls []) := by
  have hn := h144 kq n I J hI
  have hn0 : 111 ≤ n := by omega
  have hcs : cells ≤ room_1.cells ∧ slots ≤ room_1.slots := ⟨by show cells ≤ 600000; omega, by show slots ≤ 7302250; omega⟩
  have o8 : ly_ok n 8 0 := ly_ok_8 (by decide) hn0
  have o9 : ly_ok n 9 0 := ly_ok_9 (by decide) hn
  have hbA : ¬ cx_A G b := by show ¬ cx_b G ≤ b; omega
  obtain ⟨z, v, e1, e2, e3, hI2⟩ := sim kq n I J (xs (x + 1).toNatClampNeg) (xs (x + 2).toNatClampNeg) hkq hI
  refine lv_aload_n X.1.1 X.1.2.1 dL_law_160 rfl (lv_at hl 2 rfl) ?_
  refine lv_aload_n X.1.1 X.1.2.1 dL_law_161 rfl (lv_at hl 1 rfl) ?_
  refine lv_iload_n X.1.1 X.1.2.1 dL_law_162 rfl (lv_at hl 0 rfl) ?_
  refine lv_iconst (v := 1) X.1.1 X.1.2.1 dL_law_163 (by decide) ?_
  refine lv_iadd X.1.1 X.1.2.1 dL_law_164 ?_
  refine va_sld (A := cx_A G) X.1.1 X.1.2.1 hX hbl hbA S.2.2.1 hv1 dL_law_165 ?_
  refine lv_aload_n X.1.1 X.1.2.1 dL_law_166 rfl (lv_at hl 1 rfl) ?_
  refine lv_iload_n X.1.1 X.1.2.1 dL_law_167 rfl (lv_at hl 0 rfl) ?_
  refine lv_iconst (v := 2) X.1.1 X.1.2.1 dL_law_168 (by decide) ?_
  refine lv_iadd X.1.1 X.1.2.1 dL_law_169 ?_
  refine va_sld (A := cx_A G) X.1.1 X.1.2.1 hX hbl hbA S.2.2.1 hv2 dL_law_170 ?_
  refine lg_Vi (I1 := z.1) (J1 := J) (r := z.2) (As := [.int (xs (x + 1).toNatClampNeg), .int (xs (x + 2).toNatClampNeg)]) (rest := []) X S (by omega) hcs (c_X8_come hn e1) gd_L_13 ⟨rfl, ny_X8_come⟩ ⟨rfl, rfl⟩ ⟨Nat.le_of_ble_eq_true rfl, Nat.le_of_ble_eq_true rfl⟩ (lg_recvL (k := 8) (i := 0) X S o8 rfl rfl) rfl rfl hl.1 (Nat.le_of_ble_eq_true rfl) dL_law_171 (fun H locs S => ?_)
  refine lv_aload_n X.1.1 X.1.2.1 dL_law_174 rfl (lv_at hl 3 rfl) ?_
  refine lv_aload_n X.1.1 X.1.2.1 dL_law_175 rfl (lv_at hl 1 rfl) ?_
  refine lv_iload_n X.1.1 X.1.2.1 dL_law_176 rfl (lv_at hl 0 rfl) ?_
  refine lv_iconst (v := 1) X.1.1 X.1.2.1 dL_law_177 (by decide) ?_
  refine lv_iadd X.1.1 X.1.2.1 dL_law_178 ?_
  refine va_sld (A := cx_A G) X.1.1 X.1.2.1 hX hbl hbA S.2.2.1 hv1 dL_law_179 ?_
  refine lv_aload_n X.1.1 X.1.2.1 dL_law_180 rfl (lv_at hl 1 rfl) ?_
  refine lv_iload_n X.1.1 X.1.2.1 dL_law_181 rfl (lv_at hl 0 rfl) ?_
  refine lv_iconst (v := 2) X.1.1 X.1.2.1 dL_law_182 (by decide) ?_
  refine lv_iadd X.1.1 X.1.2.1 dL_law_183 ?_
  refine va_sld (A := cx_A G) X.1.1 X.1.2.1 hX hbl hbA S.2.2.1 hv2 dL_law_184 ?_
  refine lg_Vi (I1 := z.1) (J1 := v.1) (r := v.2) (As := [.int (xs (x + 1).toNatClampNeg), .int (xs (x + 2).toNatClampNeg)]) (rest := [.int z.2]) X S (by omega) hcs (c_X9_come hn e2) gd_L_17 ⟨rfl, ny_X9_come⟩ ⟨rfl, rfl⟩ ⟨Nat.le_of_ble_eq_true rfl, Nat.le_of_ble_eq_true rfl⟩ (lg_recvL (k := 9) (i := 0) X S o9 rfl rfl) rfl rfl hl.1 (Nat.le_of_ble_eq_true rfl) dL_law_185 (fun H locs S => ?_)
  refine lv_icmp_eq (tgt := 985) X.1.1 X.1.2.1 dL_law_188 (by decide) (fun cq => ?_) (fun cq => absurd e3 (by first | exact cq | exact fun e => cq e))
  exact K n _ _ hI2 S hl (by omega) (by omega)
set_option maxRecDepth 100000 in
set_option maxHeartbeats 4000000 in
theorem lc_slip {l : Launch} {G : cx_T} {p : Program} {e : Env} {s : State} {m : MethodId} {below : List Frame} {meth : Method} {c : Code} {b L : Nat} {xs : Nat → Int32} (X : cx_oi G p s m #[Value.ref b] meth c cL_law 4 RL ret) (hX : va_X b L xs s s.heap) (hbl : b < s.heap.size) (hbs : cx_b G = s.heap.size) {Inv : Nat → Nat → mm_T → mm_T → Prop} (sim : sm_slip Inv) (h144 : ∀ (k n : Nat) (I J : mm_T), Inv k n I J → 144 ≤ n) {x : Int32} {cb sb kq : Nat} (hkq : kq ≤ 3072) (hcb : cb + 3 ≤ 600000) (hsb : sb + 195 ≤ 7302250) (hv1 : vp_in (x + 1) L) (hv2 : vp_in (x + 2) L) (hv3 : vp_in (x + 3) L) (K : ∀ (n : Nat) (I J : mm_T) {H : Heap} {locs : List Loc} {ls : Array Slot} {cells slots : Nat}, Inv (kq + 6) n I J → lg_ok G n (ly_cell G (mm_mx I J)) s H locs → lv_has ls 4 [(3, .int x), (0, .ref b), (1, .ref (cx_b G + ly_loc 8 0)), (2, .ref (cx_b G + ly_loc 9 0))] → cells ≤ cb + 3 → slots ≤ sb + 195 → W p l e room_1 s m #[Value.ref b] below meth c H locs cells slots (lw_Z below #[Value.ref b] s) (F0 m 985 ls [])) {n : Nat} {I J : mm_T} (hI : Inv kq n I J) {H : Heap} {locs : List Loc} {ls : Array Slot} {cells slots : Nat} (S : lg_ok G n (ly_cell G (mm_mx I J)) s H locs) (hl : lv_has ls 4 [(3, .int x), (0, .ref b), (1, .ref (cx_b G + ly_loc 8 0)), (2, .ref (cx_b G + ly_loc 9 0))]) (hc : cells ≤ cb) (hs : slots ≤ sb) : W p l e room_1 s m #[Value.ref b] below meth c H locs cells slots (lw_Z below #[Value.ref b] s) (F0 m 193 ls []) := by
  have hn := h144 kq n I J hI
  have hn0 : 111 ≤ n := by omega
  have hcs : cells ≤ room_1.cells ∧ slots ≤ room_1.slots := ⟨by show cells ≤ 600000; omega, by show slots ≤ 7302250; omega⟩
  have o8 : ly_ok n 8 0 := ly_ok_8 (by decide) hn0
  have o9 : ly_ok n 9 0 := ly_ok_9 (by decide) hn
  have hbA : ¬ cx_A G b := by show ¬ cx_b G ≤ b; omega
  obtain ⟨z, v, e1, e2, e3, hI2⟩ := sim kq n I J (xs (x + 1).toNatClampNeg) (xs (x + 2).toNatClampNeg) (xs (x + 3).toNatClampNeg) hkq hI
  refine lv_aload_n X.1.1 X.1.2.1 dL_law_193 rfl (lv_at hl 2 rfl) ?_
  refine lv_aload_n X.1.1 X.1.2.1 dL_law_194 rfl (lv_at hl 1 rfl) ?_
  refine lv_iload_n X.1.1 X.1.2.1 dL_law_195 rfl (lv_at hl 0 rfl) ?_
  refine lv_iconst (v := 1) X.1.1 X.1.2.1 dL_law_196 (by decide) ?_
  refine lv_iadd X.1.1 X.1.2.1 dL_law_197 ?_
  refine va_sld (A := cx_A G) X.1.1 X.1.2.1 hX hbl hbA S.2.2.1 hv1 dL_law_198 ?_
  refine lv_aload_n X.1.1 X.1.2.1 dL_law_199 rfl (lv_at hl 1 rfl) ?_
  refine lv_iload_n X.1.1 X.1.2.1 dL_law_200 rfl (lv_at hl 0 rfl) ?_
  refine lv_iconst (v := 2) X.1.1 X.1.2.1 dL_law_201 (by decide) ?_
  refine lv_iadd X.1.1 X.1.2.1 dL_law_202 ?_
  refine va_sld (A := cx_A G) X.1.1 X.1.2.1 hX hbl hbA S.2.2.1 hv2 dL_law_203 ?_
  refine lv_aload_n X.1.1 X.1.2.1 dL_law_204 rfl (lv_at hl 1 rfl) ?_
  refine lv_iload_n X.1.1 X.1.2.1 dL_law_205 rfl (lv_at hl 0 rfl) ?_
  refine lv_iconst (v := 3) X.1.1 X.1.2.1 dL_law_206 (by decide) ?_
  refine lv_iadd X.1.1 X.1.2.1 dL_law_207 ?_
  refine va_sld (A := cx_A G) X.1.1 X.1.2.1 hX hbl hbA S.2.2.1 hv3 dL_law_208 ?_
  refine lg_Vi (I1 := z.1) (J1 := J) (r := z.2) (As := [.int (xs (x + 1).toNatClampNeg), .int (xs (x + 2).toNatClampNeg), .int (xs (x + 3).toNatClampNeg)]) (rest := []) X S (by omega) hcs (c_X8_slip hn e1) gd_L_18 ⟨rfl, ny_X8_slip⟩ ⟨rfl, rfl⟩ ⟨Nat.le_of_ble_eq_true rfl, Nat.le_of_ble_eq_true rfl⟩ (lg_recvL (k := 8) (i := 0) X S o8 rfl rfl) rfl rfl hl.1 (Nat.le_of_ble_eq_true rfl) dL_law_209 (fun H locs S => ?_)
  refine lv_aload_n X.1.1 X.1.2.1 dL_law_212 rfl (lv_at hl 3 rfl) ?_
  refine lv_aload_n X.1.1 X.1.2.1 dL_law_213 rfl (lv_at hl 1 rfl) ?_
  refine lv_iload_n X.1.1 X.1.2.1 dL_law_214 rfl (lv_at hl 0 rfl) ?_
  refine lv_iconst (v := 1) X.1.1 X.1.2.1 dL_law_215 (by decide) ?_
  refine lv_iadd X.1.1 X.1.2.1 dL_law_216 ?_
  refine va_sld (A := cx_A G) X.1.1 X.1.2.1 hX hbl hbA S.2.2.1 hv1 dL_law_217 ?_
  refine lv_aload_n X.1.1 X.1.2.1 dL_law_218 rfl (lv_at hl 1 rfl) ?_
  refine lv_iload_n X.1.1 X.1.2.1 dL_law_219 rfl (lv_at hl 0 rfl) ?_
  refine lv_iconst (v := 2) X.1.1 X.1.2.1 dL_law_220 (by decide) ?_
  refine lv_iadd X.1.1 X.1.2.1 dL_law_221 ?_
  refine va_sld (A := cx_A G) X.1.1 X.1.2.1 hX hbl hbA S.2.2.1 hv2 dL_law_222 ?_
  refine lv_aload_n X.1.1 X.1.2.1 dL_law_223 rfl (lv_at hl 1 rfl) ?_
  refine lv_iload_n X.1.1 X.1.2.1 dL_law_224 rfl (lv_at hl 0 rfl) ?_
  refine lv_iconst (v := 3) X.1.1 X.1.2.1 dL_law_225 (by decide) ?_
  refine lv_iadd X.1.1 X.1.2.1 dL_law_226 ?_
  refine va_sld (A := cx_A G) X.1.1 X.1.2.1 hX hbl hbA S.2.2.1 hv3 dL_law_227 ?_
  refine lg_Vi (I1 := z.1) (J1 := v.1) (r := v.2) (As := [.int (xs (x + 1).toNatClampNeg), .int (xs (x + 2).toNatClampNeg), .int (xs (x + 3).toNatClampNeg)]) (rest := [.int z.2]) X S (by omega) hcs (c_X9_slip hn e2) gd_L_22 ⟨rfl, ny_X9_slip⟩ ⟨rfl, rfl⟩ ⟨Nat.le_of_ble_eq_true rfl, Nat.le_of_ble_eq_true rfl⟩ (lg_recvL (k := 9) (i := 0) X S o9 rfl rfl) rfl rfl hl.1 (Nat.le_of_ble_eq_true rfl) dL_law_228 (fun H locs S => ?_)
  refine lv_icmp_eq (tgt := 985) X.1.1 X.1.2.1 dL_law_231 (by decide) (fun cq => ?_) (fun cq => absurd e3 (by first | exact cq | exact fun e => cq e))
  exact K n _ _ hI2 S hl (by omega) (by omega)
set_option maxRecDepth 100000 in
set_option maxHeartbeats 4000000 in
theorem lc_set {l : Launch} {G : cx_T} {p : Program} {e : Env} {s : State} {m : MethodId} {below : List Frame} {meth : Method} {c : Code} {b L : Nat} {xs : Nat → Int32} (X : cx_oi G p s m #[Value.ref b] meth c cL_law 4 RL ret) (hX : va_X b L xs s s.heap) (hbl : b < s.heap.size) (hbs : cx_b G = s.heap.size) {Inv : Nat → Nat → mm_T → mm_T → Prop} (sim : sm_set Inv) (h144 : ∀ (k n : Nat) (I J : mm_T), Inv k n I J → 144 ≤ n) {x : Int32} {cb sb kq : Nat} (hkq : kq ≤ 3072) (hcb : cb + 3 ≤ 600000) (hsb : sb + 195 ≤ 7302250) (hv1 : vp_in (x + 1) L) (hv2 : vp_in (x + 2) L) (hv3 : vp_in (x + 3) L) (K : ∀ (n : Nat) (I J : mm_T) {H : Heap} {locs : List Loc} {ls : Array Slot} {cells slots : Nat}, Inv (kq + 6) n I J → lg_ok G n (ly_cell G (mm_mx I J)) s H locs → lv_has ls 4 [(3, .int x), (0, .ref b), (1, .ref (cx_b G + ly_loc 8 0)), (2, .ref (cx_b G + ly_loc 9 0))] → cells ≤ cb + 3 → slots ≤ sb + 195 → W p l e room_1 s m #[Value.ref b] below meth c H locs cells slots (lw_Z below #[Value.ref b] s) (F0 m 985 ls [])) {n : Nat} {I J : mm_T} (hI : Inv kq n I J) {H : Heap} {locs : List Loc} {ls : Array Slot} {cells slots : Nat} (S : lg_ok G n (ly_cell G (mm_mx I J)) s H locs) (hl : lv_has ls 4 [(3, .int x), (0, .ref b), (1, .ref (cx_b G + ly_loc 8 0)), (2, .ref (cx_b G + ly_loc 9 0))]) (hc : cells ≤ cb) (hs : slots ≤ sb) : W p l e room_1 s m #[Value.ref b] below meth c H locs cells slots (lw_Z below #[Value.ref b] s) (F0 m 236 ls []) := by
  have hn := h144 kq n I J hI
  have hn0 : 111 ≤ n := by omega
  have hcs : cells ≤ room_1.cells ∧ slots ≤ room_1.slots := ⟨by show cells ≤ 600000; omega, by show slots ≤ 7302250; omega⟩
  have o8 : ly_ok n 8 0 := ly_ok_8 (by decide) hn0
  have o9 : ly_ok n 9 0 := ly_ok_9 (by decide) hn
  have hbA : ¬ cx_A G b := by show ¬ cx_b G ≤ b; omega
  obtain ⟨z, v, e1, e2, e3, hI2⟩ := sim kq n I J (xs (x + 1).toNatClampNeg) (xs (x + 2).toNatClampNeg) (xs (x + 3).toNatClampNeg) hkq hI
  refine lv_aload_n X.1.1 X.1.2.1 dL_law_236 rfl (lv_at hl 2 rfl) ?_
  refine lv_aload_n X.1.1 X.1.2.1 dL_law_237 rfl (lv_at hl 1 rfl) ?_
  refine lv_iload_n X.1.1 X.1.2.1 dL_law_238 rfl (lv_at hl 0 rfl) ?_
  refine lv_iconst (v := 1) X.1.1 X.1.2.1 dL_law_239 (by decide) ?_
  refine lv_iadd X.1.1 X.1.2.1 dL_law_240 ?_
  refine va_sld (A := cx_A G) X.1.1 X.1.2.1 hX hbl hbA S.2.2.1 hv1 dL_law_241 ?_
  refine lv_aload_n X.1.1 X.1.2.1 dL_law_242 rfl (lv_at hl 1 rfl) ?_
  refine lv_iload_n X.1.1 X.1.2.1 dL_law_243 rfl (lv_at hl 0 rfl) ?_
  refine lv_iconst (v := 2) X.1.1 X.1.2.1 dL_law_244 (by decide) ?_
  refine lv_iadd X.1.1 X.1.2.1 dL_law_245 ?_
  refine va_sld (A := cx_A G) X.1.1 X.1.2.1 hX hbl hbA S.2.2.1 hv2 dL_law_246 ?_
  refine lv_aload_n X.1.1 X.1.2.1 dL_law_247 rfl (lv_at hl 1 rfl) ?_
  refine lv_iload_n X.1.1 X.1.2.1 dL_law_248 rfl (lv_at hl 0 rfl) ?_
  refine lv_iconst (v := 3) X.1.1 X.1.2.1 dL_law_249 (by decide) ?_
  refine lv_iadd X.1.1 X.1.2.1 dL_law_250 ?_
  refine va_sld (A := cx_A G) X.1.1 X.1.2.1 hX hbl hbA S.2.2.1 hv3 dL_law_251 ?_
  refine lg_Vi (I1 := z.1) (J1 := J) (r := z.2) (As := [.int (xs (x + 1).toNatClampNeg), .int (xs (x + 2).toNatClampNeg), .int (xs (x + 3).toNatClampNeg)]) (rest := []) X S (by omega) hcs (c_X8_set hn e1) gd_L_23 ⟨rfl, ny_X8_set⟩ ⟨rfl, rfl⟩ ⟨Nat.le_of_ble_eq_true rfl, Nat.le_of_ble_eq_true rfl⟩ (lg_recvL (k := 8) (i := 0) X S o8 rfl rfl) rfl rfl hl.1 (Nat.le_of_ble_eq_true rfl) dL_law_252 (fun H locs S => ?_)
  refine lv_aload_n X.1.1 X.1.2.1 dL_law_255 rfl (lv_at hl 3 rfl) ?_
  refine lv_aload_n X.1.1 X.1.2.1 dL_law_256 rfl (lv_at hl 1 rfl) ?_
  refine lv_iload_n X.1.1 X.1.2.1 dL_law_257 rfl (lv_at hl 0 rfl) ?_
  refine lv_iconst (v := 1) X.1.1 X.1.2.1 dL_law_258 (by decide) ?_
  refine lv_iadd X.1.1 X.1.2.1 dL_law_259 ?_
  refine va_sld (A := cx_A G) X.1.1 X.1.2.1 hX hbl hbA S.2.2.1 hv1 dL_law_260 ?_
  refine lv_aload_n X.1.1 X.1.2.1 dL_law_261 rfl (lv_at hl 1 rfl) ?_
  refine lv_iload_n X.1.1 X.1.2.1 dL_law_262 rfl (lv_at hl 0 rfl) ?_
  refine lv_iconst (v := 2) X.1.1 X.1.2.1 dL_law_263 (by decide) ?_
  refine lv_iadd X.1.1 X.1.2.1 dL_law_264 ?_
  refine va_sld (A := cx_A G) X.1.1 X.1.2.1 hX hbl hbA S.2.2.1 hv2 dL_law_265 ?_
  refine lv_aload_n X.1.1 X.1.2.1 dL_law_266 rfl (lv_at hl 1 rfl) ?_
  refine lv_iload_n X.1.1 X.1.2.1 dL_law_267 rfl (lv_at hl 0 rfl) ?_
  refine lv_iconst (v := 3) X.1.1 X.1.2.1 dL_law_268 (by decide) ?_
  refine lv_iadd X.1.1 X.1.2.1 dL_law_269 ?_
  refine va_sld (A := cx_A G) X.1.1 X.1.2.1 hX hbl hbA S.2.2.1 hv3 dL_law_270 ?_
  refine lg_Vi (I1 := z.1) (J1 := v.1) (r := v.2) (As := [.int (xs (x + 1).toNatClampNeg), .int (xs (x + 2).toNatClampNeg), .int (xs (x + 3).toNatClampNeg)]) (rest := [.int z.2]) X S (by omega) hcs (c_X9_set hn e2) gd_L_26 ⟨rfl, ny_X9_set⟩ ⟨rfl, rfl⟩ ⟨Nat.le_of_ble_eq_true rfl, Nat.le_of_ble_eq_true rfl⟩ (lg_recvL (k := 9) (i := 0) X S o9 rfl rfl) rfl rfl hl.1 (Nat.le_of_ble_eq_true rfl) dL_law_271 (fun H locs S => ?_)
  refine lv_icmp_eq (tgt := 985) X.1.1 X.1.2.1 dL_law_274 (by decide) (fun cq => ?_) (fun cq => absurd e3 (by first | exact cq | exact fun e => cq e))
  exact K n _ _ hI2 S hl (by omega) (by omega)
set_option maxRecDepth 100000 in
set_option maxHeartbeats 4000000 in
theorem lc_told {l : Launch} {G : cx_T} {p : Program} {e : Env} {s : State} {m : MethodId} {below : List Frame} {meth : Method} {c : Code} {b L : Nat} {xs : Nat → Int32} (X : cx_oi G p s m #[Value.ref b] meth c cL_law 4 RL ret) (hX : va_X b L xs s s.heap) (hbl : b < s.heap.size) (hbs : cx_b G = s.heap.size) {Inv : Nat → Nat → mm_T → mm_T → Prop} (sim : sm_told Inv) (h144 : ∀ (k n : Nat) (I J : mm_T), Inv k n I J → 144 ≤ n) {x : Int32} {cb sb kq : Nat} (hkq : kq ≤ 3072) (hcb : cb + 3 ≤ 600000) (hsb : sb + 195 ≤ 7302250) (hv1 : vp_in (x + 1) L) (hv2 : vp_in (x + 2) L) (K : ∀ (n : Nat) (I J : mm_T) {H : Heap} {locs : List Loc} {ls : Array Slot} {cells slots : Nat}, Inv (kq + 6) n I J → lg_ok G n (ly_cell G (mm_mx I J)) s H locs → lv_has ls 4 [(3, .int x), (0, .ref b), (1, .ref (cx_b G + ly_loc 8 0)), (2, .ref (cx_b G + ly_loc 9 0))] → cells ≤ cb + 3 → slots ≤ sb + 195 → W p l e room_1 s m #[Value.ref b] below meth c H locs cells slots (lw_Z below #[Value.ref b] s) (F0 m 985 ls [])) {n : Nat} {I J : mm_T} (hI : Inv kq n I J) {H : Heap} {locs : List Loc} {ls : Array Slot} {cells slots : Nat} (S : lg_ok G n (ly_cell G (mm_mx I J)) s H locs) (hl : lv_has ls 4 [(3, .int x), (0, .ref b), (1, .ref (cx_b G + ly_loc 8 0)), (2, .ref (cx_b G + ly_loc 9 0))]) (hc : cells ≤ cb) (hs : slots ≤ sb) : W p l e room_1 s m #[Value.ref b] below meth c H locs cells slots (lw_Z below #[Value.ref b] s) (F0 m 279 ls []) := by
  have hn := h144 kq n I J hI
  have hn0 : 111 ≤ n := by omega
  have hcs : cells ≤ room_1.cells ∧ slots ≤ room_1.slots := ⟨by show cells ≤ 600000; omega, by show slots ≤ 7302250; omega⟩
  have o8 : ly_ok n 8 0 := ly_ok_8 (by decide) hn0
  have o9 : ly_ok n 9 0 := ly_ok_9 (by decide) hn
  have hbA : ¬ cx_A G b := by show ¬ cx_b G ≤ b; omega
  obtain ⟨z, v, e1, e2, e3, hI2⟩ := sim kq n I J (xs (x + 1).toNatClampNeg) (xs (x + 2).toNatClampNeg) hkq hI
  refine lv_aload_n X.1.1 X.1.2.1 dL_law_279 rfl (lv_at hl 2 rfl) ?_
  refine lv_aload_n X.1.1 X.1.2.1 dL_law_280 rfl (lv_at hl 1 rfl) ?_
  refine lv_iload_n X.1.1 X.1.2.1 dL_law_281 rfl (lv_at hl 0 rfl) ?_
  refine lv_iconst (v := 1) X.1.1 X.1.2.1 dL_law_282 (by decide) ?_
  refine lv_iadd X.1.1 X.1.2.1 dL_law_283 ?_
  refine va_sld (A := cx_A G) X.1.1 X.1.2.1 hX hbl hbA S.2.2.1 hv1 dL_law_284 ?_
  refine lv_aload_n X.1.1 X.1.2.1 dL_law_285 rfl (lv_at hl 1 rfl) ?_
  refine lv_iload_n X.1.1 X.1.2.1 dL_law_286 rfl (lv_at hl 0 rfl) ?_
  refine lv_iconst (v := 2) X.1.1 X.1.2.1 dL_law_287 (by decide) ?_
  refine lv_iadd X.1.1 X.1.2.1 dL_law_288 ?_
  refine va_sld (A := cx_A G) X.1.1 X.1.2.1 hX hbl hbA S.2.2.1 hv2 dL_law_289 ?_
  refine lg_Vi (I1 := I) (J1 := J) (r := z) (As := [.int (xs (x + 1).toNatClampNeg), .int (xs (x + 2).toNatClampNeg)]) (rest := []) X S (by omega) hcs (c_X8_told hn e1) gd_L_27 ⟨rfl, ny_X8_told⟩ ⟨rfl, rfl⟩ ⟨Nat.le_of_ble_eq_true rfl, Nat.le_of_ble_eq_true rfl⟩ (lg_recvL (k := 8) (i := 0) X S o8 rfl rfl) rfl rfl hl.1 (Nat.le_of_ble_eq_true rfl) dL_law_290 (fun H locs S => ?_)
  refine lv_aload_n X.1.1 X.1.2.1 dL_law_293 rfl (lv_at hl 3 rfl) ?_
  refine lv_aload_n X.1.1 X.1.2.1 dL_law_294 rfl (lv_at hl 1 rfl) ?_
  refine lv_iload_n X.1.1 X.1.2.1 dL_law_295 rfl (lv_at hl 0 rfl) ?_
  refine lv_iconst (v := 1) X.1.1 X.1.2.1 dL_law_296 (by decide) ?_
  refine lv_iadd X.1.1 X.1.2.1 dL_law_297 ?_
  refine va_sld (A := cx_A G) X.1.1 X.1.2.1 hX hbl hbA S.2.2.1 hv1 dL_law_298 ?_
  refine lv_aload_n X.1.1 X.1.2.1 dL_law_299 rfl (lv_at hl 1 rfl) ?_
  refine lv_iload_n X.1.1 X.1.2.1 dL_law_300 rfl (lv_at hl 0 rfl) ?_
  refine lv_iconst (v := 2) X.1.1 X.1.2.1 dL_law_301 (by decide) ?_
  refine lv_iadd X.1.1 X.1.2.1 dL_law_302 ?_
  refine va_sld (A := cx_A G) X.1.1 X.1.2.1 hX hbl hbA S.2.2.1 hv2 dL_law_303 ?_
  refine lg_Vi (I1 := I) (J1 := J) (r := v) (As := [.int (xs (x + 1).toNatClampNeg), .int (xs (x + 2).toNatClampNeg)]) (rest := [.int z]) X S (by omega) hcs (c_X9_told hn e2) gd_L_30 ⟨rfl, ny_X9_told⟩ ⟨rfl, rfl⟩ ⟨Nat.le_of_ble_eq_true rfl, Nat.le_of_ble_eq_true rfl⟩ (lg_recvL (k := 9) (i := 0) X S o9 rfl rfl) rfl rfl hl.1 (Nat.le_of_ble_eq_true rfl) dL_law_304 (fun H locs S => ?_)
  refine lv_icmp_eq (tgt := 985) X.1.1 X.1.2.1 dL_law_307 (by decide) (fun cq => ?_) (fun cq => absurd e3 (by first | exact cq | exact fun e => cq e))
  exact K n _ _ hI2 S hl (by omega) (by omega)
set_option maxRecDepth 100000 in
set_option maxHeartbeats 4000000 in
theorem lc_feed {l : Launch} {G : cx_T} {p : Program} {e : Env} {s : State} {m : MethodId} {below : List Frame} {meth : Method} {c : Code} {b L : Nat} {xs : Nat → Int32} (X : cx_oi G p s m #[Value.ref b] meth c cL_law 4 RL ret) (hX : va_X b L xs s s.heap) (hbl : b < s.heap.size) (hbs : cx_b G = s.heap.size) {Inv : Nat → Nat → mm_T → mm_T → Prop} (sim : sm_feed Inv) (h144 : ∀ (k n : Nat) (I J : mm_T), Inv k n I J → 144 ≤ n) {x : Int32} {cb sb kq : Nat} (hkq : kq ≤ 3072) (hcb : cb + 3 ≤ 600000) (hsb : sb + 195 ≤ 7302250) (hv1 : vp_in (x + 1) L) (K : ∀ (n : Nat) (I J : mm_T) {H : Heap} {locs : List Loc} {ls : Array Slot} {cells slots : Nat}, Inv (kq + 6) n I J → lg_ok G n (ly_cell G (mm_mx I J)) s H locs → lv_has ls 4 [(3, .int x), (0, .ref b), (1, .ref (cx_b G + ly_loc 8 0)), (2, .ref (cx_b G + ly_loc 9 0))] → cells ≤ cb + 3 → slots ≤ sb + 195 → W p l e room_1 s m #[Value.ref b] below meth c H locs cells slots (lw_Z below #[Value.ref b] s) (F0 m 985 ls [])) {n : Nat} {I J : mm_T} (hI : Inv kq n I J) {H : Heap} {locs : List Loc} {ls : Array Slot} {cells slots : Nat} (S : lg_ok G n (ly_cell G (mm_mx I J)) s H locs) (hl : lv_has ls 4 [(3, .int x), (0, .ref b), (1, .ref (cx_b G + ly_loc 8 0)), (2, .ref (cx_b G + ly_loc 9 0))]) (hc : cells ≤ cb) (hs : slots ≤ sb) : W p l e room_1 s m #[Value.ref b] below meth c H locs cells slots (lw_Z below #[Value.ref b] s) (F0 m 312 ls []) := by
  have hn := h144 kq n I J hI
  have hn0 : 111 ≤ n := by omega
  have hcs : cells ≤ room_1.cells ∧ slots ≤ room_1.slots := ⟨by show cells ≤ 600000; omega, by show slots ≤ 7302250; omega⟩
  have o8 : ly_ok n 8 0 := ly_ok_8 (by decide) hn0
  have o9 : ly_ok n 9 0 := ly_ok_9 (by decide) hn
  have hbA : ¬ cx_A G b := by show ¬ cx_b G ≤ b; omega
  obtain ⟨z, v, e1, e2, e3, hI2⟩ := sim kq n I J (xs (x + 1).toNatClampNeg) hkq hI
  refine lv_aload_n X.1.1 X.1.2.1 dL_law_312 rfl (lv_at hl 2 rfl) ?_
  refine lv_aload_n X.1.1 X.1.2.1 dL_law_313 rfl (lv_at hl 1 rfl) ?_
  refine lv_iload_n X.1.1 X.1.2.1 dL_law_314 rfl (lv_at hl 0 rfl) ?_
  refine lv_iconst (v := 1) X.1.1 X.1.2.1 dL_law_315 (by decide) ?_
  refine lv_iadd X.1.1 X.1.2.1 dL_law_316 ?_
  refine va_sld (A := cx_A G) X.1.1 X.1.2.1 hX hbl hbA S.2.2.1 hv1 dL_law_317 ?_
  refine lg_Vi (I1 := z.1) (J1 := J) (r := z.2) (As := [.int (xs (x + 1).toNatClampNeg)]) (rest := []) X S (by omega) hcs (c_X8_feed hn e1) gd_L_31 ⟨rfl, ny_X8_feed⟩ ⟨rfl, rfl⟩ ⟨Nat.le_of_ble_eq_true rfl, Nat.le_of_ble_eq_true rfl⟩ (lg_recvL (k := 8) (i := 0) X S o8 rfl rfl) rfl rfl hl.1 (Nat.le_of_ble_eq_true rfl) dL_law_318 (fun H locs S => ?_)
  refine lv_aload_n X.1.1 X.1.2.1 dL_law_321 rfl (lv_at hl 3 rfl) ?_
  refine lv_aload_n X.1.1 X.1.2.1 dL_law_322 rfl (lv_at hl 1 rfl) ?_
  refine lv_iload_n X.1.1 X.1.2.1 dL_law_323 rfl (lv_at hl 0 rfl) ?_
  refine lv_iconst (v := 1) X.1.1 X.1.2.1 dL_law_324 (by decide) ?_
  refine lv_iadd X.1.1 X.1.2.1 dL_law_325 ?_
  refine va_sld (A := cx_A G) X.1.1 X.1.2.1 hX hbl hbA S.2.2.1 hv1 dL_law_326 ?_
  refine lg_Vi (I1 := z.1) (J1 := v.1) (r := v.2) (As := [.int (xs (x + 1).toNatClampNeg)]) (rest := [.int z.2]) X S (by omega) hcs (c_X9_feed hn e2) gd_L_35 ⟨rfl, ny_X9_feed⟩ ⟨rfl, rfl⟩ ⟨Nat.le_of_ble_eq_true rfl, Nat.le_of_ble_eq_true rfl⟩ (lg_recvL (k := 9) (i := 0) X S o9 rfl rfl) rfl rfl hl.1 (Nat.le_of_ble_eq_true rfl) dL_law_327 (fun H locs S => ?_)
  refine lv_icmp_eq (tgt := 985) X.1.1 X.1.2.1 dL_law_330 (by decide) (fun cq => ?_) (fun cq => absurd e3 (by first | exact cq | exact fun e => cq e))
  exact K n _ _ hI2 S hl (by omega) (by omega)
set_option maxRecDepth 100000 in
set_option maxHeartbeats 4000000 in
theorem lc_text {l : Launch} {G : cx_T} {p : Program} {e : Env} {s : State} {m : MethodId} {below : List Frame} {meth : Method} {c : Code} {b L : Nat} {xs : Nat → Int32} (X : cx_oi G p s m #[Value.ref b] meth c cL_law 4 RL ret) (hX : va_X b L xs s s.heap) (hbl : b < s.heap.size) (hbs : cx_b G = s.heap.size) {Inv : Nat → Nat → mm_T → mm_T → Prop} (sim : sm_text Inv) (h144 : ∀ (k n : Nat) (I J : mm_T), Inv k n I J → 144 ≤ n) {x : Int32} {cb sb kq : Nat} (hkq : kq ≤ 3072) (hcb : cb + 3 ≤ 600000) (hsb : sb + 195 ≤ 7302250) (K : ∀ (n : Nat) (I J : mm_T) {H : Heap} {locs : List Loc} {ls : Array Slot} {cells slots : Nat}, Inv (kq + 6) n I J → lg_ok G n (ly_cell G (mm_mx I J)) s H locs → lv_has ls 4 [(3, .int x), (0, .ref b), (1, .ref (cx_b G + ly_loc 8 0)), (2, .ref (cx_b G + ly_loc 9 0))] → cells ≤ cb + 3 → slots ≤ sb + 195 → W p l e room_1 s m #[Value.ref b] below meth c H locs cells slots (lw_Z below #[Value.ref b] s) (F0 m 985 ls [])) {n : Nat} {I J : mm_T} (hI : Inv kq n I J) {H : Heap} {locs : List Loc} {ls : Array Slot} {cells slots : Nat} (S : lg_ok G n (ly_cell G (mm_mx I J)) s H locs) (hl : lv_has ls 4 [(3, .int x), (0, .ref b), (1, .ref (cx_b G + ly_loc 8 0)), (2, .ref (cx_b G + ly_loc 9 0))]) (hc : cells ≤ cb) (hs : slots ≤ sb) : W p l e room_1 s m #[Value.ref b] below meth c H locs cells slots (lw_Z below #[Value.ref b] s) (F0 m 335 ls []) := by
  have hn := h144 kq n I J hI
  have hn0 : 111 ≤ n := by omega
  have hcs : cells ≤ room_1.cells ∧ slots ≤ room_1.slots := ⟨by show cells ≤ 600000; omega, by show slots ≤ 7302250; omega⟩
  have o8 : ly_ok n 8 0 := ly_ok_8 (by decide) hn0
  have o9 : ly_ok n 9 0 := ly_ok_9 (by decide) hn
  have hbA : ¬ cx_A G b := by show ¬ cx_b G ≤ b; omega
  obtain ⟨t, z, v, ht, e1, e2, e3, hI2⟩ := sim kq n I J hkq hI
  refine lv_aload_n X.1.1 X.1.2.1 dL_law_335 rfl (lv_at hl 2 rfl) ?_
  refine lg_Vc (M1 := ly_cell G (mm_mx z.1 J)) (n1 := z.2.2) (r := z.2.1) (As := []) (rest := []) X S (k_text ht hn e1) gd_L_36 ⟨rfl, ny_X8_text⟩ ⟨rfl, rfl⟩ ⟨Nat.le_of_ble_eq_true rfl, Nat.le_of_ble_eq_true rfl⟩ (lg_recvL (k := 8) (i := 0) X S o8 rfl rfl) rfl rfl hl.1 (Nat.le_of_ble_eq_true rfl) dL_law_336 ⟨by show cells + 3 ≤ 600000; omega, by show slots + 195 ≤ 7302250; omega⟩ (fun H locs S => ?_)
  have hn2 := h144 _ _ _ _ hI2
  have o9 : ly_ok z.2.2 9 0 := ly_ok_9 (by decide) hn2
  refine lv_aload_n X.1.1 X.1.2.1 dL_law_339 rfl (lv_at hl 3 rfl) ?_
  refine lg_Vi (I1 := z.1) (J1 := v.1) (r := v.2) (As := []) (rest := [.int z.2.1]) X S (by omega) ⟨by show cells + 3 ≤ 600000; omega, by show slots + 195 ≤ 7302250; omega⟩ (c_X9_text hn2 e2) gd_L_40 ⟨rfl, ny_X9_text⟩ ⟨rfl, rfl⟩ ⟨Nat.le_of_ble_eq_true rfl, Nat.le_of_ble_eq_true rfl⟩ (lg_recvL (k := 9) (i := 0) X S o9 rfl rfl) rfl rfl hl.1 (Nat.le_of_ble_eq_true rfl) dL_law_340 (fun H locs S => ?_)
  refine lv_icmp_eq (tgt := 985) X.1.1 X.1.2.1 dL_law_343 (by decide) (fun cq => ?_) (fun cq => absurd e3 (by first | exact cq | exact fun e => cq e))
  exact K z.2.2 _ _ hI2 S hl (by omega) (by omega)
set_option maxRecDepth 100000 in
set_option maxHeartbeats 4000000 in
theorem lc_force {l : Launch} {G : cx_T} {p : Program} {e : Env} {s : State} {m : MethodId} {below : List Frame} {meth : Method} {c : Code} {b L : Nat} {xs : Nat → Int32} (X : cx_oi G p s m #[Value.ref b] meth c cL_law 4 RL ret) (hX : va_X b L xs s s.heap) (hbl : b < s.heap.size) (hbs : cx_b G = s.heap.size) {Inv : Nat → Nat → mm_T → mm_T → Prop} (sim : sm_force Inv) (h144 : ∀ (k n : Nat) (I J : mm_T), Inv k n I J → 144 ≤ n) {x : Int32} {cb sb kq : Nat} (hkq : kq ≤ 3072) (hcb : cb + 3 ≤ 600000) (hsb : sb + 195 ≤ 7302250) (hv1 : vp_in (x + 1) L) (K : ∀ (n : Nat) (I J : mm_T) {H : Heap} {locs : List Loc} {ls : Array Slot} {cells slots : Nat}, Inv (kq + 6) n I J → lg_ok G n (ly_cell G (mm_mx I J)) s H locs → lv_has ls 4 [(3, .int x), (0, .ref b), (1, .ref (cx_b G + ly_loc 8 0)), (2, .ref (cx_b G + ly_loc 9 0))] → cells ≤ cb + 3 → slots ≤ sb + 195 → W p l e room_1 s m #[Value.ref b] below meth c H locs cells slots (lw_Z below #[Value.ref b] s) (F0 m 985 ls [])) {n : Nat} {I J : mm_T} (hI : Inv kq n I J) {H : Heap} {locs : List Loc} {ls : Array Slot} {cells slots : Nat} (S : lg_ok G n (ly_cell G (mm_mx I J)) s H locs) (hl : lv_has ls 4 [(3, .int x), (0, .ref b), (1, .ref (cx_b G + ly_loc 8 0)), (2, .ref (cx_b G + ly_loc 9 0))]) (hc : cells ≤ cb) (hs : slots ≤ sb) : W p l e room_1 s m #[Value.ref b] below meth c H locs cells slots (lw_Z below #[Value.ref b] s) (F0 m 348 ls []) := by
  have hn := h144 kq n I J hI
  have hn0 : 111 ≤ n := by omega
  have hcs : cells ≤ room_1.cells ∧ slots ≤ room_1.slots := ⟨by show cells ≤ 600000; omega, by show slots ≤ 7302250; omega⟩
  have o8 : ly_ok n 8 0 := ly_ok_8 (by decide) hn0
  have o9 : ly_ok n 9 0 := ly_ok_9 (by decide) hn
  have hbA : ¬ cx_A G b := by show ¬ cx_b G ≤ b; omega
  obtain ⟨z, v, e1, e2, e3, hI2⟩ := sim kq n I J (xs (x + 1).toNatClampNeg) hkq hI
  refine lv_aload_n X.1.1 X.1.2.1 dL_law_348 rfl (lv_at hl 2 rfl) ?_
  refine lv_aload_n X.1.1 X.1.2.1 dL_law_349 rfl (lv_at hl 1 rfl) ?_
  refine lv_iload_n X.1.1 X.1.2.1 dL_law_350 rfl (lv_at hl 0 rfl) ?_
  refine lv_iconst (v := 1) X.1.1 X.1.2.1 dL_law_351 (by decide) ?_
  refine lv_iadd X.1.1 X.1.2.1 dL_law_352 ?_
  refine va_sld (A := cx_A G) X.1.1 X.1.2.1 hX hbl hbA S.2.2.1 hv1 dL_law_353 ?_
  refine lg_Vi (I1 := z.1) (J1 := J) (r := z.2) (As := [.int (xs (x + 1).toNatClampNeg)]) (rest := []) X S (by omega) hcs (c_X8_force hn e1) gd_L_41 ⟨rfl, ny_X8_force⟩ ⟨rfl, rfl⟩ ⟨Nat.le_of_ble_eq_true rfl, Nat.le_of_ble_eq_true rfl⟩ (lg_recvL (k := 8) (i := 0) X S o8 rfl rfl) rfl rfl hl.1 (Nat.le_of_ble_eq_true rfl) dL_law_354 (fun H locs S => ?_)
  refine lv_aload_n X.1.1 X.1.2.1 dL_law_357 rfl (lv_at hl 3 rfl) ?_
  refine lv_aload_n X.1.1 X.1.2.1 dL_law_358 rfl (lv_at hl 1 rfl) ?_
  refine lv_iload_n X.1.1 X.1.2.1 dL_law_359 rfl (lv_at hl 0 rfl) ?_
  refine lv_iconst (v := 1) X.1.1 X.1.2.1 dL_law_360 (by decide) ?_
  refine lv_iadd X.1.1 X.1.2.1 dL_law_361 ?_
  refine va_sld (A := cx_A G) X.1.1 X.1.2.1 hX hbl hbA S.2.2.1 hv1 dL_law_362 ?_
  refine lg_Vi (I1 := z.1) (J1 := v.1) (r := v.2) (As := [.int (xs (x + 1).toNatClampNeg)]) (rest := [.int z.2]) X S (by omega) hcs (c_X9_force hn e2) gd_L_44 ⟨rfl, ny_X9_force⟩ ⟨rfl, rfl⟩ ⟨Nat.le_of_ble_eq_true rfl, Nat.le_of_ble_eq_true rfl⟩ (lg_recvL (k := 9) (i := 0) X S o9 rfl rfl) rfl rfl hl.1 (Nat.le_of_ble_eq_true rfl) dL_law_363 (fun H locs S => ?_)
  refine lv_icmp_eq (tgt := 985) X.1.1 X.1.2.1 dL_law_366 (by decide) (fun cq => ?_) (fun cq => absurd e3 (by first | exact cq | exact fun e => cq e))
  exact K n _ _ hI2 S hl (by omega) (by omega)
set_option maxRecDepth 100000 in
set_option maxHeartbeats 4000000 in
theorem lc_evening {l : Launch} {G : cx_T} {p : Program} {e : Env} {s : State} {m : MethodId} {below : List Frame} {meth : Method} {c : Code} {b L : Nat} {xs : Nat → Int32} (X : cx_oi G p s m #[Value.ref b] meth c cL_law 4 RL ret) (hX : va_X b L xs s s.heap) (hbl : b < s.heap.size) (hbs : cx_b G = s.heap.size) {Inv : Nat → Nat → mm_T → mm_T → Prop} (sim : sm_evening Inv) (h144 : ∀ (k n : Nat) (I J : mm_T), Inv k n I J → 144 ≤ n) {x : Int32} {cb sb kq : Nat} (hkq : kq ≤ 3072) (hcb : cb + 3 ≤ 600000) (hsb : sb + 195 ≤ 7302250) (hv1 : vp_in (x + 1) L) (hv2 : vp_in (x + 2) L) (K : ∀ (n : Nat) (I J : mm_T) {H : Heap} {locs : List Loc} {ls : Array Slot} {cells slots : Nat}, Inv (kq + 6) n I J → lg_ok G n (ly_cell G (mm_mx I J)) s H locs → lv_has ls 4 [(3, .int x), (0, .ref b), (1, .ref (cx_b G + ly_loc 8 0)), (2, .ref (cx_b G + ly_loc 9 0))] → cells ≤ cb + 3 → slots ≤ sb + 195 → W p l e room_1 s m #[Value.ref b] below meth c H locs cells slots (lw_Z below #[Value.ref b] s) (F0 m 985 ls [])) {n : Nat} {I J : mm_T} (hI : Inv kq n I J) {H : Heap} {locs : List Loc} {ls : Array Slot} {cells slots : Nat} (S : lg_ok G n (ly_cell G (mm_mx I J)) s H locs) (hl : lv_has ls 4 [(3, .int x), (0, .ref b), (1, .ref (cx_b G + ly_loc 8 0)), (2, .ref (cx_b G + ly_loc 9 0))]) (hc : cells ≤ cb) (hs : slots ≤ sb) : W p l e room_1 s m #[Value.ref b] below meth c H locs cells slots (lw_Z below #[Value.ref b] s) (F0 m 371 ls []) := by
  have hn := h144 kq n I J hI
  have hn0 : 111 ≤ n := by omega
  have hcs : cells ≤ room_1.cells ∧ slots ≤ room_1.slots := ⟨by show cells ≤ 600000; omega, by show slots ≤ 7302250; omega⟩
  have o8 : ly_ok n 8 0 := ly_ok_8 (by decide) hn0
  have o9 : ly_ok n 9 0 := ly_ok_9 (by decide) hn
  have hbA : ¬ cx_A G b := by show ¬ cx_b G ≤ b; omega
  obtain ⟨z, v, e1, e2, e3, hI2⟩ := sim kq n I J (xs (x + 1).toNatClampNeg) (xs (x + 2).toNatClampNeg) hkq hI
  refine lv_aload_n X.1.1 X.1.2.1 dL_law_371 rfl (lv_at hl 2 rfl) ?_
  refine lv_aload_n X.1.1 X.1.2.1 dL_law_372 rfl (lv_at hl 1 rfl) ?_
  refine lv_iload_n X.1.1 X.1.2.1 dL_law_373 rfl (lv_at hl 0 rfl) ?_
  refine lv_iconst (v := 1) X.1.1 X.1.2.1 dL_law_374 (by decide) ?_
  refine lv_iadd X.1.1 X.1.2.1 dL_law_375 ?_
  refine va_sld (A := cx_A G) X.1.1 X.1.2.1 hX hbl hbA S.2.2.1 hv1 dL_law_376 ?_
  refine lv_aload_n X.1.1 X.1.2.1 dL_law_377 rfl (lv_at hl 1 rfl) ?_
  refine lv_iload_n X.1.1 X.1.2.1 dL_law_378 rfl (lv_at hl 0 rfl) ?_
  refine lv_iconst (v := 2) X.1.1 X.1.2.1 dL_law_379 (by decide) ?_
  refine lv_iadd X.1.1 X.1.2.1 dL_law_380 ?_
  refine va_sld (A := cx_A G) X.1.1 X.1.2.1 hX hbl hbA S.2.2.1 hv2 dL_law_381 ?_
  refine lg_Vi (I1 := z.1) (J1 := J) (r := z.2) (As := [.int (xs (x + 1).toNatClampNeg), .int (xs (x + 2).toNatClampNeg)]) (rest := []) X S (by omega) hcs (c_X8_evening hn e1) gd_L_45 ⟨rfl, ny_X8_evening⟩ ⟨rfl, rfl⟩ ⟨Nat.le_of_ble_eq_true rfl, Nat.le_of_ble_eq_true rfl⟩ (lg_recvL (k := 8) (i := 0) X S o8 rfl rfl) rfl rfl hl.1 (Nat.le_of_ble_eq_true rfl) dL_law_382 (fun H locs S => ?_)
  refine lv_aload_n X.1.1 X.1.2.1 dL_law_385 rfl (lv_at hl 3 rfl) ?_
  refine lv_aload_n X.1.1 X.1.2.1 dL_law_386 rfl (lv_at hl 1 rfl) ?_
  refine lv_iload_n X.1.1 X.1.2.1 dL_law_387 rfl (lv_at hl 0 rfl) ?_
  refine lv_iconst (v := 1) X.1.1 X.1.2.1 dL_law_388 (by decide) ?_
  refine lv_iadd X.1.1 X.1.2.1 dL_law_389 ?_
  refine va_sld (A := cx_A G) X.1.1 X.1.2.1 hX hbl hbA S.2.2.1 hv1 dL_law_390 ?_
  refine lv_aload_n X.1.1 X.1.2.1 dL_law_391 rfl (lv_at hl 1 rfl) ?_
  refine lv_iload_n X.1.1 X.1.2.1 dL_law_392 rfl (lv_at hl 0 rfl) ?_
  refine lv_iconst (v := 2) X.1.1 X.1.2.1 dL_law_393 (by decide) ?_
  refine lv_iadd X.1.1 X.1.2.1 dL_law_394 ?_
  refine va_sld (A := cx_A G) X.1.1 X.1.2.1 hX hbl hbA S.2.2.1 hv2 dL_law_395 ?_
  refine lg_Vi (I1 := z.1) (J1 := v.1) (r := v.2) (As := [.int (xs (x + 1).toNatClampNeg), .int (xs (x + 2).toNatClampNeg)]) (rest := [.int z.2]) X S (by omega) hcs (c_X9_evening hn e2) gd_L_48 ⟨rfl, ny_X9_evening⟩ ⟨rfl, rfl⟩ ⟨Nat.le_of_ble_eq_true rfl, Nat.le_of_ble_eq_true rfl⟩ (lg_recvL (k := 9) (i := 0) X S o9 rfl rfl) rfl rfl hl.1 (Nat.le_of_ble_eq_true rfl) dL_law_396 (fun H locs S => ?_)
  refine lv_icmp_eq (tgt := 985) X.1.1 X.1.2.1 dL_law_399 (by decide) (fun cq => ?_) (fun cq => absurd e3 (by first | exact cq | exact fun e => cq e))
  exact K n _ _ hI2 S hl (by omega) (by omega)
set_option maxRecDepth 100000 in
set_option maxHeartbeats 4000000 in
theorem lc_best {l : Launch} {G : cx_T} {p : Program} {e : Env} {s : State} {m : MethodId} {below : List Frame} {meth : Method} {c : Code} {b L : Nat} {xs : Nat → Int32} (X : cx_oi G p s m #[Value.ref b] meth c cL_law 4 RL ret) (hX : va_X b L xs s s.heap) (hbl : b < s.heap.size) (hbs : cx_b G = s.heap.size) {Inv : Nat → Nat → mm_T → mm_T → Prop} (sim : sm_best Inv) (h144 : ∀ (k n : Nat) (I J : mm_T), Inv k n I J → 144 ≤ n) {x : Int32} {cb sb kq : Nat} (hkq : kq ≤ 3072) (hcb : cb + 3 ≤ 600000) (hsb : sb + 195 ≤ 7302250) (hv1 : vp_in (x + 1) L) (hv2 : vp_in (x + 2) L) (K : ∀ (n : Nat) (I J : mm_T) {H : Heap} {locs : List Loc} {ls : Array Slot} {cells slots : Nat}, Inv (kq + 6) n I J → lg_ok G n (ly_cell G (mm_mx I J)) s H locs → lv_has ls 4 [(3, .int x), (0, .ref b), (1, .ref (cx_b G + ly_loc 8 0)), (2, .ref (cx_b G + ly_loc 9 0))] → cells ≤ cb + 3 → slots ≤ sb + 195 → W p l e room_1 s m #[Value.ref b] below meth c H locs cells slots (lw_Z below #[Value.ref b] s) (F0 m 985 ls [])) {n : Nat} {I J : mm_T} (hI : Inv kq n I J) {H : Heap} {locs : List Loc} {ls : Array Slot} {cells slots : Nat} (S : lg_ok G n (ly_cell G (mm_mx I J)) s H locs) (hl : lv_has ls 4 [(3, .int x), (0, .ref b), (1, .ref (cx_b G + ly_loc 8 0)), (2, .ref (cx_b G + ly_loc 9 0))]) (hc : cells ≤ cb) (hs : slots ≤ sb) : W p l e room_1 s m #[Value.ref b] below meth c H locs cells slots (lw_Z below #[Value.ref b] s) (F0 m 404 ls []) := by
  have hn := h144 kq n I J hI
  have hn0 : 111 ≤ n := by omega
  have hcs : cells ≤ room_1.cells ∧ slots ≤ room_1.slots := ⟨by show cells ≤ 600000; omega, by show slots ≤ 7302250; omega⟩
  have o8 : ly_ok n 8 0 := ly_ok_8 (by decide) hn0
  have o9 : ly_ok n 9 0 := ly_ok_9 (by decide) hn
  have hbA : ¬ cx_A G b := by show ¬ cx_b G ≤ b; omega
  obtain ⟨z, v, e1, e2, e3, hI2⟩ := sim kq n I J (xs (x + 1).toNatClampNeg) (xs (x + 2).toNatClampNeg) hkq hI
  refine lv_aload_n X.1.1 X.1.2.1 dL_law_404 rfl (lv_at hl 2 rfl) ?_
  refine lv_aload_n X.1.1 X.1.2.1 dL_law_405 rfl (lv_at hl 1 rfl) ?_
  refine lv_iload_n X.1.1 X.1.2.1 dL_law_406 rfl (lv_at hl 0 rfl) ?_
  refine lv_iconst (v := 1) X.1.1 X.1.2.1 dL_law_407 (by decide) ?_
  refine lv_iadd X.1.1 X.1.2.1 dL_law_408 ?_
  refine va_sld (A := cx_A G) X.1.1 X.1.2.1 hX hbl hbA S.2.2.1 hv1 dL_law_409 ?_
  refine lv_aload_n X.1.1 X.1.2.1 dL_law_410 rfl (lv_at hl 1 rfl) ?_
  refine lv_iload_n X.1.1 X.1.2.1 dL_law_411 rfl (lv_at hl 0 rfl) ?_
  refine lv_iconst (v := 2) X.1.1 X.1.2.1 dL_law_412 (by decide) ?_
  refine lv_iadd X.1.1 X.1.2.1 dL_law_413 ?_
  refine va_sld (A := cx_A G) X.1.1 X.1.2.1 hX hbl hbA S.2.2.1 hv2 dL_law_414 ?_
  refine lg_Vi (I1 := z.1) (J1 := J) (r := z.2) (As := [.int (xs (x + 1).toNatClampNeg), .int (xs (x + 2).toNatClampNeg)]) (rest := []) X S (by omega) hcs (c_X8_best hn e1) gd_L_49 ⟨rfl, ny_X8_best⟩ ⟨rfl, rfl⟩ ⟨Nat.le_of_ble_eq_true rfl, Nat.le_of_ble_eq_true rfl⟩ (lg_recvL (k := 8) (i := 0) X S o8 rfl rfl) rfl rfl hl.1 (Nat.le_of_ble_eq_true rfl) dL_law_415 (fun H locs S => ?_)
  refine lv_aload_n X.1.1 X.1.2.1 dL_law_418 rfl (lv_at hl 3 rfl) ?_
  refine lv_aload_n X.1.1 X.1.2.1 dL_law_419 rfl (lv_at hl 1 rfl) ?_
  refine lv_iload_n X.1.1 X.1.2.1 dL_law_420 rfl (lv_at hl 0 rfl) ?_
  refine lv_iconst (v := 1) X.1.1 X.1.2.1 dL_law_421 (by decide) ?_
  refine lv_iadd X.1.1 X.1.2.1 dL_law_422 ?_
  refine va_sld (A := cx_A G) X.1.1 X.1.2.1 hX hbl hbA S.2.2.1 hv1 dL_law_423 ?_
  refine lv_aload_n X.1.1 X.1.2.1 dL_law_424 rfl (lv_at hl 1 rfl) ?_
  refine lv_iload_n X.1.1 X.1.2.1 dL_law_425 rfl (lv_at hl 0 rfl) ?_
  refine lv_iconst (v := 2) X.1.1 X.1.2.1 dL_law_426 (by decide) ?_
  refine lv_iadd X.1.1 X.1.2.1 dL_law_427 ?_
  refine va_sld (A := cx_A G) X.1.1 X.1.2.1 hX hbl hbA S.2.2.1 hv2 dL_law_428 ?_
  refine lg_Vi (I1 := z.1) (J1 := v.1) (r := v.2) (As := [.int (xs (x + 1).toNatClampNeg), .int (xs (x + 2).toNatClampNeg)]) (rest := [.int z.2]) X S (by omega) hcs (c_X9_best hn e2) gd_L_52 ⟨rfl, ny_X9_best⟩ ⟨rfl, rfl⟩ ⟨Nat.le_of_ble_eq_true rfl, Nat.le_of_ble_eq_true rfl⟩ (lg_recvL (k := 9) (i := 0) X S o9 rfl rfl) rfl rfl hl.1 (Nat.le_of_ble_eq_true rfl) dL_law_429 (fun H locs S => ?_)
  refine lv_icmp_eq (tgt := 985) X.1.1 X.1.2.1 dL_law_432 (by decide) (fun cq => ?_) (fun cq => absurd e3 (by first | exact cq | exact fun e => cq e))
  exact K n _ _ hI2 S hl (by omega) (by omega)
set_option maxRecDepth 100000 in
set_option maxHeartbeats 4000000 in
theorem lc_desk {l : Launch} {G : cx_T} {p : Program} {e : Env} {s : State} {m : MethodId} {below : List Frame} {meth : Method} {c : Code} {b L : Nat} {xs : Nat → Int32} (X : cx_oi G p s m #[Value.ref b] meth c cL_law 4 RL ret) (hX : va_X b L xs s s.heap) (hbl : b < s.heap.size) (hbs : cx_b G = s.heap.size) {Inv : Nat → Nat → mm_T → mm_T → Prop} (sim : sm_desk Inv) (h144 : ∀ (k n : Nat) (I J : mm_T), Inv k n I J → 144 ≤ n) {x : Int32} {cb sb kq : Nat} (hkq : kq ≤ 3072) (hcb : cb + 3 ≤ 600000) (hsb : sb + 195 ≤ 7302250) (hv1 : vp_in (x + 1) L) (K : ∀ (n : Nat) (I J : mm_T) {H : Heap} {locs : List Loc} {ls : Array Slot} {cells slots : Nat}, Inv (kq + 6) n I J → lg_ok G n (ly_cell G (mm_mx I J)) s H locs → lv_has ls 4 [(3, .int x), (0, .ref b), (1, .ref (cx_b G + ly_loc 8 0)), (2, .ref (cx_b G + ly_loc 9 0))] → cells ≤ cb + 3 → slots ≤ sb + 195 → W p l e room_1 s m #[Value.ref b] below meth c H locs cells slots (lw_Z below #[Value.ref b] s) (F0 m 985 ls [])) {n : Nat} {I J : mm_T} (hI : Inv kq n I J) {H : Heap} {locs : List Loc} {ls : Array Slot} {cells slots : Nat} (S : lg_ok G n (ly_cell G (mm_mx I J)) s H locs) (hl : lv_has ls 4 [(3, .int x), (0, .ref b), (1, .ref (cx_b G + ly_loc 8 0)), (2, .ref (cx_b G + ly_loc 9 0))]) (hc : cells ≤ cb) (hs : slots ≤ sb) : W p l e room_1 s m #[Value.ref b] below meth c H locs cells slots (lw_Z below #[Value.ref b] s) (F0 m 437 ls []) := by
  have hn := h144 kq n I J hI
  have hn0 : 111 ≤ n := by omega
  have hcs : cells ≤ room_1.cells ∧ slots ≤ room_1.slots := ⟨by show cells ≤ 600000; omega, by show slots ≤ 7302250; omega⟩
  have o8 : ly_ok n 8 0 := ly_ok_8 (by decide) hn0
  have o9 : ly_ok n 9 0 := ly_ok_9 (by decide) hn
  have hbA : ¬ cx_A G b := by show ¬ cx_b G ≤ b; omega
  obtain ⟨z, v, e1, e2, e3, hI2⟩ := sim kq n I J (xs (x + 1).toNatClampNeg) hkq hI
  refine lv_aload_n X.1.1 X.1.2.1 dL_law_437 rfl (lv_at hl 2 rfl) ?_
  refine lv_aload_n X.1.1 X.1.2.1 dL_law_438 rfl (lv_at hl 1 rfl) ?_
  refine lv_iload_n X.1.1 X.1.2.1 dL_law_439 rfl (lv_at hl 0 rfl) ?_
  refine lv_iconst (v := 1) X.1.1 X.1.2.1 dL_law_440 (by decide) ?_
  refine lv_iadd X.1.1 X.1.2.1 dL_law_441 ?_
  refine va_sld (A := cx_A G) X.1.1 X.1.2.1 hX hbl hbA S.2.2.1 hv1 dL_law_442 ?_
  refine lg_Vi (I1 := z.1) (J1 := J) (r := z.2) (As := [.int (xs (x + 1).toNatClampNeg)]) (rest := []) X S (by omega) hcs (c_X8_desk hn e1) gd_L_53 ⟨rfl, ny_X8_desk⟩ ⟨rfl, rfl⟩ ⟨Nat.le_of_ble_eq_true rfl, Nat.le_of_ble_eq_true rfl⟩ (lg_recvL (k := 8) (i := 0) X S o8 rfl rfl) rfl rfl hl.1 (Nat.le_of_ble_eq_true rfl) dL_law_443 (fun H locs S => ?_)
  refine lv_aload_n X.1.1 X.1.2.1 dL_law_446 rfl (lv_at hl 3 rfl) ?_
  refine lv_aload_n X.1.1 X.1.2.1 dL_law_447 rfl (lv_at hl 1 rfl) ?_
  refine lv_iload_n X.1.1 X.1.2.1 dL_law_448 rfl (lv_at hl 0 rfl) ?_
  refine lv_iconst (v := 1) X.1.1 X.1.2.1 dL_law_449 (by decide) ?_
  refine lv_iadd X.1.1 X.1.2.1 dL_law_450 ?_
  refine va_sld (A := cx_A G) X.1.1 X.1.2.1 hX hbl hbA S.2.2.1 hv1 dL_law_451 ?_
  refine lg_Vi (I1 := z.1) (J1 := v.1) (r := v.2) (As := [.int (xs (x + 1).toNatClampNeg)]) (rest := [.int z.2]) X S (by omega) hcs (c_X9_desk hn e2) gd_L_56 ⟨rfl, ny_X9_desk⟩ ⟨rfl, rfl⟩ ⟨Nat.le_of_ble_eq_true rfl, Nat.le_of_ble_eq_true rfl⟩ (lg_recvL (k := 9) (i := 0) X S o9 rfl rfl) rfl rfl hl.1 (Nat.le_of_ble_eq_true rfl) dL_law_452 (fun H locs S => ?_)
  refine lv_icmp_eq (tgt := 985) X.1.1 X.1.2.1 dL_law_455 (by decide) (fun cq => ?_) (fun cq => absurd e3 (by first | exact cq | exact fun e => cq e))
  exact K n _ _ hI2 S hl (by omega) (by omega)
set_option maxRecDepth 100000 in
set_option maxHeartbeats 4000000 in
theorem lc_hold {l : Launch} {G : cx_T} {p : Program} {e : Env} {s : State} {m : MethodId} {below : List Frame} {meth : Method} {c : Code} {b L : Nat} {xs : Nat → Int32} (X : cx_oi G p s m #[Value.ref b] meth c cL_law 4 RL ret) (hX : va_X b L xs s s.heap) (hbl : b < s.heap.size) (hbs : cx_b G = s.heap.size) {Inv : Nat → Nat → mm_T → mm_T → Prop} (sim : sm_hold Inv) (h144 : ∀ (k n : Nat) (I J : mm_T), Inv k n I J → 144 ≤ n) {x : Int32} {cb sb kq : Nat} (hkq : kq ≤ 3072) (hcb : cb + 3 ≤ 600000) (hsb : sb + 195 ≤ 7302250) (hv1 : vp_in (x + 1) L) (K : ∀ (n : Nat) (I J : mm_T) {H : Heap} {locs : List Loc} {ls : Array Slot} {cells slots : Nat}, Inv (kq + 6) n I J → lg_ok G n (ly_cell G (mm_mx I J)) s H locs → lv_has ls 4 [(3, .int x), (0, .ref b), (1, .ref (cx_b G + ly_loc 8 0)), (2, .ref (cx_b G + ly_loc 9 0))] → cells ≤ cb + 3 → slots ≤ sb + 195 → W p l e room_1 s m #[Value.ref b] below meth c H locs cells slots (lw_Z below #[Value.ref b] s) (F0 m 985 ls [])) {n : Nat} {I J : mm_T} (hI : Inv kq n I J) {H : Heap} {locs : List Loc} {ls : Array Slot} {cells slots : Nat} (S : lg_ok G n (ly_cell G (mm_mx I J)) s H locs) (hl : lv_has ls 4 [(3, .int x), (0, .ref b), (1, .ref (cx_b G + ly_loc 8 0)), (2, .ref (cx_b G + ly_loc 9 0))]) (hc : cells ≤ cb) (hs : slots ≤ sb) : W p l e room_1 s m #[Value.ref b] below meth c H locs cells slots (lw_Z below #[Value.ref b] s) (F0 m 460 ls []) := by
  have hn := h144 kq n I J hI
  have hn0 : 111 ≤ n := by omega
  have hcs : cells ≤ room_1.cells ∧ slots ≤ room_1.slots := ⟨by show cells ≤ 600000; omega, by show slots ≤ 7302250; omega⟩
  have o8 : ly_ok n 8 0 := ly_ok_8 (by decide) hn0
  have o9 : ly_ok n 9 0 := ly_ok_9 (by decide) hn
  have hbA : ¬ cx_A G b := by show ¬ cx_b G ≤ b; omega
  obtain ⟨z, v, e1, e2, e3, hI2⟩ := sim kq n I J (xs (x + 1).toNatClampNeg) hkq hI
  refine lv_aload_n X.1.1 X.1.2.1 dL_law_460 rfl (lv_at hl 2 rfl) ?_
  refine lv_aload_n X.1.1 X.1.2.1 dL_law_461 rfl (lv_at hl 1 rfl) ?_
  refine lv_iload_n X.1.1 X.1.2.1 dL_law_462 rfl (lv_at hl 0 rfl) ?_
  refine lv_iconst (v := 1) X.1.1 X.1.2.1 dL_law_463 (by decide) ?_
  refine lv_iadd X.1.1 X.1.2.1 dL_law_464 ?_
  refine va_sld (A := cx_A G) X.1.1 X.1.2.1 hX hbl hbA S.2.2.1 hv1 dL_law_465 ?_
  refine lg_Vi (I1 := z.1) (J1 := J) (r := z.2) (As := [.int (xs (x + 1).toNatClampNeg)]) (rest := []) X S (by omega) hcs (c_X8_hold hn e1) gd_L_57 ⟨rfl, ny_X8_hold⟩ ⟨rfl, rfl⟩ ⟨Nat.le_of_ble_eq_true rfl, Nat.le_of_ble_eq_true rfl⟩ (lg_recvL (k := 8) (i := 0) X S o8 rfl rfl) rfl rfl hl.1 (Nat.le_of_ble_eq_true rfl) dL_law_466 (fun H locs S => ?_)
  refine lv_aload_n X.1.1 X.1.2.1 dL_law_469 rfl (lv_at hl 3 rfl) ?_
  refine lv_aload_n X.1.1 X.1.2.1 dL_law_470 rfl (lv_at hl 1 rfl) ?_
  refine lv_iload_n X.1.1 X.1.2.1 dL_law_471 rfl (lv_at hl 0 rfl) ?_
  refine lv_iconst (v := 1) X.1.1 X.1.2.1 dL_law_472 (by decide) ?_
  refine lv_iadd X.1.1 X.1.2.1 dL_law_473 ?_
  refine va_sld (A := cx_A G) X.1.1 X.1.2.1 hX hbl hbA S.2.2.1 hv1 dL_law_474 ?_
  refine lg_Vi (I1 := z.1) (J1 := v.1) (r := v.2) (As := [.int (xs (x + 1).toNatClampNeg)]) (rest := [.int z.2]) X S (by omega) hcs (c_X9_hold hn e2) gd_L_60 ⟨rfl, ny_X9_hold⟩ ⟨rfl, rfl⟩ ⟨Nat.le_of_ble_eq_true rfl, Nat.le_of_ble_eq_true rfl⟩ (lg_recvL (k := 9) (i := 0) X S o9 rfl rfl) rfl rfl hl.1 (Nat.le_of_ble_eq_true rfl) dL_law_475 (fun H locs S => ?_)
  refine lv_icmp_eq (tgt := 985) X.1.1 X.1.2.1 dL_law_478 (by decide) (fun cq => ?_) (fun cq => absurd e3 (by first | exact cq | exact fun e => cq e))
  exact K n _ _ hI2 S hl (by omega) (by omega)
set_option maxRecDepth 100000 in
set_option maxHeartbeats 4000000 in
theorem lc_wait {l : Launch} {G : cx_T} {p : Program} {e : Env} {s : State} {m : MethodId} {below : List Frame} {meth : Method} {c : Code} {b L : Nat} {xs : Nat → Int32} (X : cx_oi G p s m #[Value.ref b] meth c cL_law 4 RL ret) (hX : va_X b L xs s s.heap) (hbl : b < s.heap.size) (hbs : cx_b G = s.heap.size) {Inv : Nat → Nat → mm_T → mm_T → Prop} (sim : sm_wait Inv) (h144 : ∀ (k n : Nat) (I J : mm_T), Inv k n I J → 144 ≤ n) {x : Int32} {cb sb kq : Nat} (hkq : kq ≤ 3072) (hcb : cb + 3 ≤ 600000) (hsb : sb + 195 ≤ 7302250) (hv1 : vp_in (x + 1) L) (K : ∀ (n : Nat) (I J : mm_T) {H : Heap} {locs : List Loc} {ls : Array Slot} {cells slots : Nat}, Inv (kq + 6) n I J → lg_ok G n (ly_cell G (mm_mx I J)) s H locs → lv_has ls 4 [(3, .int x), (0, .ref b), (1, .ref (cx_b G + ly_loc 8 0)), (2, .ref (cx_b G + ly_loc 9 0))] → cells ≤ cb + 3 → slots ≤ sb + 195 → W p l e room_1 s m #[Value.ref b] below meth c H locs cells slots (lw_Z below #[Value.ref b] s) (F0 m 985 ls [])) {n : Nat} {I J : mm_T} (hI : Inv kq n I J) {H : Heap} {locs : List Loc} {ls : Array Slot} {cells slots : Nat} (S : lg_ok G n (ly_cell G (mm_mx I J)) s H locs) (hl : lv_has ls 4 [(3, .int x), (0, .ref b), (1, .ref (cx_b G + ly_loc 8 0)), (2, .ref (cx_b G + ly_loc 9 0))]) (hc : cells ≤ cb) (hs : slots ≤ sb) : W p l e room_1 s m #[Value.ref b] below meth c H locs cells slots (lw_Z below #[Value.ref b] s) (F0 m 483 ls []) := by
  have hn := h144 kq n I J hI
  have hn0 : 111 ≤ n := by omega
  have hcs : cells ≤ room_1.cells ∧ slots ≤ room_1.slots := ⟨by show cells ≤ 600000; omega, by show slots ≤ 7302250; omega⟩
  have o8 : ly_ok n 8 0 := ly_ok_8 (by decide) hn0
  have o9 : ly_ok n 9 0 := ly_ok_9 (by decide) hn
  have hbA : ¬ cx_A G b := by show ¬ cx_b G ≤ b; omega
  obtain ⟨z, v, e1, e2, e3, hI2⟩ := sim kq n I J (xs (x + 1).toNatClampNeg) hkq hI
  refine lv_aload_n X.1.1 X.1.2.1 dL_law_483 rfl (lv_at hl 2 rfl) ?_
  refine lv_aload_n X.1.1 X.1.2.1 dL_law_484 rfl (lv_at hl 1 rfl) ?_
  refine lv_iload_n X.1.1 X.1.2.1 dL_law_485 rfl (lv_at hl 0 rfl) ?_
  refine lv_iconst (v := 1) X.1.1 X.1.2.1 dL_law_486 (by decide) ?_
  refine lv_iadd X.1.1 X.1.2.1 dL_law_487 ?_
  refine va_sld (A := cx_A G) X.1.1 X.1.2.1 hX hbl hbA S.2.2.1 hv1 dL_law_488 ?_
  refine lg_Vi (I1 := z.1) (J1 := J) (r := z.2) (As := [.int (xs (x + 1).toNatClampNeg)]) (rest := []) X S (by omega) hcs (c_X8_wait hn e1) gd_L_61 ⟨rfl, ny_X8_wait⟩ ⟨rfl, rfl⟩ ⟨Nat.le_of_ble_eq_true rfl, Nat.le_of_ble_eq_true rfl⟩ (lg_recvL (k := 8) (i := 0) X S o8 rfl rfl) rfl rfl hl.1 (Nat.le_of_ble_eq_true rfl) dL_law_489 (fun H locs S => ?_)
  refine lv_aload_n X.1.1 X.1.2.1 dL_law_492 rfl (lv_at hl 3 rfl) ?_
  refine lv_aload_n X.1.1 X.1.2.1 dL_law_493 rfl (lv_at hl 1 rfl) ?_
  refine lv_iload_n X.1.1 X.1.2.1 dL_law_494 rfl (lv_at hl 0 rfl) ?_
  refine lv_iconst (v := 1) X.1.1 X.1.2.1 dL_law_495 (by decide) ?_
  refine lv_iadd X.1.1 X.1.2.1 dL_law_496 ?_
  refine va_sld (A := cx_A G) X.1.1 X.1.2.1 hX hbl hbA S.2.2.1 hv1 dL_law_497 ?_
  refine lg_Vi (I1 := z.1) (J1 := v.1) (r := v.2) (As := [.int (xs (x + 1).toNatClampNeg)]) (rest := [.int z.2]) X S (by omega) hcs (c_X9_wait hn e2) gd_L_64 ⟨rfl, ny_X9_wait⟩ ⟨rfl, rfl⟩ ⟨Nat.le_of_ble_eq_true rfl, Nat.le_of_ble_eq_true rfl⟩ (lg_recvL (k := 9) (i := 0) X S o9 rfl rfl) rfl rfl hl.1 (Nat.le_of_ble_eq_true rfl) dL_law_498 (fun H locs S => ?_)
  refine lv_icmp_eq (tgt := 985) X.1.1 X.1.2.1 dL_law_501 (by decide) (fun cq => ?_) (fun cq => absurd e3 (by first | exact cq | exact fun e => cq e))
  exact K n _ _ hI2 S hl (by omega) (by omega)
set_option maxRecDepth 100000 in
set_option maxHeartbeats 4000000 in
theorem lc_refuse {l : Launch} {G : cx_T} {p : Program} {e : Env} {s : State} {m : MethodId} {below : List Frame} {meth : Method} {c : Code} {b L : Nat} {xs : Nat → Int32} (X : cx_oi G p s m #[Value.ref b] meth c cL_law 4 RL ret) (hX : va_X b L xs s s.heap) (hbl : b < s.heap.size) (hbs : cx_b G = s.heap.size) {Inv : Nat → Nat → mm_T → mm_T → Prop} (sim : sm_refuse Inv) (h144 : ∀ (k n : Nat) (I J : mm_T), Inv k n I J → 144 ≤ n) {x : Int32} {cb sb kq : Nat} (hkq : kq ≤ 3072) (hcb : cb + 3 ≤ 600000) (hsb : sb + 195 ≤ 7302250) (hv1 : vp_in (x + 1) L) (K : ∀ (n : Nat) (I J : mm_T) {H : Heap} {locs : List Loc} {ls : Array Slot} {cells slots : Nat}, Inv (kq + 6) n I J → lg_ok G n (ly_cell G (mm_mx I J)) s H locs → lv_has ls 4 [(3, .int x), (0, .ref b), (1, .ref (cx_b G + ly_loc 8 0)), (2, .ref (cx_b G + ly_loc 9 0))] → cells ≤ cb + 3 → slots ≤ sb + 195 → W p l e room_1 s m #[Value.ref b] below meth c H locs cells slots (lw_Z below #[Value.ref b] s) (F0 m 985 ls [])) {n : Nat} {I J : mm_T} (hI : Inv kq n I J) {H : Heap} {locs : List Loc} {ls : Array Slot} {cells slots : Nat} (S : lg_ok G n (ly_cell G (mm_mx I J)) s H locs) (hl : lv_has ls 4 [(3, .int x), (0, .ref b), (1, .ref (cx_b G + ly_loc 8 0)), (2, .ref (cx_b G + ly_loc 9 0))]) (hc : cells ≤ cb) (hs : slots ≤ sb) : W p l e room_1 s m #[Value.ref b] below meth c H locs cells slots (lw_Z below #[Value.ref b] s) (F0 m 506 ls []) := by
  have hn := h144 kq n I J hI
  have hn0 : 111 ≤ n := by omega
  have hcs : cells ≤ room_1.cells ∧ slots ≤ room_1.slots := ⟨by show cells ≤ 600000; omega, by show slots ≤ 7302250; omega⟩
  have o8 : ly_ok n 8 0 := ly_ok_8 (by decide) hn0
  have o9 : ly_ok n 9 0 := ly_ok_9 (by decide) hn
  have hbA : ¬ cx_A G b := by show ¬ cx_b G ≤ b; omega
  obtain ⟨z, v, e1, e2, e3, hI2⟩ := sim kq n I J (xs (x + 1).toNatClampNeg) hkq hI
  refine lv_aload_n X.1.1 X.1.2.1 dL_law_506 rfl (lv_at hl 2 rfl) ?_
  refine lv_aload_n X.1.1 X.1.2.1 dL_law_507 rfl (lv_at hl 1 rfl) ?_
  refine lv_iload_n X.1.1 X.1.2.1 dL_law_508 rfl (lv_at hl 0 rfl) ?_
  refine lv_iconst (v := 1) X.1.1 X.1.2.1 dL_law_509 (by decide) ?_
  refine lv_iadd X.1.1 X.1.2.1 dL_law_510 ?_
  refine va_sld (A := cx_A G) X.1.1 X.1.2.1 hX hbl hbA S.2.2.1 hv1 dL_law_511 ?_
  refine lg_Vi (I1 := z.1) (J1 := J) (r := z.2) (As := [.int (xs (x + 1).toNatClampNeg)]) (rest := []) X S (by omega) hcs (c_X8_refuse hn e1) gd_L_65 ⟨rfl, ny_X8_refuse⟩ ⟨rfl, rfl⟩ ⟨Nat.le_of_ble_eq_true rfl, Nat.le_of_ble_eq_true rfl⟩ (lg_recvL (k := 8) (i := 0) X S o8 rfl rfl) rfl rfl hl.1 (Nat.le_of_ble_eq_true rfl) dL_law_512 (fun H locs S => ?_)
  refine lv_aload_n X.1.1 X.1.2.1 dL_law_515 rfl (lv_at hl 3 rfl) ?_
  refine lv_aload_n X.1.1 X.1.2.1 dL_law_516 rfl (lv_at hl 1 rfl) ?_
  refine lv_iload_n X.1.1 X.1.2.1 dL_law_517 rfl (lv_at hl 0 rfl) ?_
  refine lv_iconst (v := 1) X.1.1 X.1.2.1 dL_law_518 (by decide) ?_
  refine lv_iadd X.1.1 X.1.2.1 dL_law_519 ?_
  refine va_sld (A := cx_A G) X.1.1 X.1.2.1 hX hbl hbA S.2.2.1 hv1 dL_law_520 ?_
  refine lg_Vi (I1 := z.1) (J1 := v.1) (r := v.2) (As := [.int (xs (x + 1).toNatClampNeg)]) (rest := [.int z.2]) X S (by omega) hcs (c_X9_refuse hn e2) gd_L_68 ⟨rfl, ny_X9_refuse⟩ ⟨rfl, rfl⟩ ⟨Nat.le_of_ble_eq_true rfl, Nat.le_of_ble_eq_true rfl⟩ (lg_recvL (k := 9) (i := 0) X S o9 rfl rfl) rfl rfl hl.1 (Nat.le_of_ble_eq_true rfl) dL_law_521 (fun H locs S => ?_)
  refine lv_icmp_eq (tgt := 985) X.1.1 X.1.2.1 dL_law_524 (by decide) (fun cq => ?_) (fun cq => absurd e3 (by first | exact cq | exact fun e => cq e))
  exact K n _ _ hI2 S hl (by omega) (by omega)
set_option maxRecDepth 100000 in
set_option maxHeartbeats 4000000 in
theorem lc_coin {l : Launch} {G : cx_T} {p : Program} {e : Env} {s : State} {m : MethodId} {below : List Frame} {meth : Method} {c : Code} {b L : Nat} {xs : Nat → Int32} (X : cx_oi G p s m #[Value.ref b] meth c cL_law 4 RL ret) (hX : va_X b L xs s s.heap) (hbl : b < s.heap.size) (hbs : cx_b G = s.heap.size) {Inv : Nat → Nat → mm_T → mm_T → Prop} (sim : sm_coin Inv) (h144 : ∀ (k n : Nat) (I J : mm_T), Inv k n I J → 144 ≤ n) {x : Int32} {cb sb kq : Nat} (hkq : kq ≤ 3072) (hcb : cb + 3 ≤ 600000) (hsb : sb + 195 ≤ 7302250) (hv1 : vp_in (x + 1) L) (K : ∀ (n : Nat) (I J : mm_T) {H : Heap} {locs : List Loc} {ls : Array Slot} {cells slots : Nat}, Inv (kq + 6) n I J → lg_ok G n (ly_cell G (mm_mx I J)) s H locs → lv_has ls 4 [(3, .int x), (0, .ref b), (1, .ref (cx_b G + ly_loc 8 0)), (2, .ref (cx_b G + ly_loc 9 0))] → cells ≤ cb + 3 → slots ≤ sb + 195 → W p l e room_1 s m #[Value.ref b] below meth c H locs cells slots (lw_Z below #[Value.ref b] s) (F0 m 985 ls [])) {n : Nat} {I J : mm_T} (hI : Inv kq n I J) {H : Heap} {locs : List Loc} {ls : Array Slot} {cells slots : Nat} (S : lg_ok G n (ly_cell G (mm_mx I J)) s H locs) (hl : lv_has ls 4 [(3, .int x), (0, .ref b), (1, .ref (cx_b G + ly_loc 8 0)), (2, .ref (cx_b G + ly_loc 9 0))]) (hc : cells ≤ cb) (hs : slots ≤ sb) : W p l e room_1 s m #[Value.ref b] below meth c H locs cells slots (lw_Z below #[Value.ref b] s) (F0 m 529 ls []) := by
  have hn := h144 kq n I J hI
  have hn0 : 111 ≤ n := by omega
  have hcs : cells ≤ room_1.cells ∧ slots ≤ room_1.slots := ⟨by show cells ≤ 600000; omega, by show slots ≤ 7302250; omega⟩
  have o8 : ly_ok n 8 0 := ly_ok_8 (by decide) hn0
  have o9 : ly_ok n 9 0 := ly_ok_9 (by decide) hn
  have hbA : ¬ cx_A G b := by show ¬ cx_b G ≤ b; omega
  obtain ⟨z, v, e1, e2, e3, hI2⟩ := sim kq n I J (xs (x + 1).toNatClampNeg) hkq hI
  refine lv_aload_n X.1.1 X.1.2.1 dL_law_529 rfl (lv_at hl 2 rfl) ?_
  refine lv_aload_n X.1.1 X.1.2.1 dL_law_530 rfl (lv_at hl 1 rfl) ?_
  refine lv_iload_n X.1.1 X.1.2.1 dL_law_531 rfl (lv_at hl 0 rfl) ?_
  refine lv_iconst (v := 1) X.1.1 X.1.2.1 dL_law_532 (by decide) ?_
  refine lv_iadd X.1.1 X.1.2.1 dL_law_533 ?_
  refine va_sld (A := cx_A G) X.1.1 X.1.2.1 hX hbl hbA S.2.2.1 hv1 dL_law_534 ?_
  refine lg_Vi (I1 := z.1) (J1 := J) (r := z.2) (As := [.int (xs (x + 1).toNatClampNeg)]) (rest := []) X S (by omega) hcs (c_X8_coin hn e1) gd_L_69 ⟨rfl, ny_X8_coin⟩ ⟨rfl, rfl⟩ ⟨Nat.le_of_ble_eq_true rfl, Nat.le_of_ble_eq_true rfl⟩ (lg_recvL (k := 8) (i := 0) X S o8 rfl rfl) rfl rfl hl.1 (Nat.le_of_ble_eq_true rfl) dL_law_535 (fun H locs S => ?_)
  refine lv_aload_n X.1.1 X.1.2.1 dL_law_538 rfl (lv_at hl 3 rfl) ?_
  refine lv_aload_n X.1.1 X.1.2.1 dL_law_539 rfl (lv_at hl 1 rfl) ?_
  refine lv_iload_n X.1.1 X.1.2.1 dL_law_540 rfl (lv_at hl 0 rfl) ?_
  refine lv_iconst (v := 1) X.1.1 X.1.2.1 dL_law_541 (by decide) ?_
  refine lv_iadd X.1.1 X.1.2.1 dL_law_542 ?_
  refine va_sld (A := cx_A G) X.1.1 X.1.2.1 hX hbl hbA S.2.2.1 hv1 dL_law_543 ?_
  refine lg_Vi (I1 := z.1) (J1 := v.1) (r := v.2) (As := [.int (xs (x + 1).toNatClampNeg)]) (rest := [.int z.2]) X S (by omega) hcs (c_X9_coin hn e2) gd_L_72 ⟨rfl, ny_X9_coin⟩ ⟨rfl, rfl⟩ ⟨Nat.le_of_ble_eq_true rfl, Nat.le_of_ble_eq_true rfl⟩ (lg_recvL (k := 9) (i := 0) X S o9 rfl rfl) rfl rfl hl.1 (Nat.le_of_ble_eq_true rfl) dL_law_544 (fun H locs S => ?_)
  refine lv_icmp_eq (tgt := 985) X.1.1 X.1.2.1 dL_law_547 (by decide) (fun cq => ?_) (fun cq => absurd e3 (by first | exact cq | exact fun e => cq e))
  exact K n _ _ hI2 S hl (by omega) (by omega)
set_option maxRecDepth 100000 in
set_option maxHeartbeats 4000000 in
theorem lc_harm {l : Launch} {G : cx_T} {p : Program} {e : Env} {s : State} {m : MethodId} {below : List Frame} {meth : Method} {c : Code} {b L : Nat} {xs : Nat → Int32} (X : cx_oi G p s m #[Value.ref b] meth c cL_law 4 RL ret) (hX : va_X b L xs s s.heap) (hbl : b < s.heap.size) (hbs : cx_b G = s.heap.size) {Inv : Nat → Nat → mm_T → mm_T → Prop} (sim : sm_harm Inv) (h144 : ∀ (k n : Nat) (I J : mm_T), Inv k n I J → 144 ≤ n) {x : Int32} {cb sb kq : Nat} (hkq : kq ≤ 3072) (hcb : cb + 3 ≤ 600000) (hsb : sb + 195 ≤ 7302250) (hv1 : vp_in (x + 1) L) (K : ∀ (n : Nat) (I J : mm_T) {H : Heap} {locs : List Loc} {ls : Array Slot} {cells slots : Nat}, Inv (kq + 6) n I J → lg_ok G n (ly_cell G (mm_mx I J)) s H locs → lv_has ls 4 [(3, .int x), (0, .ref b), (1, .ref (cx_b G + ly_loc 8 0)), (2, .ref (cx_b G + ly_loc 9 0))] → cells ≤ cb + 3 → slots ≤ sb + 195 → W p l e room_1 s m #[Value.ref b] below meth c H locs cells slots (lw_Z below #[Value.ref b] s) (F0 m 985 ls [])) {n : Nat} {I J : mm_T} (hI : Inv kq n I J) {H : Heap} {locs : List Loc} {ls : Array Slot} {cells slots : Nat} (S : lg_ok G n (ly_cell G (mm_mx I J)) s H locs) (hl : lv_has ls 4 [(3, .int x), (0, .ref b), (1, .ref (cx_b G + ly_loc 8 0)), (2, .ref (cx_b G + ly_loc 9 0))]) (hc : cells ≤ cb) (hs : slots ≤ sb) : W p l e room_1 s m #[Value.ref b] below meth c H locs cells slots (lw_Z below #[Value.ref b] s) (F0 m 552 ls []) := by
  have hn := h144 kq n I J hI
  have hn0 : 111 ≤ n := by omega
  have hcs : cells ≤ room_1.cells ∧ slots ≤ room_1.slots := ⟨by show cells ≤ 600000; omega, by show slots ≤ 7302250; omega⟩
  have o8 : ly_ok n 8 0 := ly_ok_8 (by decide) hn0
  have o9 : ly_ok n 9 0 := ly_ok_9 (by decide) hn
  have hbA : ¬ cx_A G b := by show ¬ cx_b G ≤ b; omega
  obtain ⟨z, v, e1, e2, e3, hI2⟩ := sim kq n I J (xs (x + 1).toNatClampNeg) hkq hI
  refine lv_aload_n X.1.1 X.1.2.1 dL_law_552 rfl (lv_at hl 2 rfl) ?_
  refine lv_aload_n X.1.1 X.1.2.1 dL_law_553 rfl (lv_at hl 1 rfl) ?_
  refine lv_iload_n X.1.1 X.1.2.1 dL_law_554 rfl (lv_at hl 0 rfl) ?_
  refine lv_iconst (v := 1) X.1.1 X.1.2.1 dL_law_555 (by decide) ?_
  refine lv_iadd X.1.1 X.1.2.1 dL_law_556 ?_
  refine va_sld (A := cx_A G) X.1.1 X.1.2.1 hX hbl hbA S.2.2.1 hv1 dL_law_557 ?_
  refine lg_Vi (I1 := z.1) (J1 := J) (r := z.2) (As := [.int (xs (x + 1).toNatClampNeg)]) (rest := []) X S (by omega) hcs (c_X8_harm hn e1) gd_L_73 ⟨rfl, ny_X8_harm⟩ ⟨rfl, rfl⟩ ⟨Nat.le_of_ble_eq_true rfl, Nat.le_of_ble_eq_true rfl⟩ (lg_recvL (k := 8) (i := 0) X S o8 rfl rfl) rfl rfl hl.1 (Nat.le_of_ble_eq_true rfl) dL_law_558 (fun H locs S => ?_)
  refine lv_aload_n X.1.1 X.1.2.1 dL_law_561 rfl (lv_at hl 3 rfl) ?_
  refine lv_aload_n X.1.1 X.1.2.1 dL_law_562 rfl (lv_at hl 1 rfl) ?_
  refine lv_iload_n X.1.1 X.1.2.1 dL_law_563 rfl (lv_at hl 0 rfl) ?_
  refine lv_iconst (v := 1) X.1.1 X.1.2.1 dL_law_564 (by decide) ?_
  refine lv_iadd X.1.1 X.1.2.1 dL_law_565 ?_
  refine va_sld (A := cx_A G) X.1.1 X.1.2.1 hX hbl hbA S.2.2.1 hv1 dL_law_566 ?_
  refine lg_Vi (I1 := z.1) (J1 := v.1) (r := v.2) (As := [.int (xs (x + 1).toNatClampNeg)]) (rest := [.int z.2]) X S (by omega) hcs (c_X9_harm hn e2) gd_L_76 ⟨rfl, ny_X9_harm⟩ ⟨rfl, rfl⟩ ⟨Nat.le_of_ble_eq_true rfl, Nat.le_of_ble_eq_true rfl⟩ (lg_recvL (k := 9) (i := 0) X S o9 rfl rfl) rfl rfl hl.1 (Nat.le_of_ble_eq_true rfl) dL_law_567 (fun H locs S => ?_)
  refine lv_icmp_eq (tgt := 985) X.1.1 X.1.2.1 dL_law_570 (by decide) (fun cq => ?_) (fun cq => absurd e3 (by first | exact cq | exact fun e => cq e))
  exact K n _ _ hI2 S hl (by omega) (by omega)
set_option maxRecDepth 100000 in
set_option maxHeartbeats 4000000 in
theorem lc_judge {l : Launch} {G : cx_T} {p : Program} {e : Env} {s : State} {m : MethodId} {below : List Frame} {meth : Method} {c : Code} {b L : Nat} {xs : Nat → Int32} (X : cx_oi G p s m #[Value.ref b] meth c cL_law 4 RL ret) (hX : va_X b L xs s s.heap) (hbl : b < s.heap.size) (hbs : cx_b G = s.heap.size) {Inv : Nat → Nat → mm_T → mm_T → Prop} (sim : sm_judge Inv) (h144 : ∀ (k n : Nat) (I J : mm_T), Inv k n I J → 144 ≤ n) {x : Int32} {cb sb kq : Nat} (hkq : kq ≤ 3072) (hcb : cb + 3 ≤ 600000) (hsb : sb + 195 ≤ 7302250) (hv1 : vp_in (x + 1) L) (K : ∀ (n : Nat) (I J : mm_T) {H : Heap} {locs : List Loc} {ls : Array Slot} {cells slots : Nat}, Inv (kq + 6) n I J → lg_ok G n (ly_cell G (mm_mx I J)) s H locs → lv_has ls 4 [(3, .int x), (0, .ref b), (1, .ref (cx_b G + ly_loc 8 0)), (2, .ref (cx_b G + ly_loc 9 0))] → cells ≤ cb + 3 → slots ≤ sb + 195 → W p l e room_1 s m #[Value.ref b] below meth c H locs cells slots (lw_Z below #[Value.ref b] s) (F0 m 985 ls [])) {n : Nat} {I J : mm_T} (hI : Inv kq n I J) {H : Heap} {locs : List Loc} {ls : Array Slot} {cells slots : Nat} (S : lg_ok G n (ly_cell G (mm_mx I J)) s H locs) (hl : lv_has ls 4 [(3, .int x), (0, .ref b), (1, .ref (cx_b G + ly_loc 8 0)), (2, .ref (cx_b G + ly_loc 9 0))]) (hc : cells ≤ cb) (hs : slots ≤ sb) : W p l e room_1 s m #[Value.ref b] below meth c H locs cells slots (lw_Z below #[Value.ref b] s) (F0 m 575 ls []) := by
  have hn := h144 kq n I J hI
  have hn0 : 111 ≤ n := by omega
  have hcs : cells ≤ room_1.cells ∧ slots ≤ room_1.slots := ⟨by show cells ≤ 600000; omega, by show slots ≤ 7302250; omega⟩
  have o8 : ly_ok n 8 0 := ly_ok_8 (by decide) hn0
  have o9 : ly_ok n 9 0 := ly_ok_9 (by decide) hn
  have hbA : ¬ cx_A G b := by show ¬ cx_b G ≤ b; omega
  obtain ⟨z, v, e1, e2, e3, hI2⟩ := sim kq n I J (xs (x + 1).toNatClampNeg) hkq hI
  refine lv_aload_n X.1.1 X.1.2.1 dL_law_575 rfl (lv_at hl 2 rfl) ?_
  refine lv_aload_n X.1.1 X.1.2.1 dL_law_576 rfl (lv_at hl 1 rfl) ?_
  refine lv_iload_n X.1.1 X.1.2.1 dL_law_577 rfl (lv_at hl 0 rfl) ?_
  refine lv_iconst (v := 1) X.1.1 X.1.2.1 dL_law_578 (by decide) ?_
  refine lv_iadd X.1.1 X.1.2.1 dL_law_579 ?_
  refine va_sld (A := cx_A G) X.1.1 X.1.2.1 hX hbl hbA S.2.2.1 hv1 dL_law_580 ?_
  refine lg_Vi (I1 := z.1) (J1 := J) (r := z.2) (As := [.int (xs (x + 1).toNatClampNeg)]) (rest := []) X S (by omega) hcs (c_X8_judge hn e1) gd_L_77 ⟨rfl, ny_X8_judge⟩ ⟨rfl, rfl⟩ ⟨Nat.le_of_ble_eq_true rfl, Nat.le_of_ble_eq_true rfl⟩ (lg_recvL (k := 8) (i := 0) X S o8 rfl rfl) rfl rfl hl.1 (Nat.le_of_ble_eq_true rfl) dL_law_581 (fun H locs S => ?_)
  refine lv_aload_n X.1.1 X.1.2.1 dL_law_584 rfl (lv_at hl 3 rfl) ?_
  refine lv_aload_n X.1.1 X.1.2.1 dL_law_585 rfl (lv_at hl 1 rfl) ?_
  refine lv_iload_n X.1.1 X.1.2.1 dL_law_586 rfl (lv_at hl 0 rfl) ?_
  refine lv_iconst (v := 1) X.1.1 X.1.2.1 dL_law_587 (by decide) ?_
  refine lv_iadd X.1.1 X.1.2.1 dL_law_588 ?_
  refine va_sld (A := cx_A G) X.1.1 X.1.2.1 hX hbl hbA S.2.2.1 hv1 dL_law_589 ?_
  refine lg_Vi (I1 := z.1) (J1 := v.1) (r := v.2) (As := [.int (xs (x + 1).toNatClampNeg)]) (rest := [.int z.2]) X S (by omega) hcs (c_X9_judge hn e2) gd_L_80 ⟨rfl, ny_X9_judge⟩ ⟨rfl, rfl⟩ ⟨Nat.le_of_ble_eq_true rfl, Nat.le_of_ble_eq_true rfl⟩ (lg_recvL (k := 9) (i := 0) X S o9 rfl rfl) rfl rfl hl.1 (Nat.le_of_ble_eq_true rfl) dL_law_590 (fun H locs S => ?_)
  refine lv_icmp_eq (tgt := 985) X.1.1 X.1.2.1 dL_law_593 (by decide) (fun cq => ?_) (fun cq => absurd e3 (by first | exact cq | exact fun e => cq e))
  exact K n _ _ hI2 S hl (by omega) (by omega)
set_option maxRecDepth 100000 in
set_option maxHeartbeats 4000000 in
theorem lc_which {l : Launch} {G : cx_T} {p : Program} {e : Env} {s : State} {m : MethodId} {below : List Frame} {meth : Method} {c : Code} {b L : Nat} {xs : Nat → Int32} (X : cx_oi G p s m #[Value.ref b] meth c cL_law 4 RL ret) (hX : va_X b L xs s s.heap) (hbl : b < s.heap.size) (hbs : cx_b G = s.heap.size) {Inv : Nat → Nat → mm_T → mm_T → Prop} (sim : sm_which Inv) (h144 : ∀ (k n : Nat) (I J : mm_T), Inv k n I J → 144 ≤ n) {x : Int32} {cb sb kq : Nat} (hkq : kq ≤ 3072) (hcb : cb + 3 ≤ 600000) (hsb : sb + 195 ≤ 7302250) (hv1 : vp_in (x + 1) L) (K : ∀ (n : Nat) (I J : mm_T) {H : Heap} {locs : List Loc} {ls : Array Slot} {cells slots : Nat}, Inv (kq + 6) n I J → lg_ok G n (ly_cell G (mm_mx I J)) s H locs → lv_has ls 4 [(3, .int x), (0, .ref b), (1, .ref (cx_b G + ly_loc 8 0)), (2, .ref (cx_b G + ly_loc 9 0))] → cells ≤ cb + 3 → slots ≤ sb + 195 → W p l e room_1 s m #[Value.ref b] below meth c H locs cells slots (lw_Z below #[Value.ref b] s) (F0 m 985 ls [])) {n : Nat} {I J : mm_T} (hI : Inv kq n I J) {H : Heap} {locs : List Loc} {ls : Array Slot} {cells slots : Nat} (S : lg_ok G n (ly_cell G (mm_mx I J)) s H locs) (hl : lv_has ls 4 [(3, .int x), (0, .ref b), (1, .ref (cx_b G + ly_loc 8 0)), (2, .ref (cx_b G + ly_loc 9 0))]) (hc : cells ≤ cb) (hs : slots ≤ sb) : W p l e room_1 s m #[Value.ref b] below meth c H locs cells slots (lw_Z below #[Value.ref b] s) (F0 m 598 ls []) := by
  have hn := h144 kq n I J hI
  have hn0 : 111 ≤ n := by omega
  have hcs : cells ≤ room_1.cells ∧ slots ≤ room_1.slots := ⟨by show cells ≤ 600000; omega, by show slots ≤ 7302250; omega⟩
  have o8 : ly_ok n 8 0 := ly_ok_8 (by decide) hn0
  have o9 : ly_ok n 9 0 := ly_ok_9 (by decide) hn
  have hbA : ¬ cx_A G b := by show ¬ cx_b G ≤ b; omega
  obtain ⟨z, v, e1, e2, e3, hI2⟩ := sim kq n I J (xs (x + 1).toNatClampNeg) hkq hI
  refine lv_aload_n X.1.1 X.1.2.1 dL_law_598 rfl (lv_at hl 2 rfl) ?_
  refine lv_aload_n X.1.1 X.1.2.1 dL_law_599 rfl (lv_at hl 1 rfl) ?_
  refine lv_iload_n X.1.1 X.1.2.1 dL_law_600 rfl (lv_at hl 0 rfl) ?_
  refine lv_iconst (v := 1) X.1.1 X.1.2.1 dL_law_601 (by decide) ?_
  refine lv_iadd X.1.1 X.1.2.1 dL_law_602 ?_
  refine va_sld (A := cx_A G) X.1.1 X.1.2.1 hX hbl hbA S.2.2.1 hv1 dL_law_603 ?_
  refine lg_Vi (I1 := z.1) (J1 := J) (r := z.2) (As := [.int (xs (x + 1).toNatClampNeg)]) (rest := []) X S (by omega) hcs (c_X8_which hn e1) gd_L_81 ⟨rfl, ny_X8_which⟩ ⟨rfl, rfl⟩ ⟨Nat.le_of_ble_eq_true rfl, Nat.le_of_ble_eq_true rfl⟩ (lg_recvL (k := 8) (i := 0) X S o8 rfl rfl) rfl rfl hl.1 (Nat.le_of_ble_eq_true rfl) dL_law_604 (fun H locs S => ?_)
  refine lv_aload_n X.1.1 X.1.2.1 dL_law_607 rfl (lv_at hl 3 rfl) ?_
  refine lv_aload_n X.1.1 X.1.2.1 dL_law_608 rfl (lv_at hl 1 rfl) ?_
  refine lv_iload_n X.1.1 X.1.2.1 dL_law_609 rfl (lv_at hl 0 rfl) ?_
  refine lv_iconst (v := 1) X.1.1 X.1.2.1 dL_law_610 (by decide) ?_
  refine lv_iadd X.1.1 X.1.2.1 dL_law_611 ?_
  refine va_sld (A := cx_A G) X.1.1 X.1.2.1 hX hbl hbA S.2.2.1 hv1 dL_law_612 ?_
  refine lg_Vi (I1 := z.1) (J1 := v.1) (r := v.2) (As := [.int (xs (x + 1).toNatClampNeg)]) (rest := [.int z.2]) X S (by omega) hcs (c_X9_which hn e2) gd_L_84 ⟨rfl, ny_X9_which⟩ ⟨rfl, rfl⟩ ⟨Nat.le_of_ble_eq_true rfl, Nat.le_of_ble_eq_true rfl⟩ (lg_recvL (k := 9) (i := 0) X S o9 rfl rfl) rfl rfl hl.1 (Nat.le_of_ble_eq_true rfl) dL_law_613 (fun H locs S => ?_)
  refine lv_icmp_eq (tgt := 985) X.1.1 X.1.2.1 dL_law_616 (by decide) (fun cq => ?_) (fun cq => absurd e3 (by first | exact cq | exact fun e => cq e))
  exact K n _ _ hI2 S hl (by omega) (by omega)
set_option maxRecDepth 100000 in
set_option maxHeartbeats 4000000 in
theorem lc_behind {l : Launch} {G : cx_T} {p : Program} {e : Env} {s : State} {m : MethodId} {below : List Frame} {meth : Method} {c : Code} {b L : Nat} {xs : Nat → Int32} (X : cx_oi G p s m #[Value.ref b] meth c cL_law 4 RL ret) (hX : va_X b L xs s s.heap) (hbl : b < s.heap.size) (hbs : cx_b G = s.heap.size) {Inv : Nat → Nat → mm_T → mm_T → Prop} (sim : sm_behind Inv) (h144 : ∀ (k n : Nat) (I J : mm_T), Inv k n I J → 144 ≤ n) {x : Int32} {cb sb kq : Nat} (hkq : kq ≤ 3072) (hcb : cb + 3 ≤ 600000) (hsb : sb + 195 ≤ 7302250) (K : ∀ (n : Nat) (I J : mm_T) {H : Heap} {locs : List Loc} {ls : Array Slot} {cells slots : Nat}, Inv (kq + 6) n I J → lg_ok G n (ly_cell G (mm_mx I J)) s H locs → lv_has ls 4 [(3, .int x), (0, .ref b), (1, .ref (cx_b G + ly_loc 8 0)), (2, .ref (cx_b G + ly_loc 9 0))] → cells ≤ cb + 3 → slots ≤ sb + 195 → W p l e room_1 s m #[Value.ref b] below meth c H locs cells slots (lw_Z below #[Value.ref b] s) (F0 m 985 ls [])) {n : Nat} {I J : mm_T} (hI : Inv kq n I J) {H : Heap} {locs : List Loc} {ls : Array Slot} {cells slots : Nat} (S : lg_ok G n (ly_cell G (mm_mx I J)) s H locs) (hl : lv_has ls 4 [(3, .int x), (0, .ref b), (1, .ref (cx_b G + ly_loc 8 0)), (2, .ref (cx_b G + ly_loc 9 0))]) (hc : cells ≤ cb) (hs : slots ≤ sb) : W p l e room_1 s m #[Value.ref b] below meth c H locs cells slots (lw_Z below #[Value.ref b] s) (F0 m 621 ls []) := by
  have hn := h144 kq n I J hI
  have hn0 : 111 ≤ n := by omega
  have hcs : cells ≤ room_1.cells ∧ slots ≤ room_1.slots := ⟨by show cells ≤ 600000; omega, by show slots ≤ 7302250; omega⟩
  have o8 : ly_ok n 8 0 := ly_ok_8 (by decide) hn0
  have o9 : ly_ok n 9 0 := ly_ok_9 (by decide) hn
  have hbA : ¬ cx_A G b := by show ¬ cx_b G ≤ b; omega
  obtain ⟨z, v, e1, e2, e3, hI2⟩ := sim kq n I J  hkq hI
  refine lv_aload_n X.1.1 X.1.2.1 dL_law_621 rfl (lv_at hl 2 rfl) ?_
  refine lg_Vi (I1 := z.1) (J1 := J) (r := z.2) (As := []) (rest := []) X S (by omega) hcs (c_X8_behind hn e1) gd_L_85 ⟨rfl, ny_X8_behind⟩ ⟨rfl, rfl⟩ ⟨Nat.le_of_ble_eq_true rfl, Nat.le_of_ble_eq_true rfl⟩ (lg_recvL (k := 8) (i := 0) X S o8 rfl rfl) rfl rfl hl.1 (Nat.le_of_ble_eq_true rfl) dL_law_622 (fun H locs S => ?_)
  refine lv_aload_n X.1.1 X.1.2.1 dL_law_625 rfl (lv_at hl 3 rfl) ?_
  refine lg_Vi (I1 := z.1) (J1 := v.1) (r := v.2) (As := []) (rest := [.int z.2]) X S (by omega) hcs (c_X9_behind hn e2) gd_L_88 ⟨rfl, ny_X9_behind⟩ ⟨rfl, rfl⟩ ⟨Nat.le_of_ble_eq_true rfl, Nat.le_of_ble_eq_true rfl⟩ (lg_recvL (k := 9) (i := 0) X S o9 rfl rfl) rfl rfl hl.1 (Nat.le_of_ble_eq_true rfl) dL_law_626 (fun H locs S => ?_)
  refine lv_icmp_eq (tgt := 985) X.1.1 X.1.2.1 dL_law_629 (by decide) (fun cq => ?_) (fun cq => absurd e3 (by first | exact cq | exact fun e => cq e))
  exact K n _ _ hI2 S hl (by omega) (by omega)
set_option maxRecDepth 100000 in
set_option maxHeartbeats 4000000 in
theorem lc_drawn {l : Launch} {G : cx_T} {p : Program} {e : Env} {s : State} {m : MethodId} {below : List Frame} {meth : Method} {c : Code} {b L : Nat} {xs : Nat → Int32} (X : cx_oi G p s m #[Value.ref b] meth c cL_law 4 RL ret) (hX : va_X b L xs s s.heap) (hbl : b < s.heap.size) (hbs : cx_b G = s.heap.size) {Inv : Nat → Nat → mm_T → mm_T → Prop} (sim : sm_drawn Inv) (h144 : ∀ (k n : Nat) (I J : mm_T), Inv k n I J → 144 ≤ n) {x : Int32} {cb sb kq : Nat} (hkq : kq ≤ 3072) (hcb : cb + 3 ≤ 600000) (hsb : sb + 195 ≤ 7302250) (hv1 : vp_in (x + 1) L) (K : ∀ (n : Nat) (I J : mm_T) {H : Heap} {locs : List Loc} {ls : Array Slot} {cells slots : Nat}, Inv (kq + 6) n I J → lg_ok G n (ly_cell G (mm_mx I J)) s H locs → lv_has ls 4 [(3, .int x), (0, .ref b), (1, .ref (cx_b G + ly_loc 8 0)), (2, .ref (cx_b G + ly_loc 9 0))] → cells ≤ cb + 3 → slots ≤ sb + 195 → W p l e room_1 s m #[Value.ref b] below meth c H locs cells slots (lw_Z below #[Value.ref b] s) (F0 m 985 ls [])) {n : Nat} {I J : mm_T} (hI : Inv kq n I J) {H : Heap} {locs : List Loc} {ls : Array Slot} {cells slots : Nat} (S : lg_ok G n (ly_cell G (mm_mx I J)) s H locs) (hl : lv_has ls 4 [(3, .int x), (0, .ref b), (1, .ref (cx_b G + ly_loc 8 0)), (2, .ref (cx_b G + ly_loc 9 0))]) (hc : cells ≤ cb) (hs : slots ≤ sb) : W p l e room_1 s m #[Value.ref b] below meth c H locs cells slots (lw_Z below #[Value.ref b] s) (F0 m 634 ls []) := by
  have hn := h144 kq n I J hI
  have hn0 : 111 ≤ n := by omega
  have hcs : cells ≤ room_1.cells ∧ slots ≤ room_1.slots := ⟨by show cells ≤ 600000; omega, by show slots ≤ 7302250; omega⟩
  have o8 : ly_ok n 8 0 := ly_ok_8 (by decide) hn0
  have o9 : ly_ok n 9 0 := ly_ok_9 (by decide) hn
  have hbA : ¬ cx_A G b := by show ¬ cx_b G ≤ b; omega
  obtain ⟨z, v, e1, e2, e3, hI2⟩ := sim kq n I J (xs (x + 1).toNatClampNeg) hkq hI
  refine lv_aload_n X.1.1 X.1.2.1 dL_law_634 rfl (lv_at hl 2 rfl) ?_
  refine lv_aload_n X.1.1 X.1.2.1 dL_law_635 rfl (lv_at hl 1 rfl) ?_
  refine lv_iload_n X.1.1 X.1.2.1 dL_law_636 rfl (lv_at hl 0 rfl) ?_
  refine lv_iconst (v := 1) X.1.1 X.1.2.1 dL_law_637 (by decide) ?_
  refine lv_iadd X.1.1 X.1.2.1 dL_law_638 ?_
  refine va_sld (A := cx_A G) X.1.1 X.1.2.1 hX hbl hbA S.2.2.1 hv1 dL_law_639 ?_
  refine lg_Vi (I1 := z.1) (J1 := J) (r := z.2) (As := [.int (xs (x + 1).toNatClampNeg)]) (rest := []) X S (by omega) hcs (c_X8_drawn hn e1) gd_L_89 ⟨rfl, ny_X8_drawn⟩ ⟨rfl, rfl⟩ ⟨Nat.le_of_ble_eq_true rfl, Nat.le_of_ble_eq_true rfl⟩ (lg_recvL (k := 8) (i := 0) X S o8 rfl rfl) rfl rfl hl.1 (Nat.le_of_ble_eq_true rfl) dL_law_640 (fun H locs S => ?_)
  refine lv_aload_n X.1.1 X.1.2.1 dL_law_643 rfl (lv_at hl 3 rfl) ?_
  refine lv_aload_n X.1.1 X.1.2.1 dL_law_644 rfl (lv_at hl 1 rfl) ?_
  refine lv_iload_n X.1.1 X.1.2.1 dL_law_645 rfl (lv_at hl 0 rfl) ?_
  refine lv_iconst (v := 1) X.1.1 X.1.2.1 dL_law_646 (by decide) ?_
  refine lv_iadd X.1.1 X.1.2.1 dL_law_647 ?_
  refine va_sld (A := cx_A G) X.1.1 X.1.2.1 hX hbl hbA S.2.2.1 hv1 dL_law_648 ?_
  refine lg_Vi (I1 := z.1) (J1 := v.1) (r := v.2) (As := [.int (xs (x + 1).toNatClampNeg)]) (rest := [.int z.2]) X S (by omega) hcs (c_X9_drawn hn e2) gd_L_92 ⟨rfl, ny_X9_drawn⟩ ⟨rfl, rfl⟩ ⟨Nat.le_of_ble_eq_true rfl, Nat.le_of_ble_eq_true rfl⟩ (lg_recvL (k := 9) (i := 0) X S o9 rfl rfl) rfl rfl hl.1 (Nat.le_of_ble_eq_true rfl) dL_law_649 (fun H locs S => ?_)
  refine lv_icmp_eq (tgt := 985) X.1.1 X.1.2.1 dL_law_652 (by decide) (fun cq => ?_) (fun cq => absurd e3 (by first | exact cq | exact fun e => cq e))
  exact K n _ _ hI2 S hl (by omega) (by omega)
set_option maxRecDepth 100000 in
set_option maxHeartbeats 4000000 in
theorem lc_chance {l : Launch} {G : cx_T} {p : Program} {e : Env} {s : State} {m : MethodId} {below : List Frame} {meth : Method} {c : Code} {b L : Nat} {xs : Nat → Int32} (X : cx_oi G p s m #[Value.ref b] meth c cL_law 4 RL ret) (hX : va_X b L xs s s.heap) (hbl : b < s.heap.size) (hbs : cx_b G = s.heap.size) {Inv : Nat → Nat → mm_T → mm_T → Prop} (sim : sm_chance Inv) (h144 : ∀ (k n : Nat) (I J : mm_T), Inv k n I J → 144 ≤ n) {x : Int32} {cb sb kq : Nat} (hkq : kq ≤ 3072) (hcb : cb + 3 ≤ 600000) (hsb : sb + 195 ≤ 7302250) (hv1 : vp_in (x + 1) L) (hv2 : vp_in (x + 2) L) (hv3 : vp_in (x + 3) L) (K : ∀ (n : Nat) (I J : mm_T) {H : Heap} {locs : List Loc} {ls : Array Slot} {cells slots : Nat}, Inv (kq + 6) n I J → lg_ok G n (ly_cell G (mm_mx I J)) s H locs → lv_has ls 4 [(3, .int x), (0, .ref b), (1, .ref (cx_b G + ly_loc 8 0)), (2, .ref (cx_b G + ly_loc 9 0))] → cells ≤ cb + 3 → slots ≤ sb + 195 → W p l e room_1 s m #[Value.ref b] below meth c H locs cells slots (lw_Z below #[Value.ref b] s) (F0 m 985 ls [])) {n : Nat} {I J : mm_T} (hI : Inv kq n I J) {H : Heap} {locs : List Loc} {ls : Array Slot} {cells slots : Nat} (S : lg_ok G n (ly_cell G (mm_mx I J)) s H locs) (hl : lv_has ls 4 [(3, .int x), (0, .ref b), (1, .ref (cx_b G + ly_loc 8 0)), (2, .ref (cx_b G + ly_loc 9 0))]) (hc : cells ≤ cb) (hs : slots ≤ sb) : W p l e room_1 s m #[Value.ref b] below meth c H locs cells slots (lw_Z below #[Value.ref b] s) (F0 m 657 ls []) := by
  have hn := h144 kq n I J hI
  have hn0 : 111 ≤ n := by omega
  have hcs : cells ≤ room_1.cells ∧ slots ≤ room_1.slots := ⟨by show cells ≤ 600000; omega, by show slots ≤ 7302250; omega⟩
  have o8 : ly_ok n 8 0 := ly_ok_8 (by decide) hn0
  have o9 : ly_ok n 9 0 := ly_ok_9 (by decide) hn
  have hbA : ¬ cx_A G b := by show ¬ cx_b G ≤ b; omega
  obtain ⟨z, v, e1, e2, e3, hI2⟩ := sim kq n I J (xs (x + 1).toNatClampNeg) (xs (x + 2).toNatClampNeg) (xs (x + 3).toNatClampNeg) hkq hI
  refine lv_aload_n X.1.1 X.1.2.1 dL_law_657 rfl (lv_at hl 2 rfl) ?_
  refine lv_aload_n X.1.1 X.1.2.1 dL_law_658 rfl (lv_at hl 1 rfl) ?_
  refine lv_iload_n X.1.1 X.1.2.1 dL_law_659 rfl (lv_at hl 0 rfl) ?_
  refine lv_iconst (v := 1) X.1.1 X.1.2.1 dL_law_660 (by decide) ?_
  refine lv_iadd X.1.1 X.1.2.1 dL_law_661 ?_
  refine va_sld (A := cx_A G) X.1.1 X.1.2.1 hX hbl hbA S.2.2.1 hv1 dL_law_662 ?_
  refine lv_aload_n X.1.1 X.1.2.1 dL_law_663 rfl (lv_at hl 1 rfl) ?_
  refine lv_iload_n X.1.1 X.1.2.1 dL_law_664 rfl (lv_at hl 0 rfl) ?_
  refine lv_iconst (v := 2) X.1.1 X.1.2.1 dL_law_665 (by decide) ?_
  refine lv_iadd X.1.1 X.1.2.1 dL_law_666 ?_
  refine va_sld (A := cx_A G) X.1.1 X.1.2.1 hX hbl hbA S.2.2.1 hv2 dL_law_667 ?_
  refine lv_aload_n X.1.1 X.1.2.1 dL_law_668 rfl (lv_at hl 1 rfl) ?_
  refine lv_iload_n X.1.1 X.1.2.1 dL_law_669 rfl (lv_at hl 0 rfl) ?_
  refine lv_iconst (v := 3) X.1.1 X.1.2.1 dL_law_670 (by decide) ?_
  refine lv_iadd X.1.1 X.1.2.1 dL_law_671 ?_
  refine va_sld (A := cx_A G) X.1.1 X.1.2.1 hX hbl hbA S.2.2.1 hv3 dL_law_672 ?_
  refine lg_Vl (I1 := z.1) (J1 := J) (r := z.2) (As := [.int (xs (x + 1).toNatClampNeg), .int (xs (x + 2).toNatClampNeg), .int (xs (x + 3).toNatClampNeg)]) (rest := []) X S (by omega) hcs (c_X8_chance hn e1) gd_L_93 ⟨rfl, ny_X8_chance⟩ ⟨rfl, rfl⟩ ⟨Nat.le_of_ble_eq_true rfl, Nat.le_of_ble_eq_true rfl⟩ (lg_recvL (k := 8) (i := 0) X S o8 rfl rfl) rfl rfl hl.1 (Nat.le_of_ble_eq_true rfl) dL_law_673 (fun H locs S => ?_)
  refine lv_aload_n X.1.1 X.1.2.1 dL_law_676 rfl (lv_at hl 3 rfl) ?_
  refine lv_aload_n X.1.1 X.1.2.1 dL_law_677 rfl (lv_at hl 1 rfl) ?_
  refine lv_iload_n X.1.1 X.1.2.1 dL_law_678 rfl (lv_at hl 0 rfl) ?_
  refine lv_iconst (v := 1) X.1.1 X.1.2.1 dL_law_679 (by decide) ?_
  refine lv_iadd X.1.1 X.1.2.1 dL_law_680 ?_
  refine va_sld (A := cx_A G) X.1.1 X.1.2.1 hX hbl hbA S.2.2.1 hv1 dL_law_681 ?_
  refine lv_aload_n X.1.1 X.1.2.1 dL_law_682 rfl (lv_at hl 1 rfl) ?_
  refine lv_iload_n X.1.1 X.1.2.1 dL_law_683 rfl (lv_at hl 0 rfl) ?_
  refine lv_iconst (v := 2) X.1.1 X.1.2.1 dL_law_684 (by decide) ?_
  refine lv_iadd X.1.1 X.1.2.1 dL_law_685 ?_
  refine va_sld (A := cx_A G) X.1.1 X.1.2.1 hX hbl hbA S.2.2.1 hv2 dL_law_686 ?_
  refine lv_aload_n X.1.1 X.1.2.1 dL_law_687 rfl (lv_at hl 1 rfl) ?_
  refine lv_iload_n X.1.1 X.1.2.1 dL_law_688 rfl (lv_at hl 0 rfl) ?_
  refine lv_iconst (v := 3) X.1.1 X.1.2.1 dL_law_689 (by decide) ?_
  refine lv_iadd X.1.1 X.1.2.1 dL_law_690 ?_
  refine va_sld (A := cx_A G) X.1.1 X.1.2.1 hX hbl hbA S.2.2.1 hv3 dL_law_691 ?_
  refine lg_Vl (I1 := z.1) (J1 := v.1) (r := v.2) (As := [.int (xs (x + 1).toNatClampNeg), .int (xs (x + 2).toNatClampNeg), .int (xs (x + 3).toNatClampNeg)]) (rest := [.long z.2]) X S (by omega) hcs (c_X9_chance hn e2) gd_L_97 ⟨rfl, ny_X9_chance⟩ ⟨rfl, rfl⟩ ⟨Nat.le_of_ble_eq_true rfl, Nat.le_of_ble_eq_true rfl⟩ (lg_recvL (k := 9) (i := 0) X S o9 rfl rfl) rfl rfl hl.1 (Nat.le_of_ble_eq_true rfl) dL_law_692 (fun H locs S => ?_)
  refine W.lcmp X.1.1 X.1.2.1 dL_law_695 ?_
  have e4 : lg_cmp z.2 v.2 = 0 := by rw [e3]; exact (lg_cmp_eq _ _).mpr rfl
  refine lv_if_eq (tgt := 985) X.1.1 X.1.2.1 dL_law_696 (by decide) (fun cq => ?_) (fun cq => absurd e4 (by first | exact cq | exact fun e => cq e))
  exact K n _ _ hI2 S hl (by omega) (by omega)
set_option maxRecDepth 100000 in
set_option maxHeartbeats 4000000 in
theorem lc_image {l : Launch} {G : cx_T} {p : Program} {e : Env} {s : State} {m : MethodId} {below : List Frame} {meth : Method} {c : Code} {b L : Nat} {xs : Nat → Int32} (X : cx_oi G p s m #[Value.ref b] meth c cL_law 4 RL ret) (hX : va_X b L xs s s.heap) (hbl : b < s.heap.size) (hbs : cx_b G = s.heap.size) {Inv : Nat → Nat → mm_T → mm_T → Prop} (sim : sm_image Inv) (h144 : ∀ (k n : Nat) (I J : mm_T), Inv k n I J → 144 ≤ n) {x : Int32} {cb sb kq : Nat} (hkq : kq ≤ 3072) (hcb : cb + 3 ≤ 600000) (hsb : sb + 195 ≤ 7302250) (K : ∀ (n : Nat) (I J : mm_T) {H : Heap} {locs : List Loc} {ls : Array Slot} {cells slots : Nat}, Inv (kq + 6) n I J → lg_ok G n (ly_cell G (mm_mx I J)) s H locs → lv_has ls 4 [(3, .int x), (0, .ref b), (1, .ref (cx_b G + ly_loc 8 0)), (2, .ref (cx_b G + ly_loc 9 0))] → cells ≤ cb + 3 → slots ≤ sb + 195 → W p l e room_1 s m #[Value.ref b] below meth c H locs cells slots (lw_Z below #[Value.ref b] s) (F0 m 985 ls [])) {n : Nat} {I J : mm_T} (hI : Inv kq n I J) {H : Heap} {locs : List Loc} {ls : Array Slot} {cells slots : Nat} (S : lg_ok G n (ly_cell G (mm_mx I J)) s H locs) (hl : lv_has ls 4 [(3, .int x), (0, .ref b), (1, .ref (cx_b G + ly_loc 8 0)), (2, .ref (cx_b G + ly_loc 9 0))]) (hc : cells ≤ cb) (hs : slots ≤ sb) : W p l e room_1 s m #[Value.ref b] below meth c H locs cells slots (lw_Z below #[Value.ref b] s) (F0 m 701 ls []) := by
  have hn := h144 kq n I J hI
  have hn0 : 111 ≤ n := by omega
  have hcs : cells ≤ room_1.cells ∧ slots ≤ room_1.slots := ⟨by show cells ≤ 600000; omega, by show slots ≤ 7302250; omega⟩
  have o8 : ly_ok n 8 0 := ly_ok_8 (by decide) hn0
  have o9 : ly_ok n 9 0 := ly_ok_9 (by decide) hn
  have hbA : ¬ cx_A G b := by show ¬ cx_b G ≤ b; omega
  obtain ⟨z, v, e1, e2, e3, hI2⟩ := sim kq n I J  hkq hI
  refine lv_aload_n X.1.1 X.1.2.1 dL_law_701 rfl (lv_at hl 2 rfl) ?_
  refine lg_Vi (I1 := z.1) (J1 := J) (r := z.2) (As := []) (rest := []) X S (by omega) hcs (c_X8_image hn e1) gd_L_98 ⟨rfl, ny_X8_image⟩ ⟨rfl, rfl⟩ ⟨Nat.le_of_ble_eq_true rfl, Nat.le_of_ble_eq_true rfl⟩ (lg_recvL (k := 8) (i := 0) X S o8 rfl rfl) rfl rfl hl.1 (Nat.le_of_ble_eq_true rfl) dL_law_702 (fun H locs S => ?_)
  refine lv_aload_n X.1.1 X.1.2.1 dL_law_705 rfl (lv_at hl 3 rfl) ?_
  refine lg_Vi (I1 := z.1) (J1 := v.1) (r := v.2) (As := []) (rest := [.int z.2]) X S (by omega) hcs (c_X9_image hn e2) gd_L_101 ⟨rfl, ny_X9_image⟩ ⟨rfl, rfl⟩ ⟨Nat.le_of_ble_eq_true rfl, Nat.le_of_ble_eq_true rfl⟩ (lg_recvL (k := 9) (i := 0) X S o9 rfl rfl) rfl rfl hl.1 (Nat.le_of_ble_eq_true rfl) dL_law_706 (fun H locs S => ?_)
  refine lv_icmp_eq (tgt := 985) X.1.1 X.1.2.1 dL_law_709 (by decide) (fun cq => ?_) (fun cq => absurd e3 (by first | exact cq | exact fun e => cq e))
  exact K n _ _ hI2 S hl (by omega) (by omega)
set_option maxRecDepth 100000 in
set_option maxHeartbeats 4000000 in
theorem lc_back {l : Launch} {G : cx_T} {p : Program} {e : Env} {s : State} {m : MethodId} {below : List Frame} {meth : Method} {c : Code} {b L : Nat} {xs : Nat → Int32} (X : cx_oi G p s m #[Value.ref b] meth c cL_law 4 RL ret) (hX : va_X b L xs s s.heap) (hbl : b < s.heap.size) (hbs : cx_b G = s.heap.size) {Inv : Nat → Nat → mm_T → mm_T → Prop} (sim : sm_back Inv) (h144 : ∀ (k n : Nat) (I J : mm_T), Inv k n I J → 144 ≤ n) {x : Int32} {cb sb kq : Nat} (hkq : kq ≤ 3072) (hcb : cb + 3 ≤ 600000) (hsb : sb + 195 ≤ 7302250) (K : ∀ (n : Nat) (I J : mm_T) {H : Heap} {locs : List Loc} {ls : Array Slot} {cells slots : Nat}, Inv (kq + 6) n I J → lg_ok G n (ly_cell G (mm_mx I J)) s H locs → lv_has ls 4 [(3, .int x), (0, .ref b), (1, .ref (cx_b G + ly_loc 8 0)), (2, .ref (cx_b G + ly_loc 9 0))] → cells ≤ cb + 3 → slots ≤ sb + 195 → W p l e room_1 s m #[Value.ref b] below meth c H locs cells slots (lw_Z below #[Value.ref b] s) (F0 m 985 ls [])) {n : Nat} {I J : mm_T} (hI : Inv kq n I J) {H : Heap} {locs : List Loc} {ls : Array Slot} {cells slots : Nat} (S : lg_ok G n (ly_cell G (mm_mx I J)) s H locs) (hl : lv_has ls 4 [(3, .int x), (0, .ref b), (1, .ref (cx_b G + ly_loc 8 0)), (2, .ref (cx_b G + ly_loc 9 0))]) (hc : cells ≤ cb) (hs : slots ≤ sb) : W p l e room_1 s m #[Value.ref b] below meth c H locs cells slots (lw_Z below #[Value.ref b] s) (F0 m 714 ls []) := by
  have hn := h144 kq n I J hI
  have hn0 : 111 ≤ n := by omega
  have hcs : cells ≤ room_1.cells ∧ slots ≤ room_1.slots := ⟨by show cells ≤ 600000; omega, by show slots ≤ 7302250; omega⟩
  have o8 : ly_ok n 8 0 := ly_ok_8 (by decide) hn0
  have o9 : ly_ok n 9 0 := ly_ok_9 (by decide) hn
  have hbA : ¬ cx_A G b := by show ¬ cx_b G ≤ b; omega
  obtain ⟨z, v, e1, e2, e3, hI2⟩ := sim kq n I J  hkq hI
  refine lv_aload_n X.1.1 X.1.2.1 dL_law_714 rfl (lv_at hl 2 rfl) ?_
  refine lg_Vi (I1 := z.1) (J1 := J) (r := z.2) (As := []) (rest := []) X S (by omega) hcs (c_X8_back hn e1) gd_L_102 ⟨rfl, ny_X8_back⟩ ⟨rfl, rfl⟩ ⟨Nat.le_of_ble_eq_true rfl, Nat.le_of_ble_eq_true rfl⟩ (lg_recvL (k := 8) (i := 0) X S o8 rfl rfl) rfl rfl hl.1 (Nat.le_of_ble_eq_true rfl) dL_law_715 (fun H locs S => ?_)
  refine lv_aload_n X.1.1 X.1.2.1 dL_law_718 rfl (lv_at hl 3 rfl) ?_
  refine lg_Vi (I1 := z.1) (J1 := v.1) (r := v.2) (As := []) (rest := [.int z.2]) X S (by omega) hcs (c_X9_back hn e2) gd_L_105 ⟨rfl, ny_X9_back⟩ ⟨rfl, rfl⟩ ⟨Nat.le_of_ble_eq_true rfl, Nat.le_of_ble_eq_true rfl⟩ (lg_recvL (k := 9) (i := 0) X S o9 rfl rfl) rfl rfl hl.1 (Nat.le_of_ble_eq_true rfl) dL_law_719 (fun H locs S => ?_)
  refine lv_icmp_eq (tgt := 985) X.1.1 X.1.2.1 dL_law_722 (by decide) (fun cq => ?_) (fun cq => absurd e3 (by first | exact cq | exact fun e => cq e))
  exact K n _ _ hI2 S hl (by omega) (by omega)
set_option maxRecDepth 100000 in
set_option maxHeartbeats 4000000 in
theorem lc_count {l : Launch} {G : cx_T} {p : Program} {e : Env} {s : State} {m : MethodId} {below : List Frame} {meth : Method} {c : Code} {b L : Nat} {xs : Nat → Int32} (X : cx_oi G p s m #[Value.ref b] meth c cL_law 4 RL ret) (hX : va_X b L xs s s.heap) (hbl : b < s.heap.size) (hbs : cx_b G = s.heap.size) {Inv : Nat → Nat → mm_T → mm_T → Prop} (sim : sm_count Inv) (h144 : ∀ (k n : Nat) (I J : mm_T), Inv k n I J → 144 ≤ n) {x : Int32} {cb sb kq : Nat} (hkq : kq ≤ 3072) (hcb : cb + 3 ≤ 600000) (hsb : sb + 195 ≤ 7302250) (hv1 : vp_in (x + 1) L) (K : ∀ (n : Nat) (I J : mm_T) {H : Heap} {locs : List Loc} {ls : Array Slot} {cells slots : Nat}, Inv (kq + 6) n I J → lg_ok G n (ly_cell G (mm_mx I J)) s H locs → lv_has ls 4 [(3, .int x), (0, .ref b), (1, .ref (cx_b G + ly_loc 8 0)), (2, .ref (cx_b G + ly_loc 9 0))] → cells ≤ cb + 3 → slots ≤ sb + 195 → W p l e room_1 s m #[Value.ref b] below meth c H locs cells slots (lw_Z below #[Value.ref b] s) (F0 m 985 ls [])) {n : Nat} {I J : mm_T} (hI : Inv kq n I J) {H : Heap} {locs : List Loc} {ls : Array Slot} {cells slots : Nat} (S : lg_ok G n (ly_cell G (mm_mx I J)) s H locs) (hl : lv_has ls 4 [(3, .int x), (0, .ref b), (1, .ref (cx_b G + ly_loc 8 0)), (2, .ref (cx_b G + ly_loc 9 0))]) (hc : cells ≤ cb) (hs : slots ≤ sb) : W p l e room_1 s m #[Value.ref b] below meth c H locs cells slots (lw_Z below #[Value.ref b] s) (F0 m 727 ls []) := by
  have hn := h144 kq n I J hI
  have hn0 : 111 ≤ n := by omega
  have hcs : cells ≤ room_1.cells ∧ slots ≤ room_1.slots := ⟨by show cells ≤ 600000; omega, by show slots ≤ 7302250; omega⟩
  have o8 : ly_ok n 8 0 := ly_ok_8 (by decide) hn0
  have o9 : ly_ok n 9 0 := ly_ok_9 (by decide) hn
  have hbA : ¬ cx_A G b := by show ¬ cx_b G ≤ b; omega
  obtain ⟨z, v, e1, e2, e3, hI2⟩ := sim kq n I J (xs (x + 1).toNatClampNeg) hkq hI
  refine lv_aload_n X.1.1 X.1.2.1 dL_law_727 rfl (lv_at hl 2 rfl) ?_
  refine lv_aload_n X.1.1 X.1.2.1 dL_law_728 rfl (lv_at hl 1 rfl) ?_
  refine lv_iload_n X.1.1 X.1.2.1 dL_law_729 rfl (lv_at hl 0 rfl) ?_
  refine lv_iconst (v := 1) X.1.1 X.1.2.1 dL_law_730 (by decide) ?_
  refine lv_iadd X.1.1 X.1.2.1 dL_law_731 ?_
  refine va_sld (A := cx_A G) X.1.1 X.1.2.1 hX hbl hbA S.2.2.1 hv1 dL_law_732 ?_
  refine lg_Vi (I1 := I) (J1 := J) (r := z) (As := [.int (xs (x + 1).toNatClampNeg)]) (rest := []) X S (by omega) hcs (c_X8_count hn e1) gd_L_106 ⟨rfl, ny_X8_count⟩ ⟨rfl, rfl⟩ ⟨Nat.le_of_ble_eq_true rfl, Nat.le_of_ble_eq_true rfl⟩ (lg_recvL (k := 8) (i := 0) X S o8 rfl rfl) rfl rfl hl.1 (Nat.le_of_ble_eq_true rfl) dL_law_733 (fun H locs S => ?_)
  refine lv_aload_n X.1.1 X.1.2.1 dL_law_736 rfl (lv_at hl 3 rfl) ?_
  refine lv_aload_n X.1.1 X.1.2.1 dL_law_737 rfl (lv_at hl 1 rfl) ?_
  refine lv_iload_n X.1.1 X.1.2.1 dL_law_738 rfl (lv_at hl 0 rfl) ?_
  refine lv_iconst (v := 1) X.1.1 X.1.2.1 dL_law_739 (by decide) ?_
  refine lv_iadd X.1.1 X.1.2.1 dL_law_740 ?_
  refine va_sld (A := cx_A G) X.1.1 X.1.2.1 hX hbl hbA S.2.2.1 hv1 dL_law_741 ?_
  refine lg_Vi (I1 := I) (J1 := J) (r := v) (As := [.int (xs (x + 1).toNatClampNeg)]) (rest := [.int z]) X S (by omega) hcs (c_X9_count hn e2) gd_L_109 ⟨rfl, ny_X9_count⟩ ⟨rfl, rfl⟩ ⟨Nat.le_of_ble_eq_true rfl, Nat.le_of_ble_eq_true rfl⟩ (lg_recvL (k := 9) (i := 0) X S o9 rfl rfl) rfl rfl hl.1 (Nat.le_of_ble_eq_true rfl) dL_law_742 (fun H locs S => ?_)
  refine lv_icmp_eq (tgt := 985) X.1.1 X.1.2.1 dL_law_745 (by decide) (fun cq => ?_) (fun cq => absurd e3 (by first | exact cq | exact fun e => cq e))
  exact K n _ _ hI2 S hl (by omega) (by omega)
set_option maxRecDepth 100000 in
set_option maxHeartbeats 4000000 in
theorem lc_sheet {l : Launch} {G : cx_T} {p : Program} {e : Env} {s : State} {m : MethodId} {below : List Frame} {meth : Method} {c : Code} {b L : Nat} {xs : Nat → Int32} (X : cx_oi G p s m #[Value.ref b] meth c cL_law 4 RL ret) (hX : va_X b L xs s s.heap) (hbl : b < s.heap.size) (hbs : cx_b G = s.heap.size) {Inv : Nat → Nat → mm_T → mm_T → Prop} (sim : sm_sheet Inv) (h144 : ∀ (k n : Nat) (I J : mm_T), Inv k n I J → 144 ≤ n) {x : Int32} {cb sb kq : Nat} (hkq : kq ≤ 3072) (hcb : cb + 3 ≤ 600000) (hsb : sb + 195 ≤ 7302250) (hv1 : vp_in (x + 1) L) (hv2 : vp_in (x + 2) L) (hv3 : vp_in (x + 3) L) (K : ∀ (n : Nat) (I J : mm_T) {H : Heap} {locs : List Loc} {ls : Array Slot} {cells slots : Nat}, Inv (kq + 6) n I J → lg_ok G n (ly_cell G (mm_mx I J)) s H locs → lv_has ls 4 [(3, .int x), (0, .ref b), (1, .ref (cx_b G + ly_loc 8 0)), (2, .ref (cx_b G + ly_loc 9 0))] → cells ≤ cb + 3 → slots ≤ sb + 195 → W p l e room_1 s m #[Value.ref b] below meth c H locs cells slots (lw_Z below #[Value.ref b] s) (F0 m 985 ls [])) {n : Nat} {I J : mm_T} (hI : Inv kq n I J) {H : Heap} {locs : List Loc} {ls : Array Slot} {cells slots : Nat} (S : lg_ok G n (ly_cell G (mm_mx I J)) s H locs) (hl : lv_has ls 4 [(3, .int x), (0, .ref b), (1, .ref (cx_b G + ly_loc 8 0)), (2, .ref (cx_b G + ly_loc 9 0))]) (hc : cells ≤ cb) (hs : slots ≤ sb) : W p l e room_1 s m #[Value.ref b] below meth c H locs cells slots (lw_Z below #[Value.ref b] s) (F0 m 750 ls []) := by
  have hn := h144 kq n I J hI
  have hn0 : 111 ≤ n := by omega
  have hcs : cells ≤ room_1.cells ∧ slots ≤ room_1.slots := ⟨by show cells ≤ 600000; omega, by show slots ≤ 7302250; omega⟩
  have o8 : ly_ok n 8 0 := ly_ok_8 (by decide) hn0
  have o9 : ly_ok n 9 0 := ly_ok_9 (by decide) hn
  have hbA : ¬ cx_A G b := by show ¬ cx_b G ≤ b; omega
  obtain ⟨z, v, e1, e2, e3, hI2⟩ := sim kq n I J (xs (x + 1).toNatClampNeg) (xs (x + 2).toNatClampNeg) (xs (x + 3).toNatClampNeg) hkq hI
  refine lv_aload_n X.1.1 X.1.2.1 dL_law_750 rfl (lv_at hl 2 rfl) ?_
  refine lv_aload_n X.1.1 X.1.2.1 dL_law_751 rfl (lv_at hl 1 rfl) ?_
  refine lv_iload_n X.1.1 X.1.2.1 dL_law_752 rfl (lv_at hl 0 rfl) ?_
  refine lv_iconst (v := 1) X.1.1 X.1.2.1 dL_law_753 (by decide) ?_
  refine lv_iadd X.1.1 X.1.2.1 dL_law_754 ?_
  refine va_sld (A := cx_A G) X.1.1 X.1.2.1 hX hbl hbA S.2.2.1 hv1 dL_law_755 ?_
  refine lv_aload_n X.1.1 X.1.2.1 dL_law_756 rfl (lv_at hl 1 rfl) ?_
  refine lv_iload_n X.1.1 X.1.2.1 dL_law_757 rfl (lv_at hl 0 rfl) ?_
  refine lv_iconst (v := 2) X.1.1 X.1.2.1 dL_law_758 (by decide) ?_
  refine lv_iadd X.1.1 X.1.2.1 dL_law_759 ?_
  refine va_sld (A := cx_A G) X.1.1 X.1.2.1 hX hbl hbA S.2.2.1 hv2 dL_law_760 ?_
  refine lv_aload_n X.1.1 X.1.2.1 dL_law_761 rfl (lv_at hl 1 rfl) ?_
  refine lv_iload_n X.1.1 X.1.2.1 dL_law_762 rfl (lv_at hl 0 rfl) ?_
  refine lv_iconst (v := 3) X.1.1 X.1.2.1 dL_law_763 (by decide) ?_
  refine lv_iadd X.1.1 X.1.2.1 dL_law_764 ?_
  refine va_sld (A := cx_A G) X.1.1 X.1.2.1 hX hbl hbA S.2.2.1 hv3 dL_law_765 ?_
  refine lg_Vi (I1 := z.1) (J1 := J) (r := z.2) (As := [.int (xs (x + 1).toNatClampNeg), .int (xs (x + 2).toNatClampNeg), .int (xs (x + 3).toNatClampNeg)]) (rest := []) X S (by omega) hcs (c_X8_sheet hn e1) gd_L_110 ⟨rfl, ny_X8_sheet⟩ ⟨rfl, rfl⟩ ⟨Nat.le_of_ble_eq_true rfl, Nat.le_of_ble_eq_true rfl⟩ (lg_recvL (k := 8) (i := 0) X S o8 rfl rfl) rfl rfl hl.1 (Nat.le_of_ble_eq_true rfl) dL_law_766 (fun H locs S => ?_)
  refine lv_aload_n X.1.1 X.1.2.1 dL_law_769 rfl (lv_at hl 3 rfl) ?_
  refine lv_aload_n X.1.1 X.1.2.1 dL_law_770 rfl (lv_at hl 1 rfl) ?_
  refine lv_iload_n X.1.1 X.1.2.1 dL_law_771 rfl (lv_at hl 0 rfl) ?_
  refine lv_iconst (v := 1) X.1.1 X.1.2.1 dL_law_772 (by decide) ?_
  refine lv_iadd X.1.1 X.1.2.1 dL_law_773 ?_
  refine va_sld (A := cx_A G) X.1.1 X.1.2.1 hX hbl hbA S.2.2.1 hv1 dL_law_774 ?_
  refine lv_aload_n X.1.1 X.1.2.1 dL_law_775 rfl (lv_at hl 1 rfl) ?_
  refine lv_iload_n X.1.1 X.1.2.1 dL_law_776 rfl (lv_at hl 0 rfl) ?_
  refine lv_iconst (v := 2) X.1.1 X.1.2.1 dL_law_777 (by decide) ?_
  refine lv_iadd X.1.1 X.1.2.1 dL_law_778 ?_
  refine va_sld (A := cx_A G) X.1.1 X.1.2.1 hX hbl hbA S.2.2.1 hv2 dL_law_779 ?_
  refine lv_aload_n X.1.1 X.1.2.1 dL_law_780 rfl (lv_at hl 1 rfl) ?_
  refine lv_iload_n X.1.1 X.1.2.1 dL_law_781 rfl (lv_at hl 0 rfl) ?_
  refine lv_iconst (v := 3) X.1.1 X.1.2.1 dL_law_782 (by decide) ?_
  refine lv_iadd X.1.1 X.1.2.1 dL_law_783 ?_
  refine va_sld (A := cx_A G) X.1.1 X.1.2.1 hX hbl hbA S.2.2.1 hv3 dL_law_784 ?_
  refine lg_Vi (I1 := z.1) (J1 := v.1) (r := v.2) (As := [.int (xs (x + 1).toNatClampNeg), .int (xs (x + 2).toNatClampNeg), .int (xs (x + 3).toNatClampNeg)]) (rest := [.int z.2]) X S (by omega) hcs (c_X9_sheet hn e2) gd_L_113 ⟨rfl, ny_X9_sheet⟩ ⟨rfl, rfl⟩ ⟨Nat.le_of_ble_eq_true rfl, Nat.le_of_ble_eq_true rfl⟩ (lg_recvL (k := 9) (i := 0) X S o9 rfl rfl) rfl rfl hl.1 (Nat.le_of_ble_eq_true rfl) dL_law_785 (fun H locs S => ?_)
  refine lv_icmp_eq (tgt := 985) X.1.1 X.1.2.1 dL_law_788 (by decide) (fun cq => ?_) (fun cq => absurd e3 (by first | exact cq | exact fun e => cq e))
  exact K n _ _ hI2 S hl (by omega) (by omega)
set_option maxRecDepth 100000 in
set_option maxHeartbeats 4000000 in
theorem lc_cell {l : Launch} {G : cx_T} {p : Program} {e : Env} {s : State} {m : MethodId} {below : List Frame} {meth : Method} {c : Code} {b L : Nat} {xs : Nat → Int32} (X : cx_oi G p s m #[Value.ref b] meth c cL_law 4 RL ret) (hX : va_X b L xs s s.heap) (hbl : b < s.heap.size) (hbs : cx_b G = s.heap.size) {Inv : Nat → Nat → mm_T → mm_T → Prop} (sim : sm_cell Inv) (h144 : ∀ (k n : Nat) (I J : mm_T), Inv k n I J → 144 ≤ n) {x : Int32} {cb sb kq : Nat} (hkq : kq ≤ 3072) (hcb : cb + 3 ≤ 600000) (hsb : sb + 195 ≤ 7302250) (hv1 : vp_in (x + 1) L) (hv2 : vp_in (x + 2) L) (hv3 : vp_in (x + 3) L) (K : ∀ (n : Nat) (I J : mm_T) {H : Heap} {locs : List Loc} {ls : Array Slot} {cells slots : Nat}, Inv (kq + 6) n I J → lg_ok G n (ly_cell G (mm_mx I J)) s H locs → lv_has ls 4 [(3, .int x), (0, .ref b), (1, .ref (cx_b G + ly_loc 8 0)), (2, .ref (cx_b G + ly_loc 9 0))] → cells ≤ cb + 3 → slots ≤ sb + 195 → W p l e room_1 s m #[Value.ref b] below meth c H locs cells slots (lw_Z below #[Value.ref b] s) (F0 m 985 ls [])) {n : Nat} {I J : mm_T} (hI : Inv kq n I J) {H : Heap} {locs : List Loc} {ls : Array Slot} {cells slots : Nat} (S : lg_ok G n (ly_cell G (mm_mx I J)) s H locs) (hl : lv_has ls 4 [(3, .int x), (0, .ref b), (1, .ref (cx_b G + ly_loc 8 0)), (2, .ref (cx_b G + ly_loc 9 0))]) (hc : cells ≤ cb) (hs : slots ≤ sb) : W p l e room_1 s m #[Value.ref b] below meth c H locs cells slots (lw_Z below #[Value.ref b] s) (F0 m 793 ls []) := by
  have hn := h144 kq n I J hI
  have hn0 : 111 ≤ n := by omega
  have hcs : cells ≤ room_1.cells ∧ slots ≤ room_1.slots := ⟨by show cells ≤ 600000; omega, by show slots ≤ 7302250; omega⟩
  have o8 : ly_ok n 8 0 := ly_ok_8 (by decide) hn0
  have o9 : ly_ok n 9 0 := ly_ok_9 (by decide) hn
  have hbA : ¬ cx_A G b := by show ¬ cx_b G ≤ b; omega
  obtain ⟨z, v, e1, e2, e3, hI2⟩ := sim kq n I J (xs (x + 1).toNatClampNeg) (xs (x + 2).toNatClampNeg) (xs (x + 3).toNatClampNeg) hkq hI
  refine lv_aload_n X.1.1 X.1.2.1 dL_law_793 rfl (lv_at hl 2 rfl) ?_
  refine lv_aload_n X.1.1 X.1.2.1 dL_law_794 rfl (lv_at hl 1 rfl) ?_
  refine lv_iload_n X.1.1 X.1.2.1 dL_law_795 rfl (lv_at hl 0 rfl) ?_
  refine lv_iconst (v := 1) X.1.1 X.1.2.1 dL_law_796 (by decide) ?_
  refine lv_iadd X.1.1 X.1.2.1 dL_law_797 ?_
  refine va_sld (A := cx_A G) X.1.1 X.1.2.1 hX hbl hbA S.2.2.1 hv1 dL_law_798 ?_
  refine lv_aload_n X.1.1 X.1.2.1 dL_law_799 rfl (lv_at hl 1 rfl) ?_
  refine lv_iload_n X.1.1 X.1.2.1 dL_law_800 rfl (lv_at hl 0 rfl) ?_
  refine lv_iconst (v := 2) X.1.1 X.1.2.1 dL_law_801 (by decide) ?_
  refine lv_iadd X.1.1 X.1.2.1 dL_law_802 ?_
  refine va_sld (A := cx_A G) X.1.1 X.1.2.1 hX hbl hbA S.2.2.1 hv2 dL_law_803 ?_
  refine lv_aload_n X.1.1 X.1.2.1 dL_law_804 rfl (lv_at hl 1 rfl) ?_
  refine lv_iload_n X.1.1 X.1.2.1 dL_law_805 rfl (lv_at hl 0 rfl) ?_
  refine lv_iconst (v := 3) X.1.1 X.1.2.1 dL_law_806 (by decide) ?_
  refine lv_iadd X.1.1 X.1.2.1 dL_law_807 ?_
  refine va_sld (A := cx_A G) X.1.1 X.1.2.1 hX hbl hbA S.2.2.1 hv3 dL_law_808 ?_
  refine lg_Vi (I1 := z.1) (J1 := J) (r := z.2) (As := [.int (xs (x + 1).toNatClampNeg), .int (xs (x + 2).toNatClampNeg), .int (xs (x + 3).toNatClampNeg)]) (rest := []) X S (by omega) hcs (c_X8_cell hn e1) gd_L_114 ⟨rfl, ny_X8_cell⟩ ⟨rfl, rfl⟩ ⟨Nat.le_of_ble_eq_true rfl, Nat.le_of_ble_eq_true rfl⟩ (lg_recvL (k := 8) (i := 0) X S o8 rfl rfl) rfl rfl hl.1 (Nat.le_of_ble_eq_true rfl) dL_law_809 (fun H locs S => ?_)
  refine lv_aload_n X.1.1 X.1.2.1 dL_law_812 rfl (lv_at hl 3 rfl) ?_
  refine lv_aload_n X.1.1 X.1.2.1 dL_law_813 rfl (lv_at hl 1 rfl) ?_
  refine lv_iload_n X.1.1 X.1.2.1 dL_law_814 rfl (lv_at hl 0 rfl) ?_
  refine lv_iconst (v := 1) X.1.1 X.1.2.1 dL_law_815 (by decide) ?_
  refine lv_iadd X.1.1 X.1.2.1 dL_law_816 ?_
  refine va_sld (A := cx_A G) X.1.1 X.1.2.1 hX hbl hbA S.2.2.1 hv1 dL_law_817 ?_
  refine lv_aload_n X.1.1 X.1.2.1 dL_law_818 rfl (lv_at hl 1 rfl) ?_
  refine lv_iload_n X.1.1 X.1.2.1 dL_law_819 rfl (lv_at hl 0 rfl) ?_
  refine lv_iconst (v := 2) X.1.1 X.1.2.1 dL_law_820 (by decide) ?_
  refine lv_iadd X.1.1 X.1.2.1 dL_law_821 ?_
  refine va_sld (A := cx_A G) X.1.1 X.1.2.1 hX hbl hbA S.2.2.1 hv2 dL_law_822 ?_
  refine lv_aload_n X.1.1 X.1.2.1 dL_law_823 rfl (lv_at hl 1 rfl) ?_
  refine lv_iload_n X.1.1 X.1.2.1 dL_law_824 rfl (lv_at hl 0 rfl) ?_
  refine lv_iconst (v := 3) X.1.1 X.1.2.1 dL_law_825 (by decide) ?_
  refine lv_iadd X.1.1 X.1.2.1 dL_law_826 ?_
  refine va_sld (A := cx_A G) X.1.1 X.1.2.1 hX hbl hbA S.2.2.1 hv3 dL_law_827 ?_
  refine lg_Vi (I1 := z.1) (J1 := v.1) (r := v.2) (As := [.int (xs (x + 1).toNatClampNeg), .int (xs (x + 2).toNatClampNeg), .int (xs (x + 3).toNatClampNeg)]) (rest := [.int z.2]) X S (by omega) hcs (c_X9_cell hn e2) gd_L_117 ⟨rfl, ny_X9_cell⟩ ⟨rfl, rfl⟩ ⟨Nat.le_of_ble_eq_true rfl, Nat.le_of_ble_eq_true rfl⟩ (lg_recvL (k := 9) (i := 0) X S o9 rfl rfl) rfl rfl hl.1 (Nat.le_of_ble_eq_true rfl) dL_law_828 (fun H locs S => ?_)
  refine lv_icmp_eq (tgt := 985) X.1.1 X.1.2.1 dL_law_831 (by decide) (fun cq => ?_) (fun cq => absurd e3 (by first | exact cq | exact fun e => cq e))
  exact K n _ _ hI2 S hl (by omega) (by omega)
set_option maxRecDepth 100000 in
set_option maxHeartbeats 4000000 in
theorem lc_copy {l : Launch} {G : cx_T} {p : Program} {e : Env} {s : State} {m : MethodId} {below : List Frame} {meth : Method} {c : Code} {b L : Nat} {xs : Nat → Int32} (X : cx_oi G p s m #[Value.ref b] meth c cL_law 4 RL ret) (hX : va_X b L xs s s.heap) (hbl : b < s.heap.size) (hbs : cx_b G = s.heap.size) {Inv : Nat → Nat → mm_T → mm_T → Prop} (sim : sm_copy Inv) (h144 : ∀ (k n : Nat) (I J : mm_T), Inv k n I J → 144 ≤ n) {x : Int32} {cb sb kq : Nat} (hkq : kq ≤ 3072) (hcb : cb + 3 ≤ 600000) (hsb : sb + 195 ≤ 7302250) (hv1 : vp_in (x + 1) L) (hv2 : vp_in (x + 2) L) (hv3 : vp_in (x + 3) L) (hv4 : vp_in (x + 4) L) (hv5 : vp_in (x + 5) L) (K : ∀ (n : Nat) (I J : mm_T) {H : Heap} {locs : List Loc} {ls : Array Slot} {cells slots : Nat}, Inv (kq + 6) n I J → lg_ok G n (ly_cell G (mm_mx I J)) s H locs → lv_has ls 4 [(3, .int x), (0, .ref b), (1, .ref (cx_b G + ly_loc 8 0)), (2, .ref (cx_b G + ly_loc 9 0))] → cells ≤ cb + 3 → slots ≤ sb + 195 → W p l e room_1 s m #[Value.ref b] below meth c H locs cells slots (lw_Z below #[Value.ref b] s) (F0 m 985 ls [])) {n : Nat} {I J : mm_T} (hI : Inv kq n I J) {H : Heap} {locs : List Loc} {ls : Array Slot} {cells slots : Nat} (S : lg_ok G n (ly_cell G (mm_mx I J)) s H locs) (hl : lv_has ls 4 [(3, .int x), (0, .ref b), (1, .ref (cx_b G + ly_loc 8 0)), (2, .ref (cx_b G + ly_loc 9 0))]) (hc : cells ≤ cb) (hs : slots ≤ sb) : W p l e room_1 s m #[Value.ref b] below meth c H locs cells slots (lw_Z below #[Value.ref b] s) (F0 m 836 ls []) := by
  have hn := h144 kq n I J hI
  have hn0 : 111 ≤ n := by omega
  have hcs : cells ≤ room_1.cells ∧ slots ≤ room_1.slots := ⟨by show cells ≤ 600000; omega, by show slots ≤ 7302250; omega⟩
  have o8 : ly_ok n 8 0 := ly_ok_8 (by decide) hn0
  have o9 : ly_ok n 9 0 := ly_ok_9 (by decide) hn
  have hbA : ¬ cx_A G b := by show ¬ cx_b G ≤ b; omega
  obtain ⟨z, v, e1, e2, e3, hI2⟩ := sim kq n I J (xs (x + 1).toNatClampNeg) (xs (x + 2).toNatClampNeg) (xs (x + 3).toNatClampNeg) (xs (x + 4).toNatClampNeg) (xs (x + 5).toNatClampNeg) hkq hI
  refine lv_aload_n X.1.1 X.1.2.1 dL_law_836 rfl (lv_at hl 2 rfl) ?_
  refine lv_aload_n X.1.1 X.1.2.1 dL_law_837 rfl (lv_at hl 1 rfl) ?_
  refine lv_iload_n X.1.1 X.1.2.1 dL_law_838 rfl (lv_at hl 0 rfl) ?_
  refine lv_iconst (v := 1) X.1.1 X.1.2.1 dL_law_839 (by decide) ?_
  refine lv_iadd X.1.1 X.1.2.1 dL_law_840 ?_
  refine va_sld (A := cx_A G) X.1.1 X.1.2.1 hX hbl hbA S.2.2.1 hv1 dL_law_841 ?_
  refine lv_aload_n X.1.1 X.1.2.1 dL_law_842 rfl (lv_at hl 1 rfl) ?_
  refine lv_iload_n X.1.1 X.1.2.1 dL_law_843 rfl (lv_at hl 0 rfl) ?_
  refine lv_iconst (v := 2) X.1.1 X.1.2.1 dL_law_844 (by decide) ?_
  refine lv_iadd X.1.1 X.1.2.1 dL_law_845 ?_
  refine va_sld (A := cx_A G) X.1.1 X.1.2.1 hX hbl hbA S.2.2.1 hv2 dL_law_846 ?_
  refine lv_aload_n X.1.1 X.1.2.1 dL_law_847 rfl (lv_at hl 1 rfl) ?_
  refine lv_iload_n X.1.1 X.1.2.1 dL_law_848 rfl (lv_at hl 0 rfl) ?_
  refine lv_iconst (v := 3) X.1.1 X.1.2.1 dL_law_849 (by decide) ?_
  refine lv_iadd X.1.1 X.1.2.1 dL_law_850 ?_
  refine va_sld (A := cx_A G) X.1.1 X.1.2.1 hX hbl hbA S.2.2.1 hv3 dL_law_851 ?_
  refine lv_aload_n X.1.1 X.1.2.1 dL_law_852 rfl (lv_at hl 1 rfl) ?_
  refine lv_iload_n X.1.1 X.1.2.1 dL_law_853 rfl (lv_at hl 0 rfl) ?_
  refine lv_iconst (v := 4) X.1.1 X.1.2.1 dL_law_854 (by decide) ?_
  refine lv_iadd X.1.1 X.1.2.1 dL_law_855 ?_
  refine va_sld (A := cx_A G) X.1.1 X.1.2.1 hX hbl hbA S.2.2.1 hv4 dL_law_856 ?_
  refine lv_aload_n X.1.1 X.1.2.1 dL_law_857 rfl (lv_at hl 1 rfl) ?_
  refine lv_iload_n X.1.1 X.1.2.1 dL_law_858 rfl (lv_at hl 0 rfl) ?_
  refine lv_iconst (v := 5) X.1.1 X.1.2.1 dL_law_859 (by decide) ?_
  refine lv_iadd X.1.1 X.1.2.1 dL_law_860 ?_
  refine va_sld (A := cx_A G) X.1.1 X.1.2.1 hX hbl hbA S.2.2.1 hv5 dL_law_861 ?_
  refine lg_Vi (I1 := z.1) (J1 := J) (r := z.2) (As := [.int (xs (x + 1).toNatClampNeg), .int (xs (x + 2).toNatClampNeg), .int (xs (x + 3).toNatClampNeg), .int (xs (x + 4).toNatClampNeg), .int (xs (x + 5).toNatClampNeg)]) (rest := []) X S (by omega) hcs (c_X8_copy hn e1) gd_L_118 ⟨rfl, ny_X8_copy⟩ ⟨rfl, rfl⟩ ⟨Nat.le_of_ble_eq_true rfl, Nat.le_of_ble_eq_true rfl⟩ (lg_recvL (k := 8) (i := 0) X S o8 rfl rfl) rfl rfl hl.1 (Nat.le_of_ble_eq_true rfl) dL_law_862 (fun H locs S => ?_)
  refine lv_aload_n X.1.1 X.1.2.1 dL_law_865 rfl (lv_at hl 3 rfl) ?_
  refine lv_aload_n X.1.1 X.1.2.1 dL_law_866 rfl (lv_at hl 1 rfl) ?_
  refine lv_iload_n X.1.1 X.1.2.1 dL_law_867 rfl (lv_at hl 0 rfl) ?_
  refine lv_iconst (v := 1) X.1.1 X.1.2.1 dL_law_868 (by decide) ?_
  refine lv_iadd X.1.1 X.1.2.1 dL_law_869 ?_
  refine va_sld (A := cx_A G) X.1.1 X.1.2.1 hX hbl hbA S.2.2.1 hv1 dL_law_870 ?_
  refine lv_aload_n X.1.1 X.1.2.1 dL_law_871 rfl (lv_at hl 1 rfl) ?_
  refine lv_iload_n X.1.1 X.1.2.1 dL_law_872 rfl (lv_at hl 0 rfl) ?_
  refine lv_iconst (v := 2) X.1.1 X.1.2.1 dL_law_873 (by decide) ?_
  refine lv_iadd X.1.1 X.1.2.1 dL_law_874 ?_
  refine va_sld (A := cx_A G) X.1.1 X.1.2.1 hX hbl hbA S.2.2.1 hv2 dL_law_875 ?_
  refine lv_aload_n X.1.1 X.1.2.1 dL_law_876 rfl (lv_at hl 1 rfl) ?_
  refine lv_iload_n X.1.1 X.1.2.1 dL_law_877 rfl (lv_at hl 0 rfl) ?_
  refine lv_iconst (v := 3) X.1.1 X.1.2.1 dL_law_878 (by decide) ?_
  refine lv_iadd X.1.1 X.1.2.1 dL_law_879 ?_
  refine va_sld (A := cx_A G) X.1.1 X.1.2.1 hX hbl hbA S.2.2.1 hv3 dL_law_880 ?_
  refine lv_aload_n X.1.1 X.1.2.1 dL_law_881 rfl (lv_at hl 1 rfl) ?_
  refine lv_iload_n X.1.1 X.1.2.1 dL_law_882 rfl (lv_at hl 0 rfl) ?_
  refine lv_iconst (v := 4) X.1.1 X.1.2.1 dL_law_883 (by decide) ?_
  refine lv_iadd X.1.1 X.1.2.1 dL_law_884 ?_
  refine va_sld (A := cx_A G) X.1.1 X.1.2.1 hX hbl hbA S.2.2.1 hv4 dL_law_885 ?_
  refine lv_aload_n X.1.1 X.1.2.1 dL_law_886 rfl (lv_at hl 1 rfl) ?_
  refine lv_iload_n X.1.1 X.1.2.1 dL_law_887 rfl (lv_at hl 0 rfl) ?_
  refine lv_iconst (v := 5) X.1.1 X.1.2.1 dL_law_888 (by decide) ?_
  refine lv_iadd X.1.1 X.1.2.1 dL_law_889 ?_
  refine va_sld (A := cx_A G) X.1.1 X.1.2.1 hX hbl hbA S.2.2.1 hv5 dL_law_890 ?_
  refine lg_Vi (I1 := z.1) (J1 := v.1) (r := v.2) (As := [.int (xs (x + 1).toNatClampNeg), .int (xs (x + 2).toNatClampNeg), .int (xs (x + 3).toNatClampNeg), .int (xs (x + 4).toNatClampNeg), .int (xs (x + 5).toNatClampNeg)]) (rest := [.int z.2]) X S (by omega) hcs (c_X9_copy hn e2) gd_L_122 ⟨rfl, ny_X9_copy⟩ ⟨rfl, rfl⟩ ⟨Nat.le_of_ble_eq_true rfl, Nat.le_of_ble_eq_true rfl⟩ (lg_recvL (k := 9) (i := 0) X S o9 rfl rfl) rfl rfl hl.1 (Nat.le_of_ble_eq_true rfl) dL_law_891 (fun H locs S => ?_)
  refine lv_icmp_eq (tgt := 985) X.1.1 X.1.2.1 dL_law_894 (by decide) (fun cq => ?_) (fun cq => absurd e3 (by first | exact cq | exact fun e => cq e))
  exact K n _ _ hI2 S hl (by omega) (by omega)
set_option maxRecDepth 100000 in
set_option maxHeartbeats 4000000 in
theorem lc_slips {l : Launch} {G : cx_T} {p : Program} {e : Env} {s : State} {m : MethodId} {below : List Frame} {meth : Method} {c : Code} {b L : Nat} {xs : Nat → Int32} (X : cx_oi G p s m #[Value.ref b] meth c cL_law 4 RL ret) (hX : va_X b L xs s s.heap) (hbl : b < s.heap.size) (hbs : cx_b G = s.heap.size) {Inv : Nat → Nat → mm_T → mm_T → Prop} (sim : sm_slips Inv) (h144 : ∀ (k n : Nat) (I J : mm_T), Inv k n I J → 144 ≤ n) {x : Int32} {cb sb kq : Nat} (hkq : kq ≤ 3072) (hcb : cb + 3 ≤ 600000) (hsb : sb + 195 ≤ 7302250) (hv1 : vp_in (x + 1) L) (hv2 : vp_in (x + 2) L) (hv3 : vp_in (x + 3) L) (hv4 : vp_in (x + 4) L) (K : ∀ (n : Nat) (I J : mm_T) {H : Heap} {locs : List Loc} {ls : Array Slot} {cells slots : Nat}, Inv (kq + 6) n I J → lg_ok G n (ly_cell G (mm_mx I J)) s H locs → lv_has ls 4 [(3, .int x), (0, .ref b), (1, .ref (cx_b G + ly_loc 8 0)), (2, .ref (cx_b G + ly_loc 9 0))] → cells ≤ cb + 3 → slots ≤ sb + 195 → W p l e room_1 s m #[Value.ref b] below meth c H locs cells slots (lw_Z below #[Value.ref b] s) (F0 m 985 ls [])) {n : Nat} {I J : mm_T} (hI : Inv kq n I J) {H : Heap} {locs : List Loc} {ls : Array Slot} {cells slots : Nat} (S : lg_ok G n (ly_cell G (mm_mx I J)) s H locs) (hl : lv_has ls 4 [(3, .int x), (0, .ref b), (1, .ref (cx_b G + ly_loc 8 0)), (2, .ref (cx_b G + ly_loc 9 0))]) (hc : cells ≤ cb) (hs : slots ≤ sb) : W p l e room_1 s m #[Value.ref b] below meth c H locs cells slots (lw_Z below #[Value.ref b] s) (F0 m 899 ls []) := by
  have hn := h144 kq n I J hI
  have hn0 : 111 ≤ n := by omega
  have hcs : cells ≤ room_1.cells ∧ slots ≤ room_1.slots := ⟨by show cells ≤ 600000; omega, by show slots ≤ 7302250; omega⟩
  have o8 : ly_ok n 8 0 := ly_ok_8 (by decide) hn0
  have o9 : ly_ok n 9 0 := ly_ok_9 (by decide) hn
  have hbA : ¬ cx_A G b := by show ¬ cx_b G ≤ b; omega
  obtain ⟨z, v, e1, e2, e3, hI2⟩ := sim kq n I J (xs (x + 1).toNatClampNeg) (xs (x + 2).toNatClampNeg) (xs (x + 3).toNatClampNeg) (xs (x + 4).toNatClampNeg) hkq hI
  refine lv_aload_n X.1.1 X.1.2.1 dL_law_899 rfl (lv_at hl 2 rfl) ?_
  refine lv_aload_n X.1.1 X.1.2.1 dL_law_900 rfl (lv_at hl 1 rfl) ?_
  refine lv_iload_n X.1.1 X.1.2.1 dL_law_901 rfl (lv_at hl 0 rfl) ?_
  refine lv_iconst (v := 1) X.1.1 X.1.2.1 dL_law_902 (by decide) ?_
  refine lv_iadd X.1.1 X.1.2.1 dL_law_903 ?_
  refine va_sld (A := cx_A G) X.1.1 X.1.2.1 hX hbl hbA S.2.2.1 hv1 dL_law_904 ?_
  refine lv_aload_n X.1.1 X.1.2.1 dL_law_905 rfl (lv_at hl 1 rfl) ?_
  refine lv_iload_n X.1.1 X.1.2.1 dL_law_906 rfl (lv_at hl 0 rfl) ?_
  refine lv_iconst (v := 2) X.1.1 X.1.2.1 dL_law_907 (by decide) ?_
  refine lv_iadd X.1.1 X.1.2.1 dL_law_908 ?_
  refine va_sld (A := cx_A G) X.1.1 X.1.2.1 hX hbl hbA S.2.2.1 hv2 dL_law_909 ?_
  refine lv_aload_n X.1.1 X.1.2.1 dL_law_910 rfl (lv_at hl 1 rfl) ?_
  refine lv_iload_n X.1.1 X.1.2.1 dL_law_911 rfl (lv_at hl 0 rfl) ?_
  refine lv_iconst (v := 3) X.1.1 X.1.2.1 dL_law_912 (by decide) ?_
  refine lv_iadd X.1.1 X.1.2.1 dL_law_913 ?_
  refine va_sld (A := cx_A G) X.1.1 X.1.2.1 hX hbl hbA S.2.2.1 hv3 dL_law_914 ?_
  refine lv_aload_n X.1.1 X.1.2.1 dL_law_915 rfl (lv_at hl 1 rfl) ?_
  refine lv_iload_n X.1.1 X.1.2.1 dL_law_916 rfl (lv_at hl 0 rfl) ?_
  refine lv_iconst (v := 4) X.1.1 X.1.2.1 dL_law_917 (by decide) ?_
  refine lv_iadd X.1.1 X.1.2.1 dL_law_918 ?_
  refine va_sld (A := cx_A G) X.1.1 X.1.2.1 hX hbl hbA S.2.2.1 hv4 dL_law_919 ?_
  refine lg_Vi (I1 := z.1) (J1 := J) (r := z.2) (As := [.int (xs (x + 1).toNatClampNeg), .int (xs (x + 2).toNatClampNeg), .int (xs (x + 3).toNatClampNeg), .int (xs (x + 4).toNatClampNeg)]) (rest := []) X S (by omega) hcs (c_X8_slips hn e1) gd_L_123 ⟨rfl, ny_X8_slips⟩ ⟨rfl, rfl⟩ ⟨Nat.le_of_ble_eq_true rfl, Nat.le_of_ble_eq_true rfl⟩ (lg_recvL (k := 8) (i := 0) X S o8 rfl rfl) rfl rfl hl.1 (Nat.le_of_ble_eq_true rfl) dL_law_920 (fun H locs S => ?_)
  refine lv_aload_n X.1.1 X.1.2.1 dL_law_923 rfl (lv_at hl 3 rfl) ?_
  refine lv_aload_n X.1.1 X.1.2.1 dL_law_924 rfl (lv_at hl 1 rfl) ?_
  refine lv_iload_n X.1.1 X.1.2.1 dL_law_925 rfl (lv_at hl 0 rfl) ?_
  refine lv_iconst (v := 1) X.1.1 X.1.2.1 dL_law_926 (by decide) ?_
  refine lv_iadd X.1.1 X.1.2.1 dL_law_927 ?_
  refine va_sld (A := cx_A G) X.1.1 X.1.2.1 hX hbl hbA S.2.2.1 hv1 dL_law_928 ?_
  refine lv_aload_n X.1.1 X.1.2.1 dL_law_929 rfl (lv_at hl 1 rfl) ?_
  refine lv_iload_n X.1.1 X.1.2.1 dL_law_930 rfl (lv_at hl 0 rfl) ?_
  refine lv_iconst (v := 2) X.1.1 X.1.2.1 dL_law_931 (by decide) ?_
  refine lv_iadd X.1.1 X.1.2.1 dL_law_932 ?_
  refine va_sld (A := cx_A G) X.1.1 X.1.2.1 hX hbl hbA S.2.2.1 hv2 dL_law_933 ?_
  refine lv_aload_n X.1.1 X.1.2.1 dL_law_934 rfl (lv_at hl 1 rfl) ?_
  refine lv_iload_n X.1.1 X.1.2.1 dL_law_935 rfl (lv_at hl 0 rfl) ?_
  refine lv_iconst (v := 3) X.1.1 X.1.2.1 dL_law_936 (by decide) ?_
  refine lv_iadd X.1.1 X.1.2.1 dL_law_937 ?_
  refine va_sld (A := cx_A G) X.1.1 X.1.2.1 hX hbl hbA S.2.2.1 hv3 dL_law_938 ?_
  refine lv_aload_n X.1.1 X.1.2.1 dL_law_939 rfl (lv_at hl 1 rfl) ?_
  refine lv_iload_n X.1.1 X.1.2.1 dL_law_940 rfl (lv_at hl 0 rfl) ?_
  refine lv_iconst (v := 4) X.1.1 X.1.2.1 dL_law_941 (by decide) ?_
  refine lv_iadd X.1.1 X.1.2.1 dL_law_942 ?_
  refine va_sld (A := cx_A G) X.1.1 X.1.2.1 hX hbl hbA S.2.2.1 hv4 dL_law_943 ?_
  refine lg_Vi (I1 := z.1) (J1 := v.1) (r := v.2) (As := [.int (xs (x + 1).toNatClampNeg), .int (xs (x + 2).toNatClampNeg), .int (xs (x + 3).toNatClampNeg), .int (xs (x + 4).toNatClampNeg)]) (rest := [.int z.2]) X S (by omega) hcs (c_X9_slips hn e2) gd_L_127 ⟨rfl, ny_X9_slips⟩ ⟨rfl, rfl⟩ ⟨Nat.le_of_ble_eq_true rfl, Nat.le_of_ble_eq_true rfl⟩ (lg_recvL (k := 9) (i := 0) X S o9 rfl rfl) rfl rfl hl.1 (Nat.le_of_ble_eq_true rfl) dL_law_944 (fun H locs S => ?_)
  refine lv_icmp_eq (tgt := 985) X.1.1 X.1.2.1 dL_law_947 (by decide) (fun cq => ?_) (fun cq => absurd e3 (by first | exact cq | exact fun e => cq e))
  exact K n _ _ hI2 S hl (by omega) (by omega)
set_option maxRecDepth 100000 in
set_option maxHeartbeats 4000000 in
theorem lc_taken {l : Launch} {G : cx_T} {p : Program} {e : Env} {s : State} {m : MethodId} {below : List Frame} {meth : Method} {c : Code} {b L : Nat} {xs : Nat → Int32} (X : cx_oi G p s m #[Value.ref b] meth c cL_law 4 RL ret) (hX : va_X b L xs s s.heap) (hbl : b < s.heap.size) (hbs : cx_b G = s.heap.size) {Inv : Nat → Nat → mm_T → mm_T → Prop} (sim : sm_taken Inv) (h144 : ∀ (k n : Nat) (I J : mm_T), Inv k n I J → 144 ≤ n) {x : Int32} {cb sb kq : Nat} (hkq : kq ≤ 3072) (hcb : cb + 3 ≤ 600000) (hsb : sb + 195 ≤ 7302250) (hv1 : vp_in (x + 1) L) (hv2 : vp_in (x + 2) L) (K : ∀ (n : Nat) (I J : mm_T) {H : Heap} {locs : List Loc} {ls : Array Slot} {cells slots : Nat}, Inv (kq + 6) n I J → lg_ok G n (ly_cell G (mm_mx I J)) s H locs → lv_has ls 4 [(3, .int x), (0, .ref b), (1, .ref (cx_b G + ly_loc 8 0)), (2, .ref (cx_b G + ly_loc 9 0))] → cells ≤ cb + 3 → slots ≤ sb + 195 → W p l e room_1 s m #[Value.ref b] below meth c H locs cells slots (lw_Z below #[Value.ref b] s) (F0 m 985 ls [])) {n : Nat} {I J : mm_T} (hI : Inv kq n I J) {H : Heap} {locs : List Loc} {ls : Array Slot} {cells slots : Nat} (S : lg_ok G n (ly_cell G (mm_mx I J)) s H locs) (hl : lv_has ls 4 [(3, .int x), (0, .ref b), (1, .ref (cx_b G + ly_loc 8 0)), (2, .ref (cx_b G + ly_loc 9 0))]) (hc : cells ≤ cb) (hs : slots ≤ sb) : W p l e room_1 s m #[Value.ref b] below meth c H locs cells slots (lw_Z below #[Value.ref b] s) (F0 m 952 ls []) := by
  have hn := h144 kq n I J hI
  have hn0 : 111 ≤ n := by omega
  have hcs : cells ≤ room_1.cells ∧ slots ≤ room_1.slots := ⟨by show cells ≤ 600000; omega, by show slots ≤ 7302250; omega⟩
  have o8 : ly_ok n 8 0 := ly_ok_8 (by decide) hn0
  have o9 : ly_ok n 9 0 := ly_ok_9 (by decide) hn
  have hbA : ¬ cx_A G b := by show ¬ cx_b G ≤ b; omega
  obtain ⟨z, v, e1, e2, e3, hI2⟩ := sim kq n I J (xs (x + 1).toNatClampNeg) (xs (x + 2).toNatClampNeg) hkq hI
  refine lv_aload_n X.1.1 X.1.2.1 dL_law_952 rfl (lv_at hl 2 rfl) ?_
  refine lv_aload_n X.1.1 X.1.2.1 dL_law_953 rfl (lv_at hl 1 rfl) ?_
  refine lv_iload_n X.1.1 X.1.2.1 dL_law_954 rfl (lv_at hl 0 rfl) ?_
  refine lv_iconst (v := 1) X.1.1 X.1.2.1 dL_law_955 (by decide) ?_
  refine lv_iadd X.1.1 X.1.2.1 dL_law_956 ?_
  refine va_sld (A := cx_A G) X.1.1 X.1.2.1 hX hbl hbA S.2.2.1 hv1 dL_law_957 ?_
  refine lv_aload_n X.1.1 X.1.2.1 dL_law_958 rfl (lv_at hl 1 rfl) ?_
  refine lv_iload_n X.1.1 X.1.2.1 dL_law_959 rfl (lv_at hl 0 rfl) ?_
  refine lv_iconst (v := 2) X.1.1 X.1.2.1 dL_law_960 (by decide) ?_
  refine lv_iadd X.1.1 X.1.2.1 dL_law_961 ?_
  refine va_sld (A := cx_A G) X.1.1 X.1.2.1 hX hbl hbA S.2.2.1 hv2 dL_law_962 ?_
  refine lg_Vi (I1 := I) (J1 := J) (r := z) (As := [.int (xs (x + 1).toNatClampNeg), .int (xs (x + 2).toNatClampNeg)]) (rest := []) X S (by omega) hcs (c_X8_taken hn e1) gd_L_128 ⟨rfl, ny_X8_taken⟩ ⟨rfl, rfl⟩ ⟨Nat.le_of_ble_eq_true rfl, Nat.le_of_ble_eq_true rfl⟩ (lg_recvL (k := 8) (i := 0) X S o8 rfl rfl) rfl rfl hl.1 (Nat.le_of_ble_eq_true rfl) dL_law_963 (fun H locs S => ?_)
  refine lv_aload_n X.1.1 X.1.2.1 dL_law_966 rfl (lv_at hl 3 rfl) ?_
  refine lv_aload_n X.1.1 X.1.2.1 dL_law_967 rfl (lv_at hl 1 rfl) ?_
  refine lv_iload_n X.1.1 X.1.2.1 dL_law_968 rfl (lv_at hl 0 rfl) ?_
  refine lv_iconst (v := 1) X.1.1 X.1.2.1 dL_law_969 (by decide) ?_
  refine lv_iadd X.1.1 X.1.2.1 dL_law_970 ?_
  refine va_sld (A := cx_A G) X.1.1 X.1.2.1 hX hbl hbA S.2.2.1 hv1 dL_law_971 ?_
  refine lv_aload_n X.1.1 X.1.2.1 dL_law_972 rfl (lv_at hl 1 rfl) ?_
  refine lv_iload_n X.1.1 X.1.2.1 dL_law_973 rfl (lv_at hl 0 rfl) ?_
  refine lv_iconst (v := 2) X.1.1 X.1.2.1 dL_law_974 (by decide) ?_
  refine lv_iadd X.1.1 X.1.2.1 dL_law_975 ?_
  refine va_sld (A := cx_A G) X.1.1 X.1.2.1 hX hbl hbA S.2.2.1 hv2 dL_law_976 ?_
  refine lg_Vi (I1 := I) (J1 := J) (r := v) (As := [.int (xs (x + 1).toNatClampNeg), .int (xs (x + 2).toNatClampNeg)]) (rest := [.int z]) X S (by omega) hcs (c_X9_taken hn e2) gd_L_131 ⟨rfl, ny_X9_taken⟩ ⟨rfl, rfl⟩ ⟨Nat.le_of_ble_eq_true rfl, Nat.le_of_ble_eq_true rfl⟩ (lg_recvL (k := 9) (i := 0) X S o9 rfl rfl) rfl rfl hl.1 (Nat.le_of_ble_eq_true rfl) dL_law_977 (fun H locs S => ?_)
  refine lv_icmp_eq (tgt := 985) X.1.1 X.1.2.1 dL_law_980 (by decide) (fun cq => ?_) (fun cq => absurd e3 (by first | exact cq | exact fun e => cq e))
  exact K n _ _ hI2 S hl (by omega) (by omega)
theorem lw_sub6 {L : Nat} (hL : L ≤ 3072) : (Int32.ofNat L - 6).toInt = (L : Int) - 6 := by
  have h1 : (nI L).toInt = (L : Int) := nI_toInt (by omega)
  have h6 : (6 : Int32).toInt = 6 := by decide
  have hb : (Int32.ofNat L - 6).toInt = ((nI L).toInt - (6 : Int32).toInt).bmod (2 ^ 32) := Int32.toInt_sub _ _
  rw [hb, h1, h6]
  have := @Int.bmod_eq_of_le ((L : Int) - 6) (2 ^ 32) (by omega) (by omega)
  exact this
theorem lw_in {k j L : Nat} {x : Int32} (ex : x = nI k) (hj : j < 6) (h : k + 6 ≤ L) (hL : L ≤ 3072) : vp_in (x + nI j) L := by
  rw [ex, nI_add]
  exact vp_in_nI (by omega) (by omega)
set_option maxRecDepth 100000 in
set_option maxHeartbeats 8000000 in
theorem law_loop {l : Launch} {G : cx_T} {p : Program} {e : Env} {s : State} {m : MethodId} {below : List Frame} {meth : Method} {c : Code} {b L : Nat} {xs : Nat → Int32} (X : cx_oi G p s m #[Value.ref b] meth c cL_law 4 RL ret) (hX : va_X b L xs s s.heap) (hbl : b < s.heap.size) (hbs : cx_b G = s.heap.size) (hL : L ≤ 3072) (hr : meth.sig.returnType = ret) {Inv : Nat → Nat → mm_T → mm_T → Prop} (sim : sm_all Inv) : ∀ (cnt k : Nat) {x : Int32} {n : Nat} {I J : mm_T} {H : Heap} {locs : List Loc} {ls : Array Slot} {cells slots : Nat}, L ≤ k + 6 * cnt → k ≤ L → x = nI k → Inv k n I J → lg_ok G n (ly_cell G (mm_mx I J)) s H locs → lv_has ls 4 [(3, .int x), (0, .ref b), (1, .ref (cx_b G + ly_loc 8 0)), (2, .ref (cx_b G + ly_loc 9 0))] → cells ≤ 200 + k → slots ≤ 100000 + 40 * k → W p l e room_1 s m #[Value.ref b] below meth c H locs cells slots (lw_Z below #[Value.ref b] s) (F0 m 18 ls []) := by
  obtain ⟨s0, s1, s2, s3, s4, s5, s6, s7, s8, s9, s10, s11, s12, s13, s14, s15, s16, s17, s18, s19, s20, s21, s22, s23, s24, s25, s26, s27, h144, hmono⟩ := sim
  intro cnt
  induction cnt with
  | zero =>
    intro k x n I J H locs ls cells slots h1 h2 ex hI S hl hc hs
    have hbA : ¬ cx_A G b := by show ¬ cx_b G ≤ b; omega
    refine lv_iload_n X.1.1 X.1.2.1 dL_law_18 rfl (lv_at hl 0 rfl) ?_
    refine lv_aload_n X.1.1 X.1.2.1 dL_law_19 rfl (lv_at hl 1 rfl) ?_
    refine va_slen (A := cx_A G) X.1.1 X.1.2.1 hX hbl hbA S.2.2.1 dL_law_20 ?_
    refine lv_bipush (v := 6) X.1.1 X.1.2.1 dL_law_21 (by decide) ?_
    refine lv_isub X.1.1 X.1.2.1 dL_law_23 ?_
    have hi := lw_sub6 hL
    have hx : x.toInt = (k : Int) := by rw [ex]; exact nI_toInt (by omega)
    refine lv_icmp_gt (tgt := 991) X.1.1 X.1.2.1 dL_law_24 (by decide) (fun cq => ?_) (fun cq => ?_)
    · refine lv_iconst (v := 1) X.1.1 X.1.2.1 dL_law_991 (by decide) ?_
      refine va_forget (fun q hq => by have := S.2.2.1.2.2 q hq; have h9 : cx_b G ≤ q.base := this; omega) ?_
      refine W.widen (k := 600000) (n := 7302250) (by omega) (by omega) ?_
      exact lw_ret X.1.1 X.1.2.1 hr X.1.2.2.2.2.2.2.2 dL_law_992
    · exfalso
      exact cq (Int32.lt_iff_toInt_lt.mpr (by rw [hi, hx]; omega))
  | succ cnt ih =>
    intro k x n I J H locs ls cells slots h1 h2 ex hI S hl hc hs
    have hbA : ¬ cx_A G b := by show ¬ cx_b G ≤ b; omega
    refine lv_iload_n X.1.1 X.1.2.1 dL_law_18 rfl (lv_at hl 0 rfl) ?_
    refine lv_aload_n X.1.1 X.1.2.1 dL_law_19 rfl (lv_at hl 1 rfl) ?_
    refine va_slen (A := cx_A G) X.1.1 X.1.2.1 hX hbl hbA S.2.2.1 dL_law_20 ?_
    refine lv_bipush (v := 6) X.1.1 X.1.2.1 dL_law_21 (by decide) ?_
    refine lv_isub X.1.1 X.1.2.1 dL_law_23 ?_
    have hi := lw_sub6 hL
    have hx : x.toInt = (k : Int) := by rw [ex]; exact nI_toInt (by omega)
    refine lv_icmp_gt (tgt := 991) X.1.1 X.1.2.1 dL_law_24 (by decide) (fun cq => ?_) (fun cq => ?_)
    · refine lv_iconst (v := 1) X.1.1 X.1.2.1 dL_law_991 (by decide) ?_
      refine va_forget (fun q hq => by have := S.2.2.1.2.2 q hq; have h9 : cx_b G ≤ q.base := this; omega) ?_
      refine W.widen (k := 600000) (n := 7302250) (by omega) (by omega) ?_
      exact lw_ret X.1.1 X.1.2.1 hr X.1.2.2.2.2.2.2.2 dL_law_992
    · have h6 : k + 6 ≤ L := by
        have h7 : ¬ (Int32.ofNat L - 6).toInt < x.toInt := fun h => cq (Int32.lt_iff_toInt_lt.mpr h)
        rw [hi, hx] at h7; omega
      have hv1 : vp_in (x + 1) L := lw_in (j := 1) ex (by decide) h6 hL
      have hv2 : vp_in (x + 2) L := lw_in (j := 2) ex (by decide) h6 hL
      have hv3 : vp_in (x + 3) L := lw_in (j := 3) ex (by decide) h6 hL
      have hv4 : vp_in (x + 4) L := lw_in (j := 4) ex (by decide) h6 hL
      have hv5 : vp_in (x + 5) L := lw_in (j := 5) ex (by decide) h6 hL
      have hv0 : vp_in x L := by rw [ex]; exact vp_in_nI (by omega) (by omega)
      have K : ∀ (n : Nat) (I J : mm_T) {H : Heap} {locs : List Loc} {ls : Array Slot} {cells slots : Nat}, Inv (k + 6) n I J → lg_ok G n (ly_cell G (mm_mx I J)) s H locs → lv_has ls 4 [(3, .int x), (0, .ref b), (1, .ref (cx_b G + ly_loc 8 0)), (2, .ref (cx_b G + ly_loc 9 0))] → cells ≤ (200 + k) + 3 → slots ≤ (100000 + 40 * k) + 195 → W p l e room_1 s m #[Value.ref b] below meth c H locs cells slots (lw_Z below #[Value.ref b] s) (F0 m 985 ls []) := by
        intro n I J H locs ls cells slots hI S hl hc hs
        obtain ⟨x2, ex2⟩ : ∃ y : Int32, y = x + 6 := ⟨_, rfl⟩
        refine lv_iinc (v := x2) (lv' := [(3, .int x2), (0, .ref b), (1, .ref (cx_b G + ly_loc 8 0)), (2, .ref (cx_b G + ly_loc 9 0))]) X.1.1 X.1.2.1 dL_law_985 hl (k := 0) rfl (by rw [ex2]; rfl) (by decide) rfl (fun ls hl => ?_)
        refine lv_goto (tgt := 18) X.1.1 X.1.2.1 dL_law_988 (by decide) ?_
        exact ih (k + 6) (by omega) h6 (by rw [ex2, ex]; exact nI_add k 6) hI S hl (by omega) (by omega)
      have K0 := K n I J (H := H) (locs := locs) (ls := ls) (cells := cells) (slots := slots) (hmono k n I J hI) S hl (by omega) (by omega)
      refine lv_aload_n X.1.1 X.1.2.1 dL_law_27 rfl (lv_at hl 1 rfl) ?_
      refine lv_iload_n X.1.1 X.1.2.1 dL_law_28 rfl (lv_at hl 0 rfl) ?_
      refine va_sld (A := cx_A G) X.1.1 X.1.2.1 hX hbl hbA S.2.2.1 hv0 dL_law_29 ?_
      refine lv_bipush (v := 31) X.1.1 X.1.2.1 dL_law_30 (by decide) ?_
      refine lv_iand X.1.1 X.1.2.1 dL_law_32 ?_
      refine lv_topi (fun y ey => ?_)
      rcases Decidable.em (y = 0) with c0 | c0
      · refine lv_tableIn (off := 127) (tgt := 160) X.1.1 X.1.2.1 dL_law_33 (by rw [c0]; decide +kernel) (by rw [c0]; decide +kernel) (by rw [c0]; decide +kernel) (by decide) ?_
        exact lc_come X hX hbl hbs s0 h144 (cb := 200 + k) (sb := 100000 + 40 * k) (kq := k) (by omega) (by omega) (by omega) hv1 hv2 K hI S hl hc hs
      rcases Decidable.em (y = 1) with c1 | c1
      · refine lv_tableIn (off := 160) (tgt := 193) X.1.1 X.1.2.1 dL_law_33 (by rw [c1]; decide +kernel) (by rw [c1]; decide +kernel) (by rw [c1]; decide +kernel) (by decide) ?_
        exact lc_slip X hX hbl hbs s1 h144 (cb := 200 + k) (sb := 100000 + 40 * k) (kq := k) (by omega) (by omega) (by omega) hv1 hv2 hv3 K hI S hl hc hs
      rcases Decidable.em (y = 2) with c2 | c2
      · refine lv_tableIn (off := 203) (tgt := 236) X.1.1 X.1.2.1 dL_law_33 (by rw [c2]; decide +kernel) (by rw [c2]; decide +kernel) (by rw [c2]; decide +kernel) (by decide) ?_
        exact lc_set X hX hbl hbs s2 h144 (cb := 200 + k) (sb := 100000 + 40 * k) (kq := k) (by omega) (by omega) (by omega) hv1 hv2 hv3 K hI S hl hc hs
      rcases Decidable.em (y = 3) with c3 | c3
      · refine lv_tableIn (off := 246) (tgt := 279) X.1.1 X.1.2.1 dL_law_33 (by rw [c3]; decide +kernel) (by rw [c3]; decide +kernel) (by rw [c3]; decide +kernel) (by decide) ?_
        exact lc_told X hX hbl hbs s3 h144 (cb := 200 + k) (sb := 100000 + 40 * k) (kq := k) (by omega) (by omega) (by omega) hv1 hv2 K hI S hl hc hs
      rcases Decidable.em (y = 4) with c4 | c4
      · refine lv_tableIn (off := 279) (tgt := 312) X.1.1 X.1.2.1 dL_law_33 (by rw [c4]; decide +kernel) (by rw [c4]; decide +kernel) (by rw [c4]; decide +kernel) (by decide) ?_
        exact lc_feed X hX hbl hbs s4 h144 (cb := 200 + k) (sb := 100000 + 40 * k) (kq := k) (by omega) (by omega) (by omega) hv1 K hI S hl hc hs
      rcases Decidable.em (y = 5) with c5 | c5
      · refine lv_tableIn (off := 302) (tgt := 335) X.1.1 X.1.2.1 dL_law_33 (by rw [c5]; decide +kernel) (by rw [c5]; decide +kernel) (by rw [c5]; decide +kernel) (by decide) ?_
        exact lc_text X hX hbl hbs s5 h144 (cb := 200 + k) (sb := 100000 + 40 * k) (kq := k) (by omega) (by omega) (by omega) K hI S hl hc hs
      rcases Decidable.em (y = 6) with c6 | c6
      · refine lv_tableIn (off := 315) (tgt := 348) X.1.1 X.1.2.1 dL_law_33 (by rw [c6]; decide +kernel) (by rw [c6]; decide +kernel) (by rw [c6]; decide +kernel) (by decide) ?_
        exact lc_force X hX hbl hbs s6 h144 (cb := 200 + k) (sb := 100000 + 40 * k) (kq := k) (by omega) (by omega) (by omega) hv1 K hI S hl hc hs
      rcases Decidable.em (y = 7) with c7 | c7
      · refine lv_tableIn (off := 338) (tgt := 371) X.1.1 X.1.2.1 dL_law_33 (by rw [c7]; decide +kernel) (by rw [c7]; decide +kernel) (by rw [c7]; decide +kernel) (by decide) ?_
        exact lc_evening X hX hbl hbs s7 h144 (cb := 200 + k) (sb := 100000 + 40 * k) (kq := k) (by omega) (by omega) (by omega) hv1 hv2 K hI S hl hc hs
      rcases Decidable.em (y = 8) with c8 | c8
      · refine lv_tableIn (off := 371) (tgt := 404) X.1.1 X.1.2.1 dL_law_33 (by rw [c8]; decide +kernel) (by rw [c8]; decide +kernel) (by rw [c8]; decide +kernel) (by decide) ?_
        exact lc_best X hX hbl hbs s8 h144 (cb := 200 + k) (sb := 100000 + 40 * k) (kq := k) (by omega) (by omega) (by omega) hv1 hv2 K hI S hl hc hs
      rcases Decidable.em (y = 9) with c9 | c9
      · refine lv_tableIn (off := 404) (tgt := 437) X.1.1 X.1.2.1 dL_law_33 (by rw [c9]; decide +kernel) (by rw [c9]; decide +kernel) (by rw [c9]; decide +kernel) (by decide) ?_
        exact lc_desk X hX hbl hbs s9 h144 (cb := 200 + k) (sb := 100000 + 40 * k) (kq := k) (by omega) (by omega) (by omega) hv1 K hI S hl hc hs
      rcases Decidable.em (y = 10) with c10 | c10
      · refine lv_tableIn (off := 427) (tgt := 460) X.1.1 X.1.2.1 dL_law_33 (by rw [c10]; decide +kernel) (by rw [c10]; decide +kernel) (by rw [c10]; decide +kernel) (by decide) ?_
        exact lc_hold X hX hbl hbs s10 h144 (cb := 200 + k) (sb := 100000 + 40 * k) (kq := k) (by omega) (by omega) (by omega) hv1 K hI S hl hc hs
      rcases Decidable.em (y = 11) with c11 | c11
      · refine lv_tableIn (off := 450) (tgt := 483) X.1.1 X.1.2.1 dL_law_33 (by rw [c11]; decide +kernel) (by rw [c11]; decide +kernel) (by rw [c11]; decide +kernel) (by decide) ?_
        exact lc_wait X hX hbl hbs s11 h144 (cb := 200 + k) (sb := 100000 + 40 * k) (kq := k) (by omega) (by omega) (by omega) hv1 K hI S hl hc hs
      rcases Decidable.em (y = 12) with c12 | c12
      · refine lv_tableIn (off := 473) (tgt := 506) X.1.1 X.1.2.1 dL_law_33 (by rw [c12]; decide +kernel) (by rw [c12]; decide +kernel) (by rw [c12]; decide +kernel) (by decide) ?_
        exact lc_refuse X hX hbl hbs s12 h144 (cb := 200 + k) (sb := 100000 + 40 * k) (kq := k) (by omega) (by omega) (by omega) hv1 K hI S hl hc hs
      rcases Decidable.em (y = 13) with c13 | c13
      · refine lv_tableIn (off := 496) (tgt := 529) X.1.1 X.1.2.1 dL_law_33 (by rw [c13]; decide +kernel) (by rw [c13]; decide +kernel) (by rw [c13]; decide +kernel) (by decide) ?_
        exact lc_coin X hX hbl hbs s13 h144 (cb := 200 + k) (sb := 100000 + 40 * k) (kq := k) (by omega) (by omega) (by omega) hv1 K hI S hl hc hs
      rcases Decidable.em (y = 14) with c14 | c14
      · refine lv_tableIn (off := 519) (tgt := 552) X.1.1 X.1.2.1 dL_law_33 (by rw [c14]; decide +kernel) (by rw [c14]; decide +kernel) (by rw [c14]; decide +kernel) (by decide) ?_
        exact lc_harm X hX hbl hbs s14 h144 (cb := 200 + k) (sb := 100000 + 40 * k) (kq := k) (by omega) (by omega) (by omega) hv1 K hI S hl hc hs
      rcases Decidable.em (y = 15) with c15 | c15
      · refine lv_tableIn (off := 542) (tgt := 575) X.1.1 X.1.2.1 dL_law_33 (by rw [c15]; decide +kernel) (by rw [c15]; decide +kernel) (by rw [c15]; decide +kernel) (by decide) ?_
        exact lc_judge X hX hbl hbs s15 h144 (cb := 200 + k) (sb := 100000 + 40 * k) (kq := k) (by omega) (by omega) (by omega) hv1 K hI S hl hc hs
      rcases Decidable.em (y = 16) with c16 | c16
      · refine lv_tableIn (off := 565) (tgt := 598) X.1.1 X.1.2.1 dL_law_33 (by rw [c16]; decide +kernel) (by rw [c16]; decide +kernel) (by rw [c16]; decide +kernel) (by decide) ?_
        exact lc_which X hX hbl hbs s16 h144 (cb := 200 + k) (sb := 100000 + 40 * k) (kq := k) (by omega) (by omega) (by omega) hv1 K hI S hl hc hs
      rcases Decidable.em (y = 17) with c17 | c17
      · refine lv_tableIn (off := 588) (tgt := 621) X.1.1 X.1.2.1 dL_law_33 (by rw [c17]; decide +kernel) (by rw [c17]; decide +kernel) (by rw [c17]; decide +kernel) (by decide) ?_
        exact lc_behind X hX hbl hbs s17 h144 (cb := 200 + k) (sb := 100000 + 40 * k) (kq := k) (by omega) (by omega) (by omega) K hI S hl hc hs
      rcases Decidable.em (y = 18) with c18 | c18
      · refine lv_tableIn (off := 601) (tgt := 634) X.1.1 X.1.2.1 dL_law_33 (by rw [c18]; decide +kernel) (by rw [c18]; decide +kernel) (by rw [c18]; decide +kernel) (by decide) ?_
        exact lc_drawn X hX hbl hbs s18 h144 (cb := 200 + k) (sb := 100000 + 40 * k) (kq := k) (by omega) (by omega) (by omega) hv1 K hI S hl hc hs
      rcases Decidable.em (y = 19) with c19 | c19
      · refine lv_tableIn (off := 624) (tgt := 657) X.1.1 X.1.2.1 dL_law_33 (by rw [c19]; decide +kernel) (by rw [c19]; decide +kernel) (by rw [c19]; decide +kernel) (by decide) ?_
        exact lc_chance X hX hbl hbs s19 h144 (cb := 200 + k) (sb := 100000 + 40 * k) (kq := k) (by omega) (by omega) (by omega) hv1 hv2 hv3 K hI S hl hc hs
      rcases Decidable.em (y = 20) with c20 | c20
      · refine lv_tableIn (off := 668) (tgt := 701) X.1.1 X.1.2.1 dL_law_33 (by rw [c20]; decide +kernel) (by rw [c20]; decide +kernel) (by rw [c20]; decide +kernel) (by decide) ?_
        exact lc_image X hX hbl hbs s20 h144 (cb := 200 + k) (sb := 100000 + 40 * k) (kq := k) (by omega) (by omega) (by omega) K hI S hl hc hs
      rcases Decidable.em (y = 21) with c21 | c21
      · refine lv_tableIn (off := 681) (tgt := 714) X.1.1 X.1.2.1 dL_law_33 (by rw [c21]; decide +kernel) (by rw [c21]; decide +kernel) (by rw [c21]; decide +kernel) (by decide) ?_
        exact lc_back X hX hbl hbs s21 h144 (cb := 200 + k) (sb := 100000 + 40 * k) (kq := k) (by omega) (by omega) (by omega) K hI S hl hc hs
      rcases Decidable.em (y = 22) with c22 | c22
      · refine lv_tableIn (off := 694) (tgt := 727) X.1.1 X.1.2.1 dL_law_33 (by rw [c22]; decide +kernel) (by rw [c22]; decide +kernel) (by rw [c22]; decide +kernel) (by decide) ?_
        exact lc_count X hX hbl hbs s22 h144 (cb := 200 + k) (sb := 100000 + 40 * k) (kq := k) (by omega) (by omega) (by omega) hv1 K hI S hl hc hs
      rcases Decidable.em (y = 23) with c23 | c23
      · refine lv_tableIn (off := 717) (tgt := 750) X.1.1 X.1.2.1 dL_law_33 (by rw [c23]; decide +kernel) (by rw [c23]; decide +kernel) (by rw [c23]; decide +kernel) (by decide) ?_
        exact lc_sheet X hX hbl hbs s23 h144 (cb := 200 + k) (sb := 100000 + 40 * k) (kq := k) (by omega) (by omega) (by omega) hv1 hv2 hv3 K hI S hl hc hs
      rcases Decidable.em (y = 24) with c24 | c24
      · refine lv_tableIn (off := 760) (tgt := 793) X.1.1 X.1.2.1 dL_law_33 (by rw [c24]; decide +kernel) (by rw [c24]; decide +kernel) (by rw [c24]; decide +kernel) (by decide) ?_
        exact lc_cell X hX hbl hbs s24 h144 (cb := 200 + k) (sb := 100000 + 40 * k) (kq := k) (by omega) (by omega) (by omega) hv1 hv2 hv3 K hI S hl hc hs
      rcases Decidable.em (y = 25) with c25 | c25
      · refine lv_tableIn (off := 803) (tgt := 836) X.1.1 X.1.2.1 dL_law_33 (by rw [c25]; decide +kernel) (by rw [c25]; decide +kernel) (by rw [c25]; decide +kernel) (by decide) ?_
        exact lc_copy X hX hbl hbs s25 h144 (cb := 200 + k) (sb := 100000 + 40 * k) (kq := k) (by omega) (by omega) (by omega) hv1 hv2 hv3 hv4 hv5 K hI S hl hc hs
      rcases Decidable.em (y = 26) with c26 | c26
      · refine lv_tableIn (off := 866) (tgt := 899) X.1.1 X.1.2.1 dL_law_33 (by rw [c26]; decide +kernel) (by rw [c26]; decide +kernel) (by rw [c26]; decide +kernel) (by decide) ?_
        exact lc_slips X hX hbl hbs s26 h144 (cb := 200 + k) (sb := 100000 + 40 * k) (kq := k) (by omega) (by omega) (by omega) hv1 hv2 hv3 hv4 K hI S hl hc hs
      rcases Decidable.em (y = 27) with c27 | c27
      · refine lv_tableIn (off := 919) (tgt := 952) X.1.1 X.1.2.1 dL_law_33 (by rw [c27]; decide +kernel) (by rw [c27]; decide +kernel) (by rw [c27]; decide +kernel) (by decide) ?_
        exact lc_taken X hX hbl hbs s27 h144 (cb := 200 + k) (sb := 100000 + 40 * k) (kq := k) (by omega) (by omega) (by omega) hv1 hv2 K hI S hl hc hs
      refine lv_tableOut (tgt := 985) X.1.1 X.1.2.1 dL_law_33 (pz_out 0 27 [(0 : Int32), (1 : Int32), (2 : Int32), (3 : Int32), (4 : Int32), (5 : Int32), (6 : Int32), (7 : Int32), (8 : Int32), (9 : Int32), (10 : Int32), (11 : Int32), (12 : Int32), (13 : Int32), (14 : Int32), (15 : Int32), (16 : Int32), (17 : Int32), (18 : Int32), (19 : Int32), (20 : Int32), (21 : Int32), (22 : Int32), (23 : Int32), (24 : Int32), (25 : Int32), (26 : Int32), (27 : Int32)] (by decide +kernel) (by simp only [List.forall_mem_cons, List.not_mem_nil, false_imp_iff, implies_true, and_true]; exact ⟨c0, c1, c2, c3, c4, c5, c6, c7, c8, c9, c10, c11, c12, c13, c14, c15, c16, c17, c18, c19, c20, c21, c22, c23, c24, c25, c26, c27⟩)) (by decide) ?_
      exact K0
