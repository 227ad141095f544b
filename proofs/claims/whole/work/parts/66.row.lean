/-! ===== a row of slips, as a number's digits ===== -/
theorem nI_div {p q : Nat} (hp : p < 2147483648) (hq : q < 2147483648) : nI p / nI q = nI (p / q) := by
  rw [i32_eq, Int32.toInt_div, nI_int hp, nI_int hq, nI_int (by have := Nat.div_le_self p q; omega), show (Int.tdiv (p : Int) (q : Int)) = ((p / q : Nat) : Int) from rfl]
  have h := Nat.div_le_self p q
  generalize p / q = t at h ⊢
  exact Int.bmod_eq_of_le (by omega) (by omega)
theorem nI_m10 {x : Nat} : nI x * (10 : Int32) = nI (x * 10) := (Int32.ofNat_mul x 10).symm
theorem nI_d10 {x : Nat} (h : x < 2147483648) : nI x / (10 : Int32) = nI (x / 10) := nI_div (q := 10) h (by omega)
theorem nI_dig {x : Nat} (h : x < 2147483648) : nI x - nI x / (10 : Int32) * (10 : Int32) = nI (x % 10) := by
  rw [nI_d10 h, nI_m10, nI_subn (by omega)]
  congr 1; omega
theorem nI_pred1 {x : Nat} (h : 1 ≤ x) : nI x - 1 = nI (x - 1) := by
  rw [show (1 : Int32) = nI 1 from rfl, nI_subn h]
def dg (p e : Nat) : Nat := p / 10 ^ e % 10
theorem p10 {p e : Nat} : p / 10 ^ (e + 1) = p / 10 ^ e / 10 := by rw [Nat.pow_succ, Nat.div_div_eq_div_mul]
theorem p10z {p e e' : Nat} (h : p / 10 ^ e = 0) (he : e ≤ e') : p / 10 ^ e' = 0 := by
  have h1 : p / 10 ^ e' ≤ p / 10 ^ e := Nat.div_le_div_left (Nat.pow_le_pow_right (by omega) he) (Nat.pow_pos (by omega))
  rw [h] at h1; exact Nat.le_zero.mp h1
theorem inr_dig {S d : Nat} (hS : S ≤ 7) (hd : d < 10) : inr S (nI d - 1) = decide (1 ≤ d ∧ d ≤ S) := by
  unfold inr
  rw [nI_sub1 (by omega)]
  congr 1
  exact propext ⟨fun h => ⟨by omega, by omega⟩, fun h => ⟨by omega, by omega⟩⟩
set_option maxHeartbeats 4000000 in
theorem row_L {n P S p : Nat} {I J : mm_T} {p1 : Int32} (A : EA P S I J) (hp : p < 2147483648) : ∀ (d e cnt m : Nat), e + d = 7 → d < cnt → m < 128 → pc m = e → ∃ v : Bool, f_X1_isRow_L10 fu n I 0 p1 cnt (nI m) (nI (p / 10 ^ e)) = some (b01 v) ∧ f_X9_isRow_L10 fu J p1 cnt (nI m) (nI (p / 10 ^ e)) = some (b01 v) ∧ (v = true → p / 10 ^ 7 = 0 ∧ ∀ e', e ≤ e' → 0 < p / 10 ^ e' → (1 ≤ dg p e' ∧ dg p e' ≤ S ∧ tb m (dg p e' - 1) = false) ∧ ∀ e'', e ≤ e'' → e'' < e' → dg p e'' ≠ dg p e')
  | d, e, cnt + 1, m, hs, hc, hm, hpc => by
    have hS := A.1.2.1
    have hle : p / 10 ^ e ≤ p := Nat.div_le_self _ _
    unfold f_X1_isRow_L10 f_X9_isRow_L10
    by_cases h0 : p / 10 ^ e = 0
    · have e0 : nI (p / 10 ^ e) ≤ 0 := by rw [h0]; decide
      rw [if_pos e0, if_pos e0]
      refine ⟨true, rfl, rfl, fun _ => ⟨p10z h0 (by omega), fun e' h1 h2 => ?_⟩⟩
      rw [p10z h0 h1] at h2; exact absurd h2 (Nat.lt_irrefl 0)
    · have e0 : ¬ nI (p / 10 ^ e) ≤ 0 := by
        have h0' := h0
        generalize p / 10 ^ e = q at h0' hle ⊢
        rw [i32_le, nI_int (by omega), show (0 : Int32).toInt = 0 by decide]; omega
      have hx : nI (p / 10 ^ e) - nI (p / 10 ^ e) / (10 : Int32) * (10 : Int32) = nI (dg p e) := nI_dig (by omega)
      have hd : dg p e < 10 := Nat.mod_lt _ (by omega)
      rw [if_neg e0, if_neg e0, hx]
      simp only [pz_lt_n]
      rw [x1_hasSlip A.1.2.2.2.2.1 (by omega), x9_isSlip A.1.2.2.2.2.2 (by omega), pz_bd_s, pz_bd_s, inr_dig hS hd]
      by_cases hv : 1 ≤ dg p e ∧ dg p e ≤ S
      · have n1 : ¬ b01 (decide (1 ≤ dg p e ∧ dg p e ≤ S)) = 0 := by rw [decide_eq_true hv]; decide
        rw [if_neg n1, if_neg n1, nI_pred1 hv.1, bx_test m (by omega) _ (by omega)]
        by_cases ht : tb m (dg p e - 1) = true
        · have n2 : b01 (tb m (dg p e - 1)) = 1 := by rw [ht]; rfl
          rw [if_pos n2, if_pos n2]
          exact ⟨false, rfl, rfl, fun h => by cases h⟩
        · have n2 : ¬ b01 (tb m (dg p e - 1)) = 1 := by rw [Bool.eq_false_iff.mpr ht]; decide
          rw [if_neg n2, if_neg n2, bx_set m (by omega) _ (by omega), nI_d10 (by omega), ← p10]
          have q1 := (bx_pc m (by omega) (dg p e - 1) (by omega)).1
          rw [Bool.eq_false_iff.mpr ht] at q1
          have q1' : pc (sb m (dg p e - 1)) = pc m + 1 := q1
          have q2 : sb m (dg p e - 1) < 2 ^ 7 := bx_sb m (by omega) _ (by omega) 7 (by omega) (by omega) (by omega)
          have q3 := bx_pcP (sb m (dg p e - 1)) (by omega) 7 (by omega) q2
          match d, hs, hc with
          | 0, hs, hc => omega
          | d + 1, hs, hc =>
            obtain ⟨v, h1, h2, h3⟩ := row_L (p1 := p1) A hp d (e + 1) cnt (sb m (dg p e - 1)) (by omega) (by omega) (by omega) (by omega)
            refine ⟨v, h1, h2, fun hv2 => ⟨(h3 hv2).1, fun e' g1 g2 => ?_⟩⟩
            by_cases he : e' = e
            · subst he
              exact ⟨⟨hv.1, hv.2, Bool.eq_false_iff.mpr ht⟩, fun e'' w1 w2 => by omega⟩
            · obtain ⟨⟨r1, r2, r3⟩, r4⟩ := (h3 hv2).2 e' (by omega) g2
              rw [(bx_tsb m (by omega) (dg p e - 1) (by omega) (dg p e' - 1) (by omega)).1, Bool.or_eq_false_iff] at r3
              refine ⟨⟨r1, r2, r3.1⟩, fun e'' w1 w2 => ?_⟩
              by_cases he2 : e'' = e
              · subst he2
                have := of_decide_eq_false r3.2
                omega
              · exact r4 e'' (by omega) w2
      · have n1 : b01 (decide (1 ≤ dg p e ∧ dg p e ≤ S)) = 0 := by rw [decide_eq_false hv]; decide
        rw [if_pos n1, if_pos n1]
        exact ⟨false, rfl, rfl, fun h => by cases h⟩
def MR (x : Int32) : Prop := -99 ≤ x.toInt ∧ x.toInt ≤ 99
theorem wi_MR (x : Int32) : MR (wi 0 x) := by
  unfold MR wi
  rw [if_pos (rfl : (0:Nat) = 0)]
  by_cases h1 : -99 ≤ x
  · rw [if_pos h1]
    by_cases h2 : x ≤ 99
    · rw [if_pos h2]
      rw [i32_le, show (-99 : Int32).toInt = -99 by decide] at h1; rw [i32_le, show (99 : Int32).toInt = 99 by decide] at h2
      exact ⟨h1, h2⟩
    · rw [if_neg h2]; decide
  · rw [if_neg h1]; decide
theorem p10le : ∀ e, e ≤ 7 → 10 ^ e ≤ 10000000 ∧ (10 ^ (e + 1)) / 10 = 10 ^ e ∧ 0 < 10 ^ e := fun e he => by
  refine ⟨Nat.le_trans (Nat.pow_le_pow_right (by omega) he) (by decide), ?_, Nat.pow_pos (by omega)⟩
  rw [Nat.pow_succ, Nat.mul_div_cancel _ (by omega)]
set_option maxHeartbeats 4000000 in
theorem go_L {n r P S i p : Nat} {sy : Nat → (Nat → Int32) → Int32} {p1 : Int32} (hp : p < 2147483648) (hp0 : 0 < p) : ∀ (e cnt1 cnt2 cl th ss : Nat) (I J : mm_T), e ≤ 7 → e < cnt1 → e < cnt2 → EA P S I J → ET r n sy I J → ES r P S 7 cl th ss i I J → (∀ e', e' < e → (1 ≤ dg p e' ∧ dg p e' ≤ S ∧ tb cl (dg p e' - 1) = false) ∧ ∀ e'', e'' < e' → dg p e'' ≠ dg p e') → ∃ I' J' cl' th' ss', f_X0_callRow_L3 fu n i p1 cnt1 I (nI p) (nI (10 ^ e / 10)) = some I' ∧ f_X9_goes_L29 fu p1 cnt2 J (nI p) (nI (10 ^ e / 10)) = some J' ∧ ES r P S 7 cl' th' ss' i I' J' ∧ EF i I I' ∧ RG J J' ∧ (MR (J 9 0 33) → MR (J' 9 0 33))
  | 0, cnt1 + 1, cnt2 + 1, cl, th, ss, I, J, he, hc1, hc2, A, T, Z, hd => by
    refine ⟨I, J, cl, th, ss, ?_, ?_, Z, EF.refl, RG.refl, fun h => h⟩
    · unfold f_X0_callRow_L3; rw [if_pos (by decide)]
    · unfold f_X9_goes_L29; rw [if_pos (by decide)]
  | e + 1, cnt1 + 1, cnt2 + 1, cl, th, ss, I, J, he, hc1, hc2, A, T, Z, hd => by
    have hS := A.1.2.1
    obtain ⟨t1, t2, t3⟩ := p10le e (by omega)
    obtain ⟨⟨d1, d2, d3⟩, d4⟩ := hd e (by omega)
    have l2 := (Z.lt A).2.1
    have hle : p / 10 ^ e ≤ p := Nat.div_le_self _ _
    have hb : tb (cl ||| bu 7) (dg p e - 1) = false := by
      rw [bx_osb cl l2 7 (by omega) _ (by omega), d3, decide_eq_false (by omega)]; rfl
    have earg : ((nI p / nI (10 ^ e)) - (nI p / nI (10 ^ e)) / (10 : Int32) * (10 : Int32)) - (1 : Int32) = nI (dg p e - 1) := by
      rw [nI_div hp (by omega), nI_dig (by omega)]
      exact nI_pred1 d1
    have e0 : ¬ nI (10 ^ e) ≤ 0 := by rw [i32_le, nI_int (by omega), show (0 : Int32).toInt = 0 by decide]; omega
    have e1 : ¬ nI p ≤ 0 := by rw [i32_le, nI_int (by omega), show (0 : Int32).toInt = 0 by decide]; omega
    have e2 : ¬ nI (10 ^ e) = 0 := fun q => e0 (by rw [q]; decide)
    obtain ⟨I1, J1, th1, ss1, c1, c2, c3, c4, c5, c6, c7, _⟩ := call_sim A T Z (s := dg p e - 1) (by omega) hb
    obtain ⟨I', J', cl', th', ss', o1, o2, o3, o4, o5, o6⟩ := go_L (p1 := p1) hp hp0 e cnt1 cnt2 (sb cl (dg p e - 1)) th1 ss1 I1 J1 (by omega) (by omega) (by omega) (A.ev c4 c5) (T.ev c4 c5) c3 (fun e' he' => by
      obtain ⟨⟨x1, x2, x3⟩, x4⟩ := hd e' (by omega)
      refine ⟨⟨x1, x2, ?_⟩, x4⟩
      have := d4 e' he'
      rw [(bx_tsb cl (by omega) (dg p e - 1) (by omega) (dg p e' - 1) (by omega)).1, x3, decide_eq_false (by omega)]; rfl)
    refine ⟨I', J', cl', th', ss', ?_, ?_, o3, c4.trans o4, c5.trans o5, fun h => o6 (by
      rcases c7 with c7 | ⟨x, c7⟩
      · rw [c7]; exact h
      · rw [c7]; exact wi_MR x)⟩
    · unfold f_X0_callRow_L3
      rw [t2, if_neg e0, pz_gd_t (decide_eq_true e2), earg, c1, pz_bd_s, pz_lt_n, nI_d10 (by omega)]
      exact o1
    · unfold f_X9_goes_L29
      rw [t2, if_neg e0, if_neg e1, pz_gd_t (decide_eq_true e2), earg, c2, pz_bd_s, pz_lt_n, nI_d10 (by omega)]
      exact o2
/-- the row's leading noughts call nobody -/
theorem skip_L {n P S i p sz : Nat} {I J : mm_T} {p1 : Int32} (A : EA P S I J) (hp : p < 10 ^ sz) : ∀ (d cnt : Nat), sz + d ≤ 7 → f_X0_callRow_L3 fu n i p1 (cnt + d) I (nI p) (nI (10 ^ (sz + d) / 10)) = f_X0_callRow_L3 fu n i p1 cnt I (nI p) (nI (10 ^ sz / 10))
  | 0, cnt, h => rfl
  | d + 1, cnt, h => by
    obtain ⟨t1, t2, t3⟩ := p10le (sz + d) (by omega)
    have hp2 : p < 10 ^ (sz + d) := Nat.lt_of_lt_of_le hp (Nat.pow_le_pow_right (by omega) (by omega))
    have e0 : ¬ nI (10 ^ (sz + d)) ≤ 0 := by rw [i32_le, nI_int (by omega), show (0 : Int32).toInt = 0 by decide]; omega
    have e2 : ¬ nI (10 ^ (sz + d)) = 0 := fun q => e0 (by rw [q]; decide)
    rw [show cnt + (d + 1) = (cnt + d) + 1 by omega, show sz + (d + 1) = (sz + d) + 1 by omega]
    conv => lhs; unfold f_X0_callRow_L3
    rw [t2, if_neg e0, pz_gd_t (decide_eq_true e2), nI_div (by omega) (by omega), Nat.div_eq_of_lt hp2, show ((nI 0 - nI 0 / (10 : Int32) * (10 : Int32)) - (1 : Int32)) = -1 by decide, noslip_c A, pz_bd_s, pz_lt_n, nI_d10 (by omega)]
    exact skip_L (n := n) (i := i) (p1 := p1) A hp d cnt (by omega)
theorem size_ex {p : Nat} : ∀ m, p < 10 ^ m → ∃ sz, sz ≤ m ∧ p < 10 ^ sz ∧ (sz = 0 ∨ 10 ^ (sz - 1) ≤ p)
  | 0, h => ⟨0, Nat.le_refl _, h, Or.inl rfl⟩
  | m + 1, h => by
    by_cases h2 : p < 10 ^ m
    · obtain ⟨sz, h3, h4⟩ := size_ex m h2
      exact ⟨sz, by omega, h4⟩
    · exact ⟨m + 1, Nat.le_refl _, h, Or.inr (by rw [Nat.add_sub_cancel]; omega)⟩
theorem size_L {p1 : Int32} : ∀ (sz k p cnt : Nat), p < 2147483648 → sz < cnt → p < 10 ^ sz → (sz = 0 ∨ 10 ^ (sz - 1) ≤ p) → f_X9_sizeOf_L4 fu p1 cnt (nI k) (nI p) = some (nI (k + sz))
  | 0, k, p, cnt + 1, hp, hc, h1, h2 => by
    have : p = 0 := by rw [Nat.pow_zero] at h1; omega
    subst this
    unfold f_X9_sizeOf_L4; rw [if_pos (by decide)]; rfl
  | sz + 1, k, p, cnt + 1, hp, hc, h1, h2 => by
    have hp0 : 10 ^ sz ≤ p := by
      rcases h2 with h2 | h2
      · omega
      · rw [Nat.add_sub_cancel] at h2; exact h2
    have hpos : 0 < 10 ^ sz := Nat.pow_pos (by omega)
    unfold f_X9_sizeOf_L4
    rw [if_neg (by rw [i32_le, nI_int (by omega), show (0 : Int32).toInt = 0 by decide]; omega), pz_lt_n, pz_lt_n, nI_1, nI_d10 hp]
    rw [size_L sz (k + 1) (p / 10) cnt (by omega) (by omega) (by rw [Nat.pow_succ] at h1; omega) (by
      by_cases h : sz = 0
      · exact Or.inl h
      · refine Or.inr ?_
        have : 10 ^ sz = 10 ^ (sz - 1) * 10 := by rw [← Nat.pow_succ]; congr 1; omega
        omega)]
    congr 2; omega
theorem up_L {p : Nat} {J : mm_T} {p1 : Int32} {sz : Nat} (hsz : sz ≤ 7) (hs : f_X9_sizeOf fu (nI p) = some (nI sz)) : ∀ (d k cnt : Nat), k + d + 1 = max sz 1 → d < cnt → f_X9_goes_L8 fu p1 cnt J (nI p) (nI (10 ^ k)) (nI (k + 1)) = f_X9_goes_L29 fu p1 fu J (nI p) (nI (10 ^ (max sz 1 - 1)))
  | 0, k, cnt + 1, h, hc => by
    unfold f_X9_goes_L8
    rw [hs, pz_bd_s, if_pos (by rw [i32_le, nI_int (by omega), nI_int (by omega)]; omega), show max sz 1 - 1 = k by omega]
  | d + 1, k, cnt + 1, h, hc => by
    unfold f_X9_goes_L8
    rw [hs, pz_bd_s, if_neg (by rw [i32_le, nI_int (by omega), nI_int (by omega)]; omega), pz_lt_n, pz_lt_n, nI_m10, nI_1, ← Nat.pow_succ]
    exact up_L hsz hs d (k + 1) cnt (by omega) (by omega)
set_option maxHeartbeats 4000000 in
theorem row_sim {n r P S : Nat} {sy : Nat → (Nat → Int32) → Int32} {I J : mm_T} (A : EA P S I J) (T : ET r n sy I J) (p1 : Int32) : ∃ v : Bool, f_X1_isRow fu n I 0 p1 = some (b01 v) ∧ f_X9_isRow fu J p1 = some (b01 v) ∧ (v = true → ∃ I1 I' J' cl th ss, f_X0_begin fu n I 0 (nI r) = some I1 ∧ f_X0_callRow fu n I1 0 p1 = some I' ∧ f_X9_goes fu J p1 = some J' ∧ ES r P S 7 cl th ss 0 I' J' ∧ EF 0 I I' ∧ RG J J' ∧ (MR (J 9 0 15) → MR (J' 9 0 33))) := by
  unfold f_X1_isRow f_X9_isRow
  by_cases h0 : 0 ≤ p1
  · rw [if_pos h0, if_pos h0]
    obtain ⟨p, hp, ep⟩ : ∃ p : Nat, p < 2147483648 ∧ p1 = nI p := by
      refine ⟨p1.toInt.toNat, ?_, ?_⟩
      · have := Int32.toInt_lt p1; omega
      · rw [i32_le, show (0 : Int32).toInt = 0 by decide] at h0
        rw [i32_eq, nI_int (by have := Int32.toInt_lt p1; omega)]; omega
    subst ep
    obtain ⟨v, h1, h2, h3⟩ := row_L (n := n) (p1 := nI p) A hp 7 0 fu 0 (by omega) (by show 7 < 1000; omega) (by omega) rfl
    rw [Nat.pow_zero, Nat.div_one] at h1 h2
    refine ⟨v, h1, h2, fun hv => ?_⟩
    obtain ⟨k1, k2⟩ := h3 hv
    have hp7 : p < 10 ^ 7 := by
      have := Nat.div_eq_zero_iff.mp k1
      omega
    obtain ⟨sz, s1, s2, s3⟩ := size_ex 7 hp7
    have hsz : f_X9_sizeOf fu (nI p) = some (nI sz) := by
      unfold f_X9_sizeOf
      have := size_L (p1 := nI p) sz 0 p fu hp (by show sz < 1000; omega) s2 s3
      rw [Nat.zero_add] at this; exact this
    obtain ⟨I1, J1, b1, b2, b3, b4, b5, b6, _⟩ := begin_sim (n := n) (r := r) (i := 0) A T.2.1
    have A1 := A.ev b4 b5
    have T1 := T.ev b4 b5
    have hup := up_L (p := p) (J := J1) (p1 := nI p) s1 hsz (max sz 1 - 1) 0 fu (by omega) (by show _ < 1000; omega)
    have hskip := skip_L (n := n) (i := 0) (p1 := nI p) A1 s2 (7 - sz) (1000 - (7 - sz)) (by omega)
    rw [show 1000 - (7 - sz) + (7 - sz) = fu by show _ = 1000; omega, show sz + (7 - sz) = 7 by omega] at hskip
    have hgoes : f_X9_goes fu J (nI p) = f_X9_goes_L29 fu (nI p) fu J1 (nI p) (nI (10 ^ (max sz 1 - 1))) := by
      unfold f_X9_goes
      rw [b2, pz_bd_s]; exact hup
    have hcall : f_X0_callRow fu n I1 0 (nI p) = f_X0_callRow_L3 fu n 0 (nI p) (1000 - (7 - sz)) I1 (nI p) (nI (10 ^ sz / 10)) := by
      unfold f_X0_callRow; exact hskip
    rcases s3 with s3 | s3
    · subst s3
      have : p = 0 := by rw [Nat.pow_zero] at s2; omega
      subst this
      refine ⟨I1, I1, J1, 0, 2 ^ P - 1, 0, b1, ?_, ?_, b3, b4, b5, fun h => by rw [b6]; exact h⟩
      · rw [hcall, show 1000 - (7 - 0) = 992 + 1 by omega]
        unfold f_X0_callRow_L3; rw [if_pos (by decide)]
      · rw [hgoes, show fu = 999 + 1 from rfl]
        unfold f_X9_goes_L29; rw [if_neg (by decide), if_pos (by decide)]
    · by_cases hz : sz = 0
      · subst hz
        have : p = 0 := by rw [Nat.pow_zero] at s2; omega
        subst this
        refine ⟨I1, I1, J1, 0, 2 ^ P - 1, 0, b1, ?_, ?_, b3, b4, b5, fun h => by rw [b6]; exact h⟩
        · rw [hcall, show 1000 - (7 - 0) = 992 + 1 by omega]
          unfold f_X0_callRow_L3; rw [if_pos (by decide)]
        · rw [hgoes, show fu = 999 + 1 from rfl]
          unfold f_X9_goes_L29; rw [if_neg (by decide), if_pos (by decide)]
      · have hp0 : 0 < p := Nat.lt_of_lt_of_le (Nat.pow_pos (by omega)) s3
        obtain ⟨I', J', cl', th', ss', o1, o2, o3, o4, o5, o6⟩ := go_L (n := n) (p1 := nI p) hp hp0 sz (1000 - (7 - sz)) fu 0 (2 ^ P - 1) 0 I1 J1 s1 (by omega) (by show _ < 1000; omega) A1 T1 b3 (fun e' he' => by
          have hpos : 0 < p / 10 ^ e' := Nat.div_pos (Nat.le_trans (Nat.pow_le_pow_right (by omega) (by omega)) s3) (Nat.pow_pos (by omega))
          obtain ⟨⟨x1, x2, x3⟩, x4⟩ := k2 e' (Nat.zero_le _) hpos
          exact ⟨⟨x1, x2, by unfold tb; rw [Nat.zero_div]; rfl⟩, fun e'' w => x4 e'' (Nat.zero_le _) w⟩)
        refine ⟨I1, I', J', cl', th', ss', b1, by rw [hcall]; exact o1, ?_, o3, b4.trans o4, b5.trans o5, fun h => o6 (by rw [b6]; exact h)⟩
        rw [hgoes, show max sz 1 - 1 = sz - 1 by omega, show 10 ^ (sz - 1) = 10 ^ sz / 10 from by
          have := (p10le (sz - 1) (by omega)).2.1
          rw [show sz - 1 + 1 = sz by omega] at this; exact this.symm]
        exact o2
  · rw [if_neg h0, if_neg h0]
    exact ⟨false, rfl, rfl, fun h => by cases h⟩
