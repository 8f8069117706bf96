/-! what holds at the law's entry -/
def FL : List Cond := flatC (Jvm.Cond.and given_1 narrow_1)
abbrev tmS (i : Nat) : Term := .string "KnotFair$Teller" (scp.getD i 0)
abbrev tvS (i : Nat) : Term := .field (tmS i) "java/lang/String" "value" "[B"
abbrev tmA : Term := .static "KnotFair" "KIND_ABOVE" "[I"
abbrev tmC : Term := .static "KnotFair" "COLOUR_NUMBERS" "[I"
theorem fl_ex : ∀ i, i < 8 → Cond.exactly (tmS i) "java/lang/String" ∈ FL := by decide +kernel
theorem fl_co : ∀ i, i < 8 → Cond.eq (.field (tmS i) "java/lang/String" "coder" "B") (.int 0) ∈ FL := by decide +kernel
theorem fl_ar : ∀ i, i < 8 → Cond.arrayOf (tvS i) .byte ∈ FL := by decide +kernel
theorem fl_le : ∀ i, i < 8 → Cond.eq (.length (tvS i)) (.int (Int32.ofNat (slen.getD i 0))) ∈ FL := by decide +kernel
theorem fl_el : ∀ i, i < 8 → ∀ j, j < slen.getD i 0 → Cond.eq (.elem (tvS i) (.int (Int32.ofNat j))) (.int ((sbyt.getD i []).getD j 0)) ∈ FL := by decide +kernel
theorem fl_ne : ∀ i, i < 8 → ∀ j, j < 8 → i ≠ j → Cond.not (Cond.eq (tmS i) (tmS j)) ∈ FL ∨ Cond.not (Cond.eq (tmS j) (tmS i)) ∈ FL := by decide +kernel
theorem fl_ka : ∀ j, j < 6 → Cond.eq (.elem tmA (.int (Int32.ofNat j))) (.int (kaL.getD j 0)) ∈ FL := by decide +kernel
theorem fl_cn : ∀ j, j < 3 → Cond.eq (.elem tmC (.int (Int32.ofNat j))) (.int (cnL.getD j 0)) ∈ FL := by decide +kernel
theorem fl_1 : Cond.arrayOf tmA .int ∈ FL := by decide +kernel
theorem fl_2 : Cond.eq (.length tmA) (.int (Int32.ofNat 6)) ∈ FL := by decide +kernel
theorem fl_3 : Cond.arrayOf tmC .int ∈ FL := by decide +kernel
theorem fl_4 : Cond.eq (.length tmC) (.int (Int32.ofNat 3)) ∈ FL := by decide +kernel
theorem fl_5 : Cond.eq (.static "java/lang/String" "COMPACT_STRINGS" "Z") (.int 1) ∈ FL := by decide +kernel
theorem fl_6 : Cond.isRef (.static "jdk/internal/util/Preconditions" "SIOOBE_FORMATTER" "Ljava/util/function/BiFunction;") ∈ FL := by decide +kernel
theorem lt_t {w : Cond} (hm : w ∈ tables_1) : w ∈ lw_tbl := List.mem_append_right _ hm
def gX (tA tC : Nat) (adK adV : Nat → Nat) : Nat → Nat := fun j => if j = 0 then tA else if j = 1 then tC else if j < 20 then adK (j - 10) else adV (j - 20)
theorem gX_k {tA tC i : Nat} {adK adV : Nat → Nat} (h : i < 8) : gX tA tC adK adV (10 + i) = adK i := by
  unfold gX
  rw [if_neg (by omega), if_neg (by omega), if_pos (by omega), show 10 + i - 10 = i by omega]
theorem gX_v {tA tC i : Nat} {adK adV : Nat → Nat} : gX tA tC adK adV (20 + i) = adV i := by
  unfold gX
  rw [if_neg (by omega), if_neg (by omega), if_neg (by omega), show 20 + i - 20 = i by omega]
theorem sr_t : ∀ i, i < 8 → Cond.stringRef "KnotFair$Teller" (scp.getD i 0) (stx.getD i "") ∈ lw_tbl := fun i hi => by
  match i, hi with
  | 0, _ => exact lt_t (tm4 3 rfl)
  | 1, _ => exact lt_t (tm4 64 rfl)
  | 2, _ => exact lt_t (tm4 84 rfl)
  | 3, _ => exact lt_t (tm4 85 rfl)
  | 4, _ => exact lt_t (tm4 86 rfl)
  | 5, _ => exact lt_t (tm4 87 rfl)
  | 6, _ => exact lt_t (tm4 88 rfl)
  | 7, _ => exact lt_t (tm4 89 rfl)
set_option maxRecDepth 100000 in
theorem amb_start {s : State} {A : Array Value} (hts : ∀ w ∈ lw_tbl, w.before A s = true) (hF : ∀ w ∈ FL, w.before A s = true) : ∃ X : CX, X.2.2.1 = s.heap.size ∧ Amb X s ∧ AO s := by
  have hT : ∀ w ∈ TW, w.before A s = true := fun w h => hts w (List.mem_filter.mp h).1
  have hA : ∀ a : Nat, a < s.heap.size → ¬ (fun q : Nat => s.heap.size ≤ q) a := fun a h q => Nat.lt_irrefl _ (Nat.lt_of_lt_of_le h q)
  obtain ⟨c0, i0, k0⟩ := u_known (C := RX0) (T := TX0) (N := 3) (n := 3) hT iw0 (hts _ (lt_t (tm1 144 rfl)))
  obtain ⟨c1, i1, k1⟩ := u_known (C := RX1) (T := TX1) (N := 4) (n := 4) hT iw1 (hts _ (lt_t (tm1 28 rfl)))
  obtain ⟨c2, i2, k2⟩ := u_known (C := RX2) (T := TX2) (N := 2) (n := 2) hT iw2 (hts _ (lt_t (tm1 41 rfl)))
  obtain ⟨c3, i3, k3⟩ := u_known (C := RX3) (T := TX3) (N := 2) (n := 2) hT iw3 (hts _ (lt_t (tm1 174 rfl)))
  obtain ⟨c4, i4, k4⟩ := u_known (C := RX4) (T := TX4) (N := 3) (n := 3) hT iw4 (hts _ (lt_t (tm1 188 rfl)))
  obtain ⟨c5, i5, k5⟩ := u_known (C := RX5) (T := TX5) (N := 3) (n := 3) hT iw5 (hts _ (lt_t (tm1 128 rfl)))
  obtain ⟨c6, i6, k6⟩ := u_known (C := RX6) (T := TX6) (N := 6) (n := 6) hT iw6 (hts _ (lt_t (tm1 95 rfl)))
  obtain ⟨c8, i8, k8⟩ := u_known (C := RX8) (T := TX8) (N := 2) (n := 2) hT iw8 (hts _ (lt_t (tm1 35 rfl)))
  obtain ⟨c10, i10, k10⟩ := u_known (C := RX10) (T := TX10) (N := 2) (n := 2) hT iw10 (hts _ (lt_t (tm1 160 rfl)))
  obtain ⟨c11, i11, k11⟩ := u_known (C := RX11) (T := TX11) (N := 14) (n := 14) hT iw11 (hts _ (lt_t (tm1 20 rfl)))
  obtain ⟨c12, i12, k12⟩ := u_known (C := RX12) (T := TX12) (N := 27) (n := 27) hT iw12 (hts _ (lt_t (tm4 194 rfl)))
  obtain ⟨aI, kI, pI, eI1, eI2, eI3⟩ := Cond.arrayClass_spec (type := .int) (hts _ (lt_t (tm1 63 rfl)))
  obtain ⟨aJ, kJ, pJ, eJ1, eJ2, eJ3⟩ := Cond.arrayClass_spec (type := .long) (hts _ (lt_t (tm1 206 rfl)))
  have hoT : (Cond.arrayOver (.object "KnotFair$Tie")).before A s = true := hts _ (lt_t (tm1 34 rfl))
  have hoS : (Cond.arrayOver (.object "KnotFair$Sheet")).before A s = true := hts _ (lt_t (tm1 124 rfl))
  obtain ⟨pT, aT, kT, eT1, eT2, eT3, eT4, eT5⟩ := Cond.arrayOver_spec hoT
  obtain ⟨pS, aS, kS, eS1, eS2, eS3, eS4, eS5⟩ := Cond.arrayOver_spec hoS
  obtain ⟨tA, hA1, hA2⟩ := va_Tof (tm := tmA) (ty := .int) (N := 6) (f := fun j => .int (kaL.getD j 0)) (A := (fun q : Nat => s.heap.size ≤ q)) (by decide) (hF _ fl_1) (va_eqt (hF _ fl_2)) (fun j hj => va_eqt (hF _ (fl_ka j hj))) hA
  obtain ⟨tC, hC1, hC2⟩ := va_Tof (tm := tmC) (ty := .int) (N := 3) (f := fun j => .int (cnL.getD j 0)) (A := (fun q : Nat => s.heap.size ≤ q)) (by decide) (hF _ fl_3) (va_eqt (hF _ fl_4)) (fun j hj => va_eqt (hF _ (fl_cn j hj))) hA
  obtain ⟨adK, adV, hS1, hS2⟩ := vk_Sof (N := 8) (tm := tmS) (len := slen) (byt := sbyt) (A := (fun q : Nat => s.heap.size ≤ q)) (by decide) (fun i hi => hF _ (fl_ex i hi)) (fun i hi => hF _ (fl_co i hi)) (fun i hi => hF _ (fl_ar i hi)) (fun i hi => hF _ (fl_le i hi)) (fun i hi j hj => hF _ (fl_el i hi j hj)) (fun i j hi hj hne => (fl_ne i hi j hj hne).imp (fun h => hF _ h) (fun h => hF _ h)) hA
  refine ⟨((fun c => [c0, c1, c2, c3, c4, c5, c6, c6, c8, c6, c10, c11, c12].getD c c0, fun c => [i0, i1, i2, i3, i4, i5, i6, i6, i8, i6, i10, i11, i12].getD c i0), (fun j => [aI, aJ, aS, aT].getD j aI), s.heap.size, gX tA tC adK adV), rfl, ⟨⟨?_, ?_⟩, ?_, ?_⟩, hoT, hoS⟩
  · intro c q hq
    match c, hq with
    | 0, hq =>
      have e : (RX0, TX0, 3) = q := Option.some.inj hq
      subst e
      exact k0
    | 1, hq =>
      have e : (RX1, TX1, 4) = q := Option.some.inj hq
      subst e
      exact k1
    | 2, hq =>
      have e : (RX2, TX2, 2) = q := Option.some.inj hq
      subst e
      exact k2
    | 3, hq =>
      have e : (RX3, TX3, 2) = q := Option.some.inj hq
      subst e
      exact k3
    | 4, hq =>
      have e : (RX4, TX4, 3) = q := Option.some.inj hq
      subst e
      exact k4
    | 5, hq =>
      have e : (RX5, TX5, 3) = q := Option.some.inj hq
      subst e
      exact k5
    | 6, hq =>
      have e : (RX6, TX6, 6) = q := Option.some.inj hq
      subst e
      exact k6
    | 7, hq =>
      have e : (RX6, TX6, 6) = q := Option.some.inj hq
      subst e
      exact k6
    | 8, hq =>
      have e : (RX8, TX8, 2) = q := Option.some.inj hq
      subst e
      exact k8
    | 9, hq =>
      have e : (RX6, TX6, 6) = q := Option.some.inj hq
      subst e
      exact k6
    | 10, hq =>
      have e : (RX10, TX10, 2) = q := Option.some.inj hq
      subst e
      exact k10
    | 11, hq =>
      have e : (RX11, TX11, 14) = q := Option.some.inj hq
      subst e
      exact k11
    | 12, hq =>
      have e : (RX12, TX12, 27) = q := Option.some.inj hq
      subst e
      exact k12
    | c + 13, hq => exact absurd hq (by rw [List.getElem?_eq_none (by show 13 ≤ c + 13; omega)]; exact fun h => by cases h)
  · intro k q hq
    match k, hq with
    | 0, hq =>
      have e : (aI, FieldType.int) = q := Option.some.inj hq
      subst e
      exact ⟨fun n z => ⟨fun k h => (by cases h), kI, eI2, pI, eI3⟩, eI1⟩
    | 1, hq =>
      have e : (aJ, FieldType.long) = q := Option.some.inj hq
      subst e
      exact ⟨fun n z => ⟨fun k h => (by cases h), kJ, eJ2, pJ, eJ3⟩, eJ1⟩
    | 2, hq =>
      have e : (aS, FieldType.object "KnotFair$Sheet") = q := Option.some.inj hq
      subst e
      exact ⟨fun n z => ⟨fun k h => (by cases h), kS, eS3, pS, eS4⟩, kS, pS, eS3, eS4, eS1, eS5⟩
    | 3, hq =>
      have e : (aT, FieldType.object "KnotFair$Tie") = q := Option.some.inj hq
      subst e
      exact ⟨fun n z => ⟨fun k h => (by cases h), kT, eT3, pT, eT4⟩, kT, pT, eT3, eT4, eT1, eT5⟩
    | k + 4, hq => exact absurd hq (by rw [List.getElem?_eq_none (by show 4 ≤ k + 4; omega)]; exact fun h => by cases h)
  · intro w hw
    have h1 := List.mem_filter.mp hw
    have h2 := h1.2
    have ho : w.onTables = true := by cases w <;> first | rfl | (simp [isNest] at h2; done)
    exact va_Nw.of ho (hts w h1.1)
  · have hsk : vk_S 8 slen sbyt (fun i => gX tA tC adK adV (10 + i)) (fun i => gX tA tC adK adV (20 + i)) (fun q : Nat => s.heap.size ≤ q) s s.heap := by
      refine ⟨fun i hi => ?_, fun i j hi hj h => ?_⟩
      · dsimp only
        rw [gX_k hi, gX_v]
        exact hS1.1 i hi
      · dsimp only at h
        rw [gX_k hi, gX_k hj] at h
        exact hS1.2 i j hi hj h
    refine ⟨va_Zref (hts _ (lt_t (tm2 113 rfl))) (hts _ (lt_t (tm1 1 rfl))) hA1 hA, hA2, va_Zref (hts _ (lt_t (tm3 47 rfl))) (hts _ (lt_t (tm1 1 rfl))) hC1 hA, hC2, va_Zof (hts _ (lt_t (tm4 17 rfl))) (hts _ (lt_t (tm1 15 rfl))) (va_eqt (hF _ fl_5)) hA, fun i hi => ?_, hsk, va_Zqof (hts _ (lt_t (tm4 33 rfl))) (hts _ (lt_t (tm1 17 rfl))) (hF _ fl_6) hA⟩
    show vk_R _ _ _ (gX tA tC adK adV (10 + i)) s
    rw [gX_k hi]
    exact vk_R.of (hts _ (sr_t i hi)) (hS2 i hi)
