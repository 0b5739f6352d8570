/-! THE START: what the tables say at the entry of the law -/
theorem nw_in : ∀ w ∈ xNW, w ∈ lw_tbl := fun w hw => tb1 (mem_places [26, 69, 112, 139, 218, 429, 440, 446, 450, 454, 457, 463, 523, 351, 366, 379, 435, 714, 715, 716, 717, 718] (by decide +kernel) w hw)
theorem nw_tabs : xNW.all (fun w => w.onTables) = true := by decide +kernel
theorem ao_in : ∀ w ∈ xAO.map (fun C => Cond.arrayOver (.object C)), w ∈ lw_tbl := fun w hw => tb1 (mem_places [59, 257, 67] (by decide +kernel) w hw)
theorem aa_in : Cond.arrayOver (.array .int) ∈ lw_tbl := tb1 (mem_places (ws := [Cond.arrayOver (.array .int)]) [117] (by decide +kernel) _ List.mem_cons_self)
theorem ac_0 : Cond.arrayClass .int ∈ lw_tbl := tb1 (mem_places (ws := [Cond.arrayClass .int]) [57] (by decide +kernel) _ List.mem_cons_self)
theorem ac_1 : Cond.arrayClass .char ∈ lw_tbl := tb1 (mem_places (ws := [Cond.arrayClass .char]) [56] (by decide +kernel) _ List.mem_cons_self)
theorem ac_2 : Cond.arrayClass .int ∈ lw_tbl := tb1 (mem_places (ws := [Cond.arrayClass .int]) [57] (by decide +kernel) _ List.mem_cons_self)
theorem in_0 : Cond.instantiable "LinesDownFilm$Descent" 6 ∈ lw_tbl := tb1 (mem_places (ws := [Cond.instantiable "LinesDownFilm$Descent" 6]) [111] (by decide +kernel) _ List.mem_cons_self)
theorem in_1 : Cond.instantiable "LinesDownFilm$Gate" 1 ∈ lw_tbl := tb1 (mem_places (ws := [Cond.instantiable "LinesDownFilm$Gate" 1]) [263] (by decide +kernel) _ List.mem_cons_self)
theorem in_2 : Cond.instantiable "LinesDownFilm$Joining" 5 ∈ lw_tbl := tb1 (mem_places (ws := [Cond.instantiable "LinesDownFilm$Joining" 5]) [138] (by decide +kernel) _ List.mem_cons_self)
theorem in_3 : Cond.instantiable "LinesDownFilm$Machine" 1 ∈ lw_tbl := tb1 (mem_places (ws := [Cond.instantiable "LinesDownFilm$Machine" 1]) [320] (by decide +kernel) _ List.mem_cons_self)
theorem in_4 : Cond.instantiable "LinesDownFilm$Page" 8 ∈ lw_tbl := tb1 (mem_places (ws := [Cond.instantiable "LinesDownFilm$Page" 8]) [25] (by decide +kernel) _ List.mem_cons_self)
theorem in_5 : Cond.instantiable "LinesDownFilm$Print" 5 ∈ lw_tbl := tb1 (mem_places (ws := [Cond.instantiable "LinesDownFilm$Print" 5]) [68] (by decide +kernel) _ List.mem_cons_self)
theorem in_6 : Cond.instantiable "LinesDownFilm$Roller" 3 ∈ lw_tbl := tb1 (mem_places (ws := [Cond.instantiable "LinesDownFilm$Roller" 3]) [278] (by decide +kernel) _ List.mem_cons_self)
theorem in_7 : Cond.instantiable "LinesDownFilm$Shelf" 5 ∈ lw_tbl := tb1 (mem_places (ws := [Cond.instantiable "LinesDownFilm$Shelf" 5]) [61] (by decide +kernel) _ List.mem_cons_self)
theorem in_8 : Cond.instantiable "LinesDownFilm$Toothed" 3 ∈ lw_tbl := tb1 (mem_places (ws := [Cond.instantiable "LinesDownFilm$Toothed" 3]) [296] (by decide +kernel) _ List.mem_cons_self)
theorem in_9 : Cond.instantiable "LinesDownFilm$Wound" 3 ∈ lw_tbl := tb1 (mem_places (ws := [Cond.instantiable "LinesDownFilm$Wound" 3]) [306] (by decide +kernel) _ List.mem_cons_self)
theorem in_10 : Cond.instantiable "LinesDownFilm" 9 ∈ lw_tbl := tb1 (mem_places (ws := [Cond.instantiable "LinesDownFilm" 9]) [17] (by decide +kernel) _ List.mem_cons_self)
theorem nc_in : ∀ w ∈ xNC.map (fun q => Cond.not (.castable q.1 q.2)), w ∈ flatC (Jvm.Cond.and given_1 narrow_1) := by decide +kernel
theorem arr_prim {s : State} {args : Array Value} {ty : FieldType} (hn : ∀ C, ty ≠ .object C) (h : (Cond.arrayClass ty).before args s = true) : ∃ cA : ClassId, ArrOfT s cA ty ∧ va_RA s cA ty := by
  obtain ⟨cA, kA, comp, h1, h2, h3⟩ := Cond.arrayClass_spec h
  refine ⟨cA, fun n z => ⟨fun k h => (by cases h), kA, h2, comp, h3⟩, ?_⟩
  cases ty with
  | object C => exact absurd rfl (hn C)
  | _ => exact h1
theorem arr_obj {s : State} {C : String} (h : va_AO C s) : ∃ cA : ClassId, ArrOfT s cA (.object C) ∧ va_RA s cA (.object C) := by
  obtain ⟨comp, cA, kA, h1, h2, h3, h4, h5⟩ := Cond.arrayOver_spec (va_AO.use (A := #[]) h)
  exact ⟨cA, fun n z => ⟨fun k h => (by cases h), kA, h3, comp, h4⟩, kA, comp, h3, h4, h1, h5⟩
theorem arr_arr {s : State} (h : xAA s) : ∃ cA : ClassId, ArrOfT s cA (.array .int) ∧ va_RA s cA (.array .int) := by
  obtain ⟨comp, cA, kA, h1, h2, h3, h4, h5⟩ := xAA_spec h
  exact ⟨cA, fun n z => ⟨fun k h => (by cases h), kA, h3, comp, h4⟩, h5⟩
theorem KX_start {s : State} {args : Array Value} (hts : ∀ w ∈ lw_tbl, w.before args s = true) (hg : (Jvm.Cond.and given_1 narrow_1).before args s = true) : ∃ (D : va_G) (cid : Nat → ClassId), KX D cid s := by
  have hxt : ∀ w ∈ xTB, w.before args s = true := fun w hw => hts w (List.mem_filter.mp hw).1
  obtain ⟨c0, i0, hK0⟩ := u_known (C := "LinesDownFilm$Descent") (T := xT0) (N := 6) (n := 6) hxt cw_0 (hts _ in_0)
  obtain ⟨c1, i1, hK1⟩ := u_known (C := "LinesDownFilm$Gate") (T := xT1) (N := 1) (n := 1) hxt cw_1 (hts _ in_1)
  obtain ⟨c2, i2, hK2⟩ := u_known (C := "LinesDownFilm$Joining") (T := xT2) (N := 5) (n := 5) hxt cw_2 (hts _ in_2)
  obtain ⟨c3, i3, hK3⟩ := u_known (C := "LinesDownFilm$Machine") (T := xT3) (N := 1) (n := 1) hxt cw_3 (hts _ in_3)
  obtain ⟨c4, i4, hK4⟩ := u_known (C := "LinesDownFilm$Page") (T := xT4) (N := 8) (n := 8) hxt cw_4 (hts _ in_4)
  obtain ⟨c5, i5, hK5⟩ := u_known (C := "LinesDownFilm$Print") (T := xT5) (N := 5) (n := 5) hxt cw_5 (hts _ in_5)
  obtain ⟨c6, i6, hK6⟩ := u_known (C := "LinesDownFilm$Roller") (T := xT6) (N := 3) (n := 3) hxt cw_6 (hts _ in_6)
  obtain ⟨c7, i7, hK7⟩ := u_known (C := "LinesDownFilm$Shelf") (T := xT7) (N := 5) (n := 5) hxt cw_7 (hts _ in_7)
  obtain ⟨c8, i8, hK8⟩ := u_known (C := "LinesDownFilm$Toothed") (T := xT8) (N := 3) (n := 3) hxt cw_8 (hts _ in_8)
  obtain ⟨c9, i9, hK9⟩ := u_known (C := "LinesDownFilm$Wound") (T := xT9) (N := 3) (n := 3) hxt cw_9 (hts _ in_9)
  obtain ⟨c10, i10, hK10⟩ := u_known (C := "LinesDownFilm") (T := xT10) (N := 9) (n := 9) hxt cw_10 (hts _ in_10)
  have hAO : ∀ C ∈ xAO, va_AO C s := fun C hC => va_AO.of (A := args) (hts _ (ao_in _ (List.mem_map.mpr ⟨C, hC, rfl⟩)))
  have hAA : xAA s := hts _ aa_in
  obtain ⟨a0, hA0⟩ := arr_prim (ty := .int) (fun C h => by cases h) (hts _ ac_0)
  obtain ⟨a1, hA1⟩ := arr_prim (ty := .char) (fun C h => by cases h) (hts _ ac_1)
  obtain ⟨a2, hA2⟩ := arr_prim (ty := .int) (fun C h => by cases h) (hts _ ac_2)
  obtain ⟨a3, hA3⟩ := arr_obj (hAO "LinesDownFilm$Machine" (by decide))
  obtain ⟨a4, hA4⟩ := arr_obj (hAO "LinesDownFilm$Part" (by decide))
  obtain ⟨a5, hA5⟩ := arr_obj (hAO "LinesDownFilm$Print" (by decide))
  obtain ⟨a6, hA6⟩ := arr_arr hAA
  refine ⟨(fun k => [c0, c1, c2, c3, c4, c5, c6, c7, c8, c9, c10].getD k c0, fun k => [i0, i1, i2, i3, i4, i5, i6, i7, i8, i9, i10].getD k i0), fun k => [a0, a1, a2, a3, a4, a5, a6].getD k a0, ⟨?_, ?_⟩, fun w hw => va_Nw.of (A := args) (List.all_eq_true.mp nw_tabs w hw) (hts w (nw_in w hw)), hAO, hAA, fun q hq => va_Nc.of (args := args) (flat_of_before _ hg _ (nc_in _ (List.mem_map.mpr ⟨q, hq, rfl⟩)))⟩
  · intro k q hq
    match k, hq with
    | 0, hq => cases hq; exact hK0
    | 1, hq => cases hq; exact hK1
    | 2, hq => cases hq; exact hK2
    | 3, hq => cases hq; exact hK3
    | 4, hq => cases hq; exact hK4
    | 5, hq => cases hq; exact hK5
    | 6, hq => cases hq; exact hK6
    | 7, hq => cases hq; exact hK7
    | 8, hq => cases hq; exact hK8
    | 9, hq => cases hq; exact hK9
    | 10, hq => cases hq; exact hK10
    | k + 11, hq => simp [xcl] at hq
  · intro k q hq
    match k, hq with
    | 0, hq => cases hq; exact hA0
    | 1, hq => cases hq; exact hA1
    | 2, hq => cases hq; exact hA2
    | 3, hq => cases hq; exact hA3
    | 4, hq => cases hq; exact hA4
    | 5, hq => cases hq; exact hA5
    | 6, hq => cases hq; exact hA6
    | k + 7, hq => simp [xTys] at hq
