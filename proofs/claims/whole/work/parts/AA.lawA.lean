theorem start_gk {s : State} {b : Nat} (hts : ∀ w ∈ lw_tbl, w.before #[Value.ref b] s = true) (hgv : (Cond.and given_1 narrow_1).before #[Value.ref b] s = true) : ∃ G : GG, gk G (fun q => s.heap.size ≤ q) s := by
  have ht : ∀ w ∈ tables_1, w.before #[Value.ref b] s = true := fun w hw => hts w (List.mem_append_right _ hw)
  have ha : ∀ w ∈ lw_all, w.before #[Value.ref b] s = true := fun w hw => hts w (List.mem_filter.mp hw).1
  have hn := flat_of_before _ hgv
  have hA : ∀ a : Nat, a < s.heap.size → ¬ (fun q : Nat => s.heap.size ≤ q) a := fun a h => Nat.not_le.mpr h
  obtain ⟨c0, i0, k0⟩ := u_known (C := RX0) (T := TX0) (N := 3) (n := 3) ha lay_X0 (ha _ w_198)
  obtain ⟨c1, i1, k1⟩ := u_known (C := RX1) (T := TX1) (N := 13) (n := 13) ha lay_X1 (ha _ w_88)
  obtain ⟨c2, i2, k2⟩ := u_known (C := RX3) (T := TX3) (N := 10) (n := 10) ha lay_X3 (ha _ w_235)
  obtain ⟨c3, i3, k3⟩ := u_known (C := RX4) (T := TX4) (N := 6) (n := 6) ha lay_X4 (ha _ w_380)
  obtain ⟨c4, i4, k4⟩ := u_known (C := RX5) (T := TX5) (N := 8) (n := 8) ha lay_X5 (ha _ w_275)
  obtain ⟨c5, i5, k5⟩ := u_known (C := RX6) (T := TX6) (N := 3) (n := 3) ha lay_X6 (ha _ w_152)
  obtain ⟨c6, i6, k6⟩ := u_known (C := RX7) (T := TX7) (N := 4) (n := 4) ha lay_X7 (ha _ w_175)
  obtain ⟨c7, i7, k7⟩ := u_known (C := RX8) (T := TX8) (N := 4) (n := 4) ha lay_X8 (ha _ w_82)
  obtain ⟨c8, i8, k8⟩ := u_known (C := RX9) (T := TX9) (N := 4) (n := 4) ha lay_X9 (ha _ w_74)
  obtain ⟨c9, i9, k9⟩ := u_known (C := RX10) (T := TX10) (N := 18) (n := 18) ha lay_X10 (ha _ w_1159)
  obtain ⟨a0, ka0, cp0, f0, g0, e0⟩ := Cond.arrayClass_spec (ht _ t_arr.1)
  obtain ⟨a1, ka1, cp1, f1, g1, e1⟩ := Cond.arrayClass_spec (ht _ t_arr.2.1)
  obtain ⟨a3, ka3, cp3, f3, g3, e3⟩ := Cond.arrayClass_spec (ht _ t_arr.2.2.1)
  obtain ⟨a4, ka4, cp4, f4, g4, e4⟩ := Cond.arrayClass_spec (ht _ t_arr.2.2.2.1)
  obtain ⟨cp2, a2, ka2, z1, -, g2, e2, f2⟩ := Cond.arrayOver_spec (ht _ t_arr.2.2.2.2)
  refine ⟨((fun k => match k with | 0 => c0 | 1 => c1 | 2 => c2 | 3 => c3 | 4 => c4 | 5 => c5 | 6 => c6 | 7 => c7 | 8 => c8 | _ => c9, fun k => match k with | 0 => i0 | 1 => i1 | 2 => i2 | 3 => i3 | 4 => i4 | 5 => i5 | 6 => i6 | 7 => i7 | 8 => i8 | _ => i9), fun k => match k with | 0 => a0 | 1 => a1 | 2 => a2 | 3 => a3 | _ => a4), ⟨fun k q hq => ?_, fun k q hq => ?_⟩, fun q hq => va_Nw.of rfl (ht _ (t_nestM q hq)), fun q hq => ?_, ⟨vx_Zqof (ht _ t_ls.1) (ht _ t_ls.2.2.1) (hn _ n_ls.1) hA, vx_Zqof (ht _ t_ls.2.1) (ht _ t_ls.2.2.1) (hn _ n_ls.2) hA⟩, fun q hq => ?_, va_AO.of (ht _ t_arr.2.2.2.2), fun X hX => va_Nw.of rfl (ht _ (t_exC X hX)), fun y hy => va_Nw.of rfl (ht _ (t_exD y hy)), fun q hq => va_Nc.of (hn _ (n_nc q hq))⟩
  · match k, hq with
    | 0, hq => cases hq; exact k0
    | 1, hq => cases hq; exact k1
    | 2, hq => cases hq; exact k2
    | 3, hq => cases hq; exact k3
    | 4, hq => cases hq; exact k4
    | 5, hq => cases hq; exact k5
    | 6, hq => cases hq; exact k6
    | 7, hq => cases hq; exact k7
    | 8, hq => cases hq; exact k8
    | 9, hq => cases hq; exact k9
    | k + 10, hq => simp [cls] at hq
  · match k, hq with
    | 0, hq => cases hq; exact ⟨fun N z => ⟨(fun k h => by cases h), ka0, g0, cp0, e0⟩, f0⟩
    | 1, hq => cases hq; exact ⟨fun N z => ⟨(fun k h => by cases h), ka1, g1, cp1, e1⟩, f1⟩
    | 2, hq => cases hq; exact ⟨fun N z => ⟨(fun k h => by cases h), ka2, g2, cp2, e2⟩, ka2, cp2, g2, e2, z1, f2⟩
    | 3, hq => cases hq; exact ⟨fun N z => ⟨(fun k h => by cases h), ka3, g3, cp3, e3⟩, f3⟩
    | 4, hq => cases hq; exact ⟨fun N z => ⟨(fun k h => by cases h), ka4, g4, cp4, e4⟩, f4⟩
    | k + 5, hq => simp [tysG] at hq
  · obtain ⟨a, -, -, -, e, -⟩ := Cond.exactly_spec (hn _ (n_str q hq))
    exact ⟨a, vk_R.of (A := #[Value.ref b]) (ht _ (t_str q hq)) e⟩
  · obtain ⟨n1, n2, n3⟩ := n_nestF q hq
    obtain ⟨t, e, hT⟩ := va_Tof (N := 4) (f := fun k => .int (q.2.2 k)) (by decide) (hn _ n1) (va_eqt (hn _ n2)) (fun j hj => va_eqt (hn _ (n3 ⟨j, hj⟩))) hA
    exact ⟨va_Nw.of rfl (ht _ (t_nestF q hq).1), t, va_Zof (ht _ (t_nestF q hq).2) (ht _ t_ls.2.2.2) e hA, hT⟩
