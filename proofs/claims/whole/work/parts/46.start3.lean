theorem lw_known {s : State} {b : Nat} (hW : ∀ w ∈ qx_W, w.before #[Value.ref b] s = true) : ∃ D : va_G, va_K D vwCl [] s := by
  obtain ⟨k0, j0, hk0⟩ := u_known (C := RX0) (T := TX0) (N := 7) (n := 7) hW hiX0 (hW _ qw_96)
  obtain ⟨k1, j1, hk1⟩ := u_known (C := RX1) (T := TX1) (N := 10) (n := 10) hW hiX1 (hW _ qw_90)
  obtain ⟨k2, j2, hk2⟩ := u_known (C := RX2) (T := TX2) (N := 7) (n := 7) hW hiX2 (hW _ qw_165)
  obtain ⟨k3, j3, hk3⟩ := u_known (C := RX3) (T := TX3) (N := 7) (n := 7) hW hiX3 (hW _ qw_56)
  obtain ⟨k4, j4, hk4⟩ := u_known (C := RX4) (T := TX4) (N := 6) (n := 6) hW hiX4 (hW _ qw_48)
  obtain ⟨k5, j5, hk5⟩ := u_known (C := RX5) (T := TX5) (N := 13) (n := 13) hW hiX5 (hW _ qw_577)
  refine ⟨(fun k => if k = 0 then k0 else if k = 1 then k1 else if k = 2 then k2 else if k = 3 then k3 else if k = 4 then k4 else k5, fun k => if k = 0 then j0 else if k = 1 then j1 else if k = 2 then j2 else if k = 3 then j3 else if k = 4 then j4 else j5), ?_, fun k q h => by simp at h⟩
  intro k q hq
  match k, hq with
  | 0, hq => cases hq; exact hk0
  | 1, hq => cases hq; exact hk1
  | 2, hq => cases hq; exact hk2
  | 3, hq => cases hq; exact hk3
  | 4, hq => cases hq; exact hk4
  | 5, hq => cases hq; exact hk5
  | k + 6, hq => simp [vwCl] at hq
