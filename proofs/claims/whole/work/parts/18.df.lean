theorem df_H : ∀ j, j < 7 → defaultValue (ft_H j) = vp_V (sFs (sg 0) (fun _ => none) (fun _ => 0)) j := by decide +kernel
theorem df_T : ∀ j, j < 1 → defaultValue (ft_T j) = vp_V (sFs (sg 1) (fun _ => none) (fun _ => 0)) j := by decide +kernel
theorem df_P : ∀ j, j < 1 → defaultValue (ft_P j) = vp_V (sFs (sg 2) (fun _ => none) (fun _ => 0)) j := by decide +kernel
theorem df_N : ∀ j, j < 9 → defaultValue (ft_N j) = vp_V (sFs (sg 3) (fun _ => none) (fun _ => 0)) j := by decide +kernel
theorem df_K : ∀ j, j < 6 → defaultValue (ft_K j) = vp_V (sFs (sg 4) (fun _ => none) (fun _ => 0)) j := by decide +kernel
theorem df_U : ∀ j, j < 2 → defaultValue (ft_U j) = vp_V (sFs (sg 5) (fun _ => none) (fun _ => 0)) j := by decide +kernel
theorem df_F : ∀ j, j < 1 → defaultValue (ft_F j) = vp_V (sFs (sg 6) (fun _ => none) (fun _ => 0)) j := by decide +kernel
theorem df_M : ∀ j, j < 13 → defaultValue (ft_M j) = vp_V (sFs (sg 7) (fun _ => none) (fun _ => 0)) j := by decide +kernel
