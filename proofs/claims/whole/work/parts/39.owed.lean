theorem i_vc_kind {k : Nat} {u : SX} {v : SY} (I : i_Rel k u v) (hk : k + 4 ≤ 2050) : wpX_kind (fun r => wpY_kind (fun r' => r' = r ∧ i_Rel (k + 4) u v) v) u := (ci_ans I (i_up I)).1
theorem i_vc_value {k : Nat} {u : SX} {v : SY} (I : i_Rel k u v) (hk : k + 4 ≤ 2050) : wpX_value (fun r => wpY_value (fun r' => r' = r ∧ i_Rel (k + 4) u v) v) u := (ci_ans I (i_up I)).2.1
theorem i_vc_error {k : Nat} {u : SX} {v : SY} (I : i_Rel k u v) (hk : k + 4 ≤ 2050) : wpX_error (fun r => wpY_error (fun r' => r' = r ∧ i_Rel (k + 4) u v) v) u := (ci_ans I (i_up I)).2.2.1
theorem i_vc_place {k : Nat} {u : SX} {v : SY} (I : i_Rel k u v) (hk : k + 4 ≤ 2050) : wpX_place (fun r => wpY_place (fun r' => r' = r ∧ i_Rel (k + 4) u v) v) u := (ci_ans I (i_up I)).2.2.2.1
theorem i_vc_beats {k : Nat} {u : SX} {v : SY} (I : i_Rel k u v) (hk : k + 4 ≤ 2050) : wpX_beats (fun r => wpY_beats (fun r' => r' = r ∧ i_Rel (k + 4) u v) v) u := (ci_ans I (i_up I)).2.2.2.2.1
theorem i_vc_printed {k : Nat} {u : SX} {v : SY} (I : i_Rel k u v) (hk : k + 4 ≤ 2050) : wpX_printed (fun r => wpY_printed (fun r' => r' = r ∧ i_Rel (k + 4) u v) v) u := (ci_ans I (i_up I)).2.2.2.2.2.1
theorem i_vc_output {k : Nat} {u : SX} {v : SY} (I : i_Rel k u v) (hk : k + 4 ≤ 2050) (v1 : Int32) : wpX_output (fun r => wpY_output (fun r' => r' = r ∧ i_Rel (k + 4) u v) v v1) u v1 := (ci_ans I (i_up I)).2.2.2.2.2.2.2 v1
theorem i_vc_made {k : Nat} {u : SX} {v : SY} (I : i_Rel k u v) (hk : k + 4 ≤ 2050) (v1 : Int32) : wpX_made (fun r => wpY_made (fun r' => r' = r ∧ i_Rel (k + 4) u v) v v1) u v1 := (ci_ans I (i_up I)).2.2.2.2.2.2.1 v1
