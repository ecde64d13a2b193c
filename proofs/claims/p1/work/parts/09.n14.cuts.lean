/-- the reference's cut, told as the class's -/
theorem c_X12_cutN (l : Launch) (k : Int32) (v : Int64) : Met l yX12_cutTo wsX12_cutTo ({ frames := 0, cells := 0, slots := 0, locals := 0 }) (va_Pc [.int k, .long v] (fun _ => True)) (vp_Sl (fun rz => rz = n_cut k v)) 0 0 (fun _ => False) := by
  have h := c_X12_cutTo l k v
  rw [q_cut] at h
  exact h
