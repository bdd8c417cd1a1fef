theorem sw_none3 {x : Int32} (h0 : ¬ x = 99) (h1 : ¬ x = 116) (h2 : ¬ x = 117) : Op.lookupswitch.offset [(99, 42), (116, 36), (117, 48)] 54 x.toInt = 54 := by
  have e0 : ¬ x.toInt = 99 := fun h => h0 (Int32.toInt_inj.mp (by rw [h]; rfl))
  have e1 : ¬ x.toInt = 116 := fun h => h1 (Int32.toInt_inj.mp (by rw [h]; rfl))
  have e2 : ¬ x.toInt = 117 := fun h => h2 (Int32.toInt_inj.mp (by rw [h]; rfl))
  simp [Op.lookupswitch.offset, e0, e1, e2, Ne.symm e0, Ne.symm e1, Ne.symm e2]
