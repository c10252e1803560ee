/-! ===== rows for longs, doubles, floats ===== -/
section GF
variable {X : gM} {E : gE} {M : gMt} {D n cells slots pc : Nat} {L : List (Option gV)} {st : List gV} {σ σ' : gS}
theorem x_i2d (K : gK X E M D n) {z : Int} (d : decode M.2.1 pc = .ok (.i2d, 1)) (k : gWX X E cells slots (pc + 1) L (.inl (.double (FP.i2d (Int32.ofInt z))) :: st) σ) : gWX X E cells slots pc L (iv z :: st) σ :=
  fun H locs ls hP hS hl => lv_i2d K.1 K.2.1 d (k H locs ls hP hS hl)
theorem x_i2f (K : gK X E M D n) {z : Int} (d : decode M.2.1 pc = .ok (.i2f, 1)) (k : gWX X E cells slots (pc + 1) L (.inl (.float (FP.i2f (Int32.ofInt z))) :: st) σ) : gWX X E cells slots pc L (iv z :: st) σ :=
  fun H locs ls hP hS hl => lv_i2f K.1 K.2.1 d (k H locs ls hP hS hl)
theorem x_ddiv (K : gK X E M D n) {x y : UInt64} (hn : vf_n64 (FP.ddiv x y)) (d : decode M.2.1 pc = .ok (.ddiv, 1)) (k : gWX X E cells slots (pc + 1) L (.inl (.double (FP.ddiv x y)) :: st) σ) : gWX X E cells slots pc L (.inl (.double y) :: .inl (.double x) :: st) σ :=
  fun H locs ls hP hS hl => lv_ddiv K.1 K.2.1 d hn (k H locs ls hP hS hl)
theorem x_fdiv (K : gK X E M D n) {x y : UInt32} (hn : vf_n32 (FP.fdiv x y)) (d : decode M.2.1 pc = .ok (.fdiv, 1)) (k : gWX X E cells slots (pc + 1) L (.inl (.float (FP.fdiv x y)) :: st) σ) : gWX X E cells slots pc L (.inl (.float y) :: .inl (.float x) :: st) σ :=
  fun H locs ls hP hS hl => lv_fdiv K.1 K.2.1 d hn (k H locs ls hP hS hl)
theorem x_f2d (K : gK X E M D n) {x : UInt32} (hn : vf_n64 (FP.f2d x)) (d : decode M.2.1 pc = .ok (.f2d, 1)) (k : gWX X E cells slots (pc + 1) L (.inl (.double (FP.f2d x)) :: st) σ) : gWX X E cells slots pc L (.inl (.float x) :: st) σ :=
  fun H locs ls hP hS hl => lv_f2d K.1 K.2.1 d hn (k H locs ls hP hS hl)
theorem x_dcmp (K : gK X E M D n) {x y : UInt64} {z : Int} {op : CmpOp} (hz : Op.cmpValue (FP.dcmp x y) op = Int32.ofInt z) (d : decode M.2.1 pc = .ok (.dcmp op, 1)) (k : gWX X E cells slots (pc + 1) L (iv z :: st) σ) : gWX X E cells slots pc L (.inl (.double y) :: .inl (.double x) :: st) σ :=
  fun H locs ls hP hS hl => lv_dcmp K.1 K.2.1 d (by rw [hz]; exact k H locs ls hP hS hl)
end GF
