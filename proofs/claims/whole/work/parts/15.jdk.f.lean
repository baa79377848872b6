noncomputable def f_J6_bitCount_0f7a4_48 (N : Nat) (v0 : Int32) : Option (Int32) :=
  (some (v0 &&& (63 : Int32)))
noncomputable def f_J6_bitCount_0f7a4_41 (N : Nat) (v0 : Int32) : Option (Int32) :=
  (f_J6_bitCount_0f7a4_48 N (v0 + (v0.toUInt32 >>> ((16 : Int32).toUInt32 &&& Int32.toUInt32 31)).toInt32))
noncomputable def f_J6_bitCount_0f7a4_34 (N : Nat) (v0 : Int32) : Option (Int32) :=
  (f_J6_bitCount_0f7a4_41 N (v0 + (v0.toUInt32 >>> ((8 : Int32).toUInt32 &&& Int32.toUInt32 31)).toInt32))
noncomputable def f_J6_bitCount_0f7a4_24 (N : Nat) (v0 : Int32) : Option (Int32) :=
  (f_J6_bitCount_0f7a4_34 N ((v0 + (v0.toUInt32 >>> ((4 : Int32).toUInt32 &&& Int32.toUInt32 31)).toInt32) &&& (252645135 : Int32)))
noncomputable def f_J6_bitCount_0f7a4_10 (N : Nat) (v0 : Int32) : Option (Int32) :=
  (f_J6_bitCount_0f7a4_24 N ((v0 &&& (858993459 : Int32)) + ((v0.toUInt32 >>> ((2 : Int32).toUInt32 &&& Int32.toUInt32 31)).toInt32 &&& (858993459 : Int32))))
noncomputable def f_J6_bitCount_0f7a4 (N : Nat) (v0 : Int32) : Option (Int32) :=
  (f_J6_bitCount_0f7a4_10 N (v0 - ((v0.toUInt32 >>> ((1 : Int32).toUInt32 &&& Int32.toUInt32 31)).toInt32 &&& (1431655765 : Int32))))
