section JPOP2
variable {G : jG} {cc : ByteArray} {own : String} {Ts : List Cond} {nL : Nat} {ret : Option FieldType} {rm : Room} {Rt : jRt} {pc : Nat} {lv : List (Nat × Value)} {st : List Value} {Z : jZ} {I : jI} {L : jL} {k n : Nat}
theorem j_pop2 (E : jE G cc own Ts nL ret rm Rt) {v : Value} (d : decode cc pc = .ok (.pop2, 1)) (hv : v.category = 2) (kk : jJ G nL (pc + 1) lv (st) Z I L k n) : jJ G nL pc lv (v :: st) Z I L k n := fun H locs ls hl hP hD hS => lv_pop2_2 E.1.1 E.1.2.1 d hv (kk H locs ls hl hP hD hS)
end JPOP2
