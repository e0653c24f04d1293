/-! the law: its loop -/
def lBd (j18 : Nat → Nat → Nat → Int32 → Nat → Nat → y_H → Option ((Bool × Nat × Nat) × y_H)) (v0_18 : Nat) (v1_18 : Nat) (v2_18 : Nat) (v3_18 : Int32) (c18 : Nat) (s18 : Nat) (h13 : y_H) : Option ((Bool × Nat × Nat) × y_H) :=
      if y_K h13 v0_18 = 200 then
      if ((nI (y_N h13 v0_18)) - 6) < v3_18 then
        some ((true, c18, s18), h13)
      else
        if y_K h13 v0_18 = 200 ∧ y_ix v3_18 (y_N h13 v0_18) = true then
        y_jn (fun (v0_1753 : Nat) (v1_1753 : Nat) (v2_1753 : Nat) (v3_1753 : Int32) (c1753 : Nat) (s1753 : Nat) (h14 : y_H) => (
            j18 v0_1753 v1_1753 v2_1753 (v3_1753 + 6) c1753 s1753 h14 : Option ((Bool × Nat × Nat) × y_H))) (fun j1753 =>
        if ((y_I h13 v0_18 (Int32.toNatClampNeg v3_18)) &&& 63) = 0 then
          if y_K h13 v0_18 = 200 ∧ y_ix (v3_18 + 1) (y_N h13 v0_18) = true then
          if y_K h13 v0_18 = 200 ∧ y_ix (v3_18 + 2) (y_N h13 v0_18) = true then
          if y_K h13 v0_18 = 200 ∧ y_ix (v3_18 + 3) (y_N h13 v0_18) = true then
          if y_K h13 v0_18 = 200 ∧ y_ix (v3_18 + 4) (y_N h13 v0_18) = true then
          if y_K h13 v0_18 = 200 ∧ y_ix (v3_18 + 5) (y_N h13 v0_18) = true then
          if y_K h13 v1_18 = 12 then
          y_cl (f_X11_box v1_18 (y_I h13 v0_18 (Int32.toNatClampNeg (v3_18 + 1))) (y_I h13 v0_18 (Int32.toNatClampNeg (v3_18 + 2))) (y_I h13 v0_18 (Int32.toNatClampNeg (v3_18 + 3))) (y_I h13 v0_18 (Int32.toNatClampNeg (v3_18 + 4))) (y_I h13 v0_18 (Int32.toNatClampNeg (v3_18 + 5))) c18 s18 h13) (fun r16 h17 =>
          if y_K h17 v0_18 = 200 ∧ y_ix (v3_18 + 1) (y_N h17 v0_18) = true then
          if y_K h17 v0_18 = 200 ∧ y_ix (v3_18 + 2) (y_N h17 v0_18) = true then
          if y_K h17 v0_18 = 200 ∧ y_ix (v3_18 + 3) (y_N h17 v0_18) = true then
          if y_K h17 v0_18 = 200 ∧ y_ix (v3_18 + 4) (y_N h17 v0_18) = true then
          if y_K h17 v0_18 = 200 ∧ y_ix (v3_18 + 5) (y_N h17 v0_18) = true then
          if y_K h17 v2_18 = 13 then
          y_cl (f_X12_box v2_18 (y_I h17 v0_18 (Int32.toNatClampNeg (v3_18 + 1))) (y_I h17 v0_18 (Int32.toNatClampNeg (v3_18 + 2))) (y_I h17 v0_18 (Int32.toNatClampNeg (v3_18 + 3))) (y_I h17 v0_18 (Int32.toNatClampNeg (v3_18 + 4))) (y_I h17 v0_18 (Int32.toNatClampNeg (v3_18 + 5))) h17) (fun r19 h20 =>
          if r16.1 = r19 then
            j1753 v0_18 v1_18 v2_18 v3_18 r16.2.1 r16.2.2 h20
          else
            some ((false, r16.2.1, r16.2.2), h20))
          else none
          else none
          else none
          else none
          else none
          else none)
          else none
          else none
          else none
          else none
          else none
          else none
        else
        if ((y_I h13 v0_18 (Int32.toNatClampNeg v3_18)) &&& 63) = 1 then
          if y_K h13 v0_18 = 200 ∧ y_ix (v3_18 + 1) (y_N h13 v0_18) = true then
          if y_K h13 v0_18 = 200 ∧ y_ix (v3_18 + 2) (y_N h13 v0_18) = true then
          if y_K h13 v1_18 = 12 then
          y_cl (f_X11_body v1_18 (y_I h13 v0_18 (Int32.toNatClampNeg (v3_18 + 1))) (y_I h13 v0_18 (Int32.toNatClampNeg (v3_18 + 2))) h13) (fun r36 h37 =>
          if y_K h37 v0_18 = 200 ∧ y_ix (v3_18 + 1) (y_N h37 v0_18) = true then
          if y_K h37 v0_18 = 200 ∧ y_ix (v3_18 + 2) (y_N h37 v0_18) = true then
          if y_K h37 v2_18 = 13 then
          y_cl (f_X12_body v2_18 (y_I h37 v0_18 (Int32.toNatClampNeg (v3_18 + 1))) (y_I h37 v0_18 (Int32.toNatClampNeg (v3_18 + 2))) h37) (fun r39 h40 =>
          if r36 = r39 then
            j1753 v0_18 v1_18 v2_18 v3_18 c18 s18 h40
          else
            some ((false, c18, s18), h40))
          else none
          else none
          else none)
          else none
          else none
          else none
        else
        if ((y_I h13 v0_18 (Int32.toNatClampNeg v3_18)) &&& 63) = 2 then
          if y_K h13 v0_18 = 200 ∧ y_ix (v3_18 + 1) (y_N h13 v0_18) = true then
          if y_K h13 v0_18 = 200 ∧ y_ix (v3_18 + 2) (y_N h13 v0_18) = true then
          if y_K h13 v1_18 = 12 then
          y_cl (f_X11_where v1_18 (y_I h13 v0_18 (Int32.toNatClampNeg (v3_18 + 1))) (y_I h13 v0_18 (Int32.toNatClampNeg (v3_18 + 2))) h13) (fun r50 h51 =>
          if y_K h51 v0_18 = 200 ∧ y_ix (v3_18 + 1) (y_N h51 v0_18) = true then
          if y_K h51 v0_18 = 200 ∧ y_ix (v3_18 + 2) (y_N h51 v0_18) = true then
          if y_K h51 v2_18 = 13 then
          y_cl (f_X12_where v2_18 (y_I h51 v0_18 (Int32.toNatClampNeg (v3_18 + 1))) (y_I h51 v0_18 (Int32.toNatClampNeg (v3_18 + 2))) h51) (fun r53 h54 =>
          if r50 = r53 then
            j1753 v0_18 v1_18 v2_18 v3_18 c18 s18 h54
          else
            some ((false, c18, s18), h54))
          else none
          else none
          else none)
          else none
          else none
          else none
        else
        if ((y_I h13 v0_18 (Int32.toNatClampNeg v3_18)) &&& 63) = 3 then
          if y_K h13 v0_18 = 200 ∧ y_ix (v3_18 + 1) (y_N h13 v0_18) = true then
          if y_K h13 v0_18 = 200 ∧ y_ix (v3_18 + 2) (y_N h13 v0_18) = true then
          if y_K h13 v0_18 = 200 ∧ y_ix (v3_18 + 3) (y_N h13 v0_18) = true then
          if y_K h13 v1_18 = 12 then
          y_cl (f_X11_bay v1_18 (y_I h13 v0_18 (Int32.toNatClampNeg (v3_18 + 1))) (y_I h13 v0_18 (Int32.toNatClampNeg (v3_18 + 2))) (y_I h13 v0_18 (Int32.toNatClampNeg (v3_18 + 3))) c18 s18 h13) (fun r64 h65 =>
          if y_K h65 v0_18 = 200 ∧ y_ix (v3_18 + 1) (y_N h65 v0_18) = true then
          if y_K h65 v0_18 = 200 ∧ y_ix (v3_18 + 2) (y_N h65 v0_18) = true then
          if y_K h65 v0_18 = 200 ∧ y_ix (v3_18 + 3) (y_N h65 v0_18) = true then
          if y_K h65 v2_18 = 13 then
          y_cl (f_X12_bay v2_18 (y_I h65 v0_18 (Int32.toNatClampNeg (v3_18 + 1))) (y_I h65 v0_18 (Int32.toNatClampNeg (v3_18 + 2))) (y_I h65 v0_18 (Int32.toNatClampNeg (v3_18 + 3))) h65) (fun r67 h68 =>
          if r64.1 = r67 then
            j1753 v0_18 v1_18 v2_18 v3_18 r64.2.1 r64.2.2 h68
          else
            some ((false, r64.2.1, r64.2.2), h68))
          else none
          else none
          else none
          else none)
          else none
          else none
          else none
          else none
        else
        if ((y_I h13 v0_18 (Int32.toNatClampNeg v3_18)) &&& 63) = 4 then
          if y_K h13 v0_18 = 200 ∧ y_ix (v3_18 + 1) (y_N h13 v0_18) = true then
          if y_K h13 v0_18 = 200 ∧ y_ix (v3_18 + 2) (y_N h13 v0_18) = true then
          if y_K h13 v0_18 = 200 ∧ y_ix (v3_18 + 3) (y_N h13 v0_18) = true then
          if y_K h13 v1_18 = 12 then
          y_cl (f_X11_plugs v1_18 (y_I h13 v0_18 (Int32.toNatClampNeg (v3_18 + 1))) (y_I h13 v0_18 (Int32.toNatClampNeg (v3_18 + 2))) (y_I h13 v0_18 (Int32.toNatClampNeg (v3_18 + 3))) h13) (fun r80 h81 =>
          if y_K h81 v0_18 = 200 ∧ y_ix (v3_18 + 1) (y_N h81 v0_18) = true then
          if y_K h81 v0_18 = 200 ∧ y_ix (v3_18 + 2) (y_N h81 v0_18) = true then
          if y_K h81 v0_18 = 200 ∧ y_ix (v3_18 + 3) (y_N h81 v0_18) = true then
          if y_K h81 v2_18 = 13 then
          y_cl (f_X12_plugs v2_18 (y_I h81 v0_18 (Int32.toNatClampNeg (v3_18 + 1))) (y_I h81 v0_18 (Int32.toNatClampNeg (v3_18 + 2))) (y_I h81 v0_18 (Int32.toNatClampNeg (v3_18 + 3))) h81) (fun r83 h84 =>
          if r80 = r83 then
            j1753 v0_18 v1_18 v2_18 v3_18 c18 s18 h84
          else
            some ((false, c18, s18), h84))
          else none
          else none
          else none
          else none)
          else none
          else none
          else none
          else none
        else
        if ((y_I h13 v0_18 (Int32.toNatClampNeg v3_18)) &&& 63) = 5 then
          if y_K h13 v0_18 = 200 ∧ y_ix (v3_18 + 1) (y_N h13 v0_18) = true then
          if y_K h13 v0_18 = 200 ∧ y_ix (v3_18 + 2) (y_N h13 v0_18) = true then
          if y_K h13 v0_18 = 200 ∧ y_ix (v3_18 + 3) (y_N h13 v0_18) = true then
          if y_K h13 v1_18 = 12 then
          y_cl (f_X11_apart v1_18 (y_I h13 v0_18 (Int32.toNatClampNeg (v3_18 + 1))) (y_I h13 v0_18 (Int32.toNatClampNeg (v3_18 + 2))) (y_I h13 v0_18 (Int32.toNatClampNeg (v3_18 + 3))) h13) (fun r96 h97 =>
          if y_K h97 v0_18 = 200 ∧ y_ix (v3_18 + 1) (y_N h97 v0_18) = true then
          if y_K h97 v0_18 = 200 ∧ y_ix (v3_18 + 2) (y_N h97 v0_18) = true then
          if y_K h97 v0_18 = 200 ∧ y_ix (v3_18 + 3) (y_N h97 v0_18) = true then
          if y_K h97 v2_18 = 13 then
          y_cl (f_X12_apart v2_18 (y_I h97 v0_18 (Int32.toNatClampNeg (v3_18 + 1))) (y_I h97 v0_18 (Int32.toNatClampNeg (v3_18 + 2))) (y_I h97 v0_18 (Int32.toNatClampNeg (v3_18 + 3))) h97) (fun r99 h100 =>
          if r96 = r99 then
            j1753 v0_18 v1_18 v2_18 v3_18 c18 s18 h100
          else
            some ((false, c18, s18), h100))
          else none
          else none
          else none
          else none)
          else none
          else none
          else none
          else none
        else
        if ((y_I h13 v0_18 (Int32.toNatClampNeg v3_18)) &&& 63) = 6 then
          if y_K h13 v0_18 = 200 ∧ y_ix (v3_18 + 1) (y_N h13 v0_18) = true then
          if y_K h13 v0_18 = 200 ∧ y_ix (v3_18 + 2) (y_N h13 v0_18) = true then
          if y_K h13 v0_18 = 200 ∧ y_ix (v3_18 + 3) (y_N h13 v0_18) = true then
          if y_K h13 v1_18 = 12 then
          y_cl (f_X11_stack v1_18 (y_I h13 v0_18 (Int32.toNatClampNeg (v3_18 + 1))) (y_I h13 v0_18 (Int32.toNatClampNeg (v3_18 + 2))) (y_I h13 v0_18 (Int32.toNatClampNeg (v3_18 + 3))) h13) (fun r112 h113 =>
          if y_K h113 v0_18 = 200 ∧ y_ix (v3_18 + 1) (y_N h113 v0_18) = true then
          if y_K h113 v0_18 = 200 ∧ y_ix (v3_18 + 2) (y_N h113 v0_18) = true then
          if y_K h113 v0_18 = 200 ∧ y_ix (v3_18 + 3) (y_N h113 v0_18) = true then
          if y_K h113 v2_18 = 13 then
          y_cl (f_X12_stack v2_18 (y_I h113 v0_18 (Int32.toNatClampNeg (v3_18 + 1))) (y_I h113 v0_18 (Int32.toNatClampNeg (v3_18 + 2))) (y_I h113 v0_18 (Int32.toNatClampNeg (v3_18 + 3))) h113) (fun r115 h116 =>
          if r112 = r115 then
            j1753 v0_18 v1_18 v2_18 v3_18 c18 s18 h116
          else
            some ((false, c18, s18), h116))
          else none
          else none
          else none
          else none)
          else none
          else none
          else none
          else none
        else
        if ((y_I h13 v0_18 (Int32.toNatClampNeg v3_18)) &&& 63) = 7 then
          if y_K h13 v0_18 = 200 ∧ y_ix (v3_18 + 1) (y_N h13 v0_18) = true then
          if y_K h13 v1_18 = 12 then
          y_cl (f_X11_share v1_18 (y_I h13 v0_18 (Int32.toNatClampNeg (v3_18 + 1))) h13) (fun r128 h129 =>
          if y_K h129 v0_18 = 200 ∧ y_ix (v3_18 + 1) (y_N h129 v0_18) = true then
          if y_K h129 v2_18 = 13 then
          y_cl (f_X12_share v2_18 (y_I h129 v0_18 (Int32.toNatClampNeg (v3_18 + 1))) h129) (fun r131 h132 =>
          if r128 = r131 then
            j1753 v0_18 v1_18 v2_18 v3_18 c18 s18 h132
          else
            some ((false, c18, s18), h132))
          else none
          else none)
          else none
          else none
        else
        if ((y_I h13 v0_18 (Int32.toNatClampNeg v3_18)) &&& 63) = 8 then
          if y_K h13 v0_18 = 200 ∧ y_ix (v3_18 + 1) (y_N h13 v0_18) = true then
          if y_K h13 v0_18 = 200 ∧ y_ix (v3_18 + 2) (y_N h13 v0_18) = true then
          if y_K h13 v1_18 = 12 then
          y_cl (f_X11_rail v1_18 (y_I h13 v0_18 (Int32.toNatClampNeg (v3_18 + 1))) (y_I h13 v0_18 (Int32.toNatClampNeg (v3_18 + 2))) h13) (fun r140 h141 =>
          if y_K h141 v0_18 = 200 ∧ y_ix (v3_18 + 1) (y_N h141 v0_18) = true then
          if y_K h141 v0_18 = 200 ∧ y_ix (v3_18 + 2) (y_N h141 v0_18) = true then
          if y_K h141 v2_18 = 13 then
          y_cl (f_X12_rail v2_18 (y_I h141 v0_18 (Int32.toNatClampNeg (v3_18 + 1))) (y_I h141 v0_18 (Int32.toNatClampNeg (v3_18 + 2))) h141) (fun r143 h144 =>
          if r140 = r143 then
            j1753 v0_18 v1_18 v2_18 v3_18 c18 s18 h144
          else
            some ((false, c18, s18), h144))
          else none
          else none
          else none)
          else none
          else none
          else none
        else
        if ((y_I h13 v0_18 (Int32.toNatClampNeg v3_18)) &&& 63) = 9 then
          if y_K h13 v0_18 = 200 ∧ y_ix (v3_18 + 1) (y_N h13 v0_18) = true then
          if y_K h13 v0_18 = 200 ∧ y_ix (v3_18 + 2) (y_N h13 v0_18) = true then
          if y_K h13 v0_18 = 200 ∧ y_ix (v3_18 + 3) (y_N h13 v0_18) = true then
          if y_K h13 v1_18 = 12 then
          y_cl (f_X11_crane v1_18 (y_I h13 v0_18 (Int32.toNatClampNeg (v3_18 + 1))) (y_I h13 v0_18 (Int32.toNatClampNeg (v3_18 + 2))) (y_I h13 v0_18 (Int32.toNatClampNeg (v3_18 + 3))) c18 s18 h13) (fun r154 h155 =>
          if y_K h155 v0_18 = 200 ∧ y_ix (v3_18 + 1) (y_N h155 v0_18) = true then
          if y_K h155 v0_18 = 200 ∧ y_ix (v3_18 + 2) (y_N h155 v0_18) = true then
          if y_K h155 v0_18 = 200 ∧ y_ix (v3_18 + 3) (y_N h155 v0_18) = true then
          if y_K h155 v2_18 = 13 then
          y_cl (f_X12_crane v2_18 (y_I h155 v0_18 (Int32.toNatClampNeg (v3_18 + 1))) (y_I h155 v0_18 (Int32.toNatClampNeg (v3_18 + 2))) (y_I h155 v0_18 (Int32.toNatClampNeg (v3_18 + 3))) h155) (fun r157 h158 =>
          if r154.1 = r157 then
            j1753 v0_18 v1_18 v2_18 v3_18 r154.2.1 r154.2.2 h158
          else
            some ((false, r154.2.1, r154.2.2), h158))
          else none
          else none
          else none
          else none)
          else none
          else none
          else none
          else none
        else
        if ((y_I h13 v0_18 (Int32.toNatClampNeg v3_18)) &&& 63) = 10 then
          if y_K h13 v0_18 = 200 ∧ y_ix (v3_18 + 1) (y_N h13 v0_18) = true then
          if y_K h13 v1_18 = 12 then
          y_cl (f_X11_wind v1_18 (y_I h13 v0_18 (Int32.toNatClampNeg (v3_18 + 1))) h13) (fun r170 h171 =>
          if y_K h171 v0_18 = 200 ∧ y_ix (v3_18 + 1) (y_N h171 v0_18) = true then
          if y_K h171 v2_18 = 13 then
          y_cl (f_X12_wind v2_18 (y_I h171 v0_18 (Int32.toNatClampNeg (v3_18 + 1))) h171) (fun r173 h174 =>
          if r170 = r173 then
            j1753 v0_18 v1_18 v2_18 v3_18 c18 s18 h174
          else
            some ((false, c18, s18), h174))
          else none
          else none)
          else none
          else none
        else
        if ((y_I h13 v0_18 (Int32.toNatClampNeg v3_18)) &&& 63) = 11 then
          if y_K h13 v0_18 = 200 ∧ y_ix (v3_18 + 1) (y_N h13 v0_18) = true then
          if y_K h13 v0_18 = 200 ∧ y_ix (v3_18 + 2) (y_N h13 v0_18) = true then
          if y_K h13 v1_18 = 12 then
          y_cl (f_X11_engine v1_18 (y_I h13 v0_18 (Int32.toNatClampNeg (v3_18 + 1))) (y_I h13 v0_18 (Int32.toNatClampNeg (v3_18 + 2))) h13) (fun r182 h183 =>
          if y_K h183 v0_18 = 200 ∧ y_ix (v3_18 + 1) (y_N h183 v0_18) = true then
          if y_K h183 v0_18 = 200 ∧ y_ix (v3_18 + 2) (y_N h183 v0_18) = true then
          if y_K h183 v2_18 = 13 then
          y_cl (f_X12_engine v2_18 (y_I h183 v0_18 (Int32.toNatClampNeg (v3_18 + 1))) (y_I h183 v0_18 (Int32.toNatClampNeg (v3_18 + 2))) h183) (fun r185 h186 =>
          if r182 = r185 then
            j1753 v0_18 v1_18 v2_18 v3_18 c18 s18 h186
          else
            some ((false, c18, s18), h186))
          else none
          else none
          else none)
          else none
          else none
          else none
        else
        if ((y_I h13 v0_18 (Int32.toNatClampNeg v3_18)) &&& 63) = 12 then
          if y_K h13 v0_18 = 200 ∧ y_ix (v3_18 + 1) (y_N h13 v0_18) = true then
          if y_K h13 v0_18 = 200 ∧ y_ix (v3_18 + 2) (y_N h13 v0_18) = true then
          if y_K h13 v1_18 = 12 then
          y_cl (f_X11_look v1_18 (y_I h13 v0_18 (Int32.toNatClampNeg (v3_18 + 1))) (y_I h13 v0_18 (Int32.toNatClampNeg (v3_18 + 2))) h13) (fun r196 h197 =>
          if y_K h197 v0_18 = 200 ∧ y_ix (v3_18 + 1) (y_N h197 v0_18) = true then
          if y_K h197 v0_18 = 200 ∧ y_ix (v3_18 + 2) (y_N h197 v0_18) = true then
          if y_K h197 v2_18 = 13 then
          y_cl (f_X12_look v2_18 (y_I h197 v0_18 (Int32.toNatClampNeg (v3_18 + 1))) (y_I h197 v0_18 (Int32.toNatClampNeg (v3_18 + 2))) h197) (fun r199 h200 =>
          if r196 = r199 then
            j1753 v0_18 v1_18 v2_18 v3_18 c18 s18 h200
          else
            some ((false, c18, s18), h200))
          else none
          else none
          else none)
          else none
          else none
          else none
        else
        if ((y_I h13 v0_18 (Int32.toNatClampNeg v3_18)) &&& 63) = 13 then
          if y_K h13 v0_18 = 200 ∧ y_ix (v3_18 + 1) (y_N h13 v0_18) = true then
          if y_K h13 v0_18 = 200 ∧ y_ix (v3_18 + 2) (y_N h13 v0_18) = true then
          if y_K h13 v1_18 = 12 then
          y_cl (f_X11_may v1_18 (y_I h13 v0_18 (Int32.toNatClampNeg (v3_18 + 1))) (y_I h13 v0_18 (Int32.toNatClampNeg (v3_18 + 2))) h13) (fun r210 h211 =>
          if y_K h211 v0_18 = 200 ∧ y_ix (v3_18 + 1) (y_N h211 v0_18) = true then
          if y_K h211 v0_18 = 200 ∧ y_ix (v3_18 + 2) (y_N h211 v0_18) = true then
          if y_K h211 v2_18 = 13 then
          y_cl (f_X12_may v2_18 (y_I h211 v0_18 (Int32.toNatClampNeg (v3_18 + 1))) (y_I h211 v0_18 (Int32.toNatClampNeg (v3_18 + 2))) h211) (fun r213 h214 =>
          if r210 = r213 then
            j1753 v0_18 v1_18 v2_18 v3_18 c18 s18 h214
          else
            some ((false, c18, s18), h214))
          else none
          else none
          else none)
          else none
          else none
          else none
        else
        if ((y_I h13 v0_18 (Int32.toNatClampNeg v3_18)) &&& 63) = 14 then
          if y_K h13 v0_18 = 200 ∧ y_ix (v3_18 + 1) (y_N h13 v0_18) = true then
          if y_K h13 v0_18 = 200 ∧ y_ix (v3_18 + 2) (y_N h13 v0_18) = true then
          if y_K h13 v1_18 = 12 then
          y_cl (f_X11_go v1_18 (y_I h13 v0_18 (Int32.toNatClampNeg (v3_18 + 1))) (y_I h13 v0_18 (Int32.toNatClampNeg (v3_18 + 2))) c18 s18 h13) (fun r224 h225 =>
          if y_K h225 v0_18 = 200 ∧ y_ix (v3_18 + 1) (y_N h225 v0_18) = true then
          if y_K h225 v0_18 = 200 ∧ y_ix (v3_18 + 2) (y_N h225 v0_18) = true then
          if y_K h225 v2_18 = 13 then
          y_cl (f_X12_go v2_18 (y_I h225 v0_18 (Int32.toNatClampNeg (v3_18 + 1))) (y_I h225 v0_18 (Int32.toNatClampNeg (v3_18 + 2))) h225) (fun r227 h228 =>
          if r224.1 = r227 then
            j1753 v0_18 v1_18 v2_18 v3_18 r224.2.1 r224.2.2 h228
          else
            some ((false, r224.2.1, r224.2.2), h228))
          else none
          else none
          else none)
          else none
          else none
          else none
        else
        if ((y_I h13 v0_18 (Int32.toNatClampNeg v3_18)) &&& 63) = 15 then
          if y_K h13 v0_18 = 200 ∧ y_ix (v3_18 + 1) (y_N h13 v0_18) = true then
          if y_K h13 v0_18 = 200 ∧ y_ix (v3_18 + 2) (y_N h13 v0_18) = true then
          if y_K h13 v1_18 = 12 then
          y_cl (f_X11_take v1_18 (y_I h13 v0_18 (Int32.toNatClampNeg (v3_18 + 1))) (y_I h13 v0_18 (Int32.toNatClampNeg (v3_18 + 2))) c18 s18 h13) (fun r238 h239 =>
          if y_K h239 v0_18 = 200 ∧ y_ix (v3_18 + 1) (y_N h239 v0_18) = true then
          if y_K h239 v0_18 = 200 ∧ y_ix (v3_18 + 2) (y_N h239 v0_18) = true then
          if y_K h239 v2_18 = 13 then
          y_cl (f_X12_take v2_18 (y_I h239 v0_18 (Int32.toNatClampNeg (v3_18 + 1))) (y_I h239 v0_18 (Int32.toNatClampNeg (v3_18 + 2))) h239) (fun r241 h242 =>
          if r238.1 = r241 then
            j1753 v0_18 v1_18 v2_18 v3_18 r238.2.1 r238.2.2 h242
          else
            some ((false, r238.2.1, r238.2.2), h242))
          else none
          else none
          else none)
          else none
          else none
          else none
        else
        if ((y_I h13 v0_18 (Int32.toNatClampNeg v3_18)) &&& 63) = 16 then
          if y_K h13 v0_18 = 200 ∧ y_ix (v3_18 + 1) (y_N h13 v0_18) = true then
          if y_K h13 v0_18 = 200 ∧ y_ix (v3_18 + 2) (y_N h13 v0_18) = true then
          if y_K h13 v1_18 = 12 then
          y_cl (f_X11_lift v1_18 (y_I h13 v0_18 (Int32.toNatClampNeg (v3_18 + 1))) (y_I h13 v0_18 (Int32.toNatClampNeg (v3_18 + 2))) c18 s18 h13) (fun r252 h253 =>
          if y_K h253 v0_18 = 200 ∧ y_ix (v3_18 + 1) (y_N h253 v0_18) = true then
          if y_K h253 v0_18 = 200 ∧ y_ix (v3_18 + 2) (y_N h253 v0_18) = true then
          if y_K h253 v2_18 = 13 then
          y_cl (f_X12_lift v2_18 (y_I h253 v0_18 (Int32.toNatClampNeg (v3_18 + 1))) (y_I h253 v0_18 (Int32.toNatClampNeg (v3_18 + 2))) h253) (fun r255 h256 =>
          if r252.1 = r255 then
            j1753 v0_18 v1_18 v2_18 v3_18 r252.2.1 r252.2.2 h256
          else
            some ((false, r252.2.1, r252.2.2), h256))
          else none
          else none
          else none)
          else none
          else none
          else none
        else
        if ((y_I h13 v0_18 (Int32.toNatClampNeg v3_18)) &&& 63) = 17 then
          if y_K h13 v0_18 = 200 ∧ y_ix (v3_18 + 1) (y_N h13 v0_18) = true then
          if y_K h13 v0_18 = 200 ∧ y_ix (v3_18 + 2) (y_N h13 v0_18) = true then
          if y_K h13 v1_18 = 12 then
          y_cl (f_X11_set v1_18 (y_I h13 v0_18 (Int32.toNatClampNeg (v3_18 + 1))) (y_I h13 v0_18 (Int32.toNatClampNeg (v3_18 + 2))) c18 s18 h13) (fun r266 h267 =>
          if y_K h267 v0_18 = 200 ∧ y_ix (v3_18 + 1) (y_N h267 v0_18) = true then
          if y_K h267 v0_18 = 200 ∧ y_ix (v3_18 + 2) (y_N h267 v0_18) = true then
          if y_K h267 v2_18 = 13 then
          y_cl (f_X12_set v2_18 (y_I h267 v0_18 (Int32.toNatClampNeg (v3_18 + 1))) (y_I h267 v0_18 (Int32.toNatClampNeg (v3_18 + 2))) h267) (fun r269 h270 =>
          if r266.1 = r269 then
            j1753 v0_18 v1_18 v2_18 v3_18 r266.2.1 r266.2.2 h270
          else
            some ((false, r266.2.1, r266.2.2), h270))
          else none
          else none
          else none)
          else none
          else none
          else none
        else
        if ((y_I h13 v0_18 (Int32.toNatClampNeg v3_18)) &&& 63) = 18 then
          if y_K h13 v0_18 = 200 ∧ y_ix (v3_18 + 1) (y_N h13 v0_18) = true then
          if y_K h13 v1_18 = 12 then
          y_cl (f_X11_drop v1_18 (y_I h13 v0_18 (Int32.toNatClampNeg (v3_18 + 1))) c18 s18 h13) (fun r280 h281 =>
          if y_K h281 v0_18 = 200 ∧ y_ix (v3_18 + 1) (y_N h281 v0_18) = true then
          if y_K h281 v2_18 = 13 then
          y_cl (f_X12_drop v2_18 (y_I h281 v0_18 (Int32.toNatClampNeg (v3_18 + 1))) h281) (fun r283 h284 =>
          if r280.1 = r283 then
            j1753 v0_18 v1_18 v2_18 v3_18 r280.2.1 r280.2.2 h284
          else
            some ((false, r280.2.1, r280.2.2), h284))
          else none
          else none)
          else none
          else none
        else
        if ((y_I h13 v0_18 (Int32.toNatClampNeg v3_18)) &&& 63) = 19 then
          if y_K h13 v0_18 = 200 ∧ y_ix (v3_18 + 1) (y_N h13 v0_18) = true then
          if y_K h13 v1_18 = 12 then
          y_cl (f_X11_load v1_18 (y_I h13 v0_18 (Int32.toNatClampNeg (v3_18 + 1))) c18 s18 h13) (fun r292 h293 =>
          if y_K h293 v0_18 = 200 ∧ y_ix (v3_18 + 1) (y_N h293 v0_18) = true then
          if y_K h293 v2_18 = 13 then
          y_cl (f_X12_load v2_18 (y_I h293 v0_18 (Int32.toNatClampNeg (v3_18 + 1))) h293) (fun r295 h296 =>
          if r292.1 = r295 then
            j1753 v0_18 v1_18 v2_18 v3_18 r292.2.1 r292.2.2 h296
          else
            some ((false, r292.2.1, r292.2.2), h296))
          else none
          else none)
          else none
          else none
        else
        if ((y_I h13 v0_18 (Int32.toNatClampNeg v3_18)) &&& 63) = 20 then
          if y_K h13 v0_18 = 200 ∧ y_ix (v3_18 + 1) (y_N h13 v0_18) = true then
          if y_K h13 v0_18 = 200 ∧ y_ix (v3_18 + 2) (y_N h13 v0_18) = true then
          if y_K h13 v0_18 = 200 ∧ y_ix (v3_18 + 3) (y_N h13 v0_18) = true then
          if y_K h13 v0_18 = 200 ∧ y_ix (v3_18 + 4) (y_N h13 v0_18) = true then
          if y_K h13 v1_18 = 12 then
          y_cl (f_X11_fetch v1_18 (y_I h13 v0_18 (Int32.toNatClampNeg (v3_18 + 1))) (y_I h13 v0_18 (Int32.toNatClampNeg (v3_18 + 2))) (y_I h13 v0_18 (Int32.toNatClampNeg (v3_18 + 3))) (y_I h13 v0_18 (Int32.toNatClampNeg (v3_18 + 4))) c18 s18 h13) (fun r304 h305 =>
          if y_K h305 v0_18 = 200 ∧ y_ix (v3_18 + 1) (y_N h305 v0_18) = true then
          if y_K h305 v0_18 = 200 ∧ y_ix (v3_18 + 2) (y_N h305 v0_18) = true then
          if y_K h305 v0_18 = 200 ∧ y_ix (v3_18 + 3) (y_N h305 v0_18) = true then
          if y_K h305 v0_18 = 200 ∧ y_ix (v3_18 + 4) (y_N h305 v0_18) = true then
          if y_K h305 v2_18 = 13 then
          y_cl (f_X12_fetch v2_18 (y_I h305 v0_18 (Int32.toNatClampNeg (v3_18 + 1))) (y_I h305 v0_18 (Int32.toNatClampNeg (v3_18 + 2))) (y_I h305 v0_18 (Int32.toNatClampNeg (v3_18 + 3))) (y_I h305 v0_18 (Int32.toNatClampNeg (v3_18 + 4))) h305) (fun r307 h308 =>
          if r304.1 = r307 then
            j1753 v0_18 v1_18 v2_18 v3_18 r304.2.1 r304.2.2 h308
          else
            some ((false, r304.2.1, r304.2.2), h308))
          else none
          else none
          else none
          else none
          else none)
          else none
          else none
          else none
          else none
          else none
        else
        if ((y_I h13 v0_18 (Int32.toNatClampNeg v3_18)) &&& 63) = 21 then
          if y_K h13 v0_18 = 200 ∧ y_ix (v3_18 + 1) (y_N h13 v0_18) = true then
          if y_K h13 v1_18 = 12 then
          y_cl (f_X11_serve v1_18 (y_I h13 v0_18 (Int32.toNatClampNeg (v3_18 + 1))) c18 s18 h13) (fun r322 h323 =>
          if y_K h323 v0_18 = 200 ∧ y_ix (v3_18 + 1) (y_N h323 v0_18) = true then
          if y_K h323 v2_18 = 13 then
          y_cl (f_X12_serve v2_18 (y_I h323 v0_18 (Int32.toNatClampNeg (v3_18 + 1))) h323) (fun r325 h326 =>
          if r322.1 = r325 then
            j1753 v0_18 v1_18 v2_18 v3_18 r322.2.1 r322.2.2 h326
          else
            some ((false, r322.2.1, r322.2.2), h326))
          else none
          else none)
          else none
          else none
        else
        if ((y_I h13 v0_18 (Int32.toNatClampNeg v3_18)) &&& 63) = 22 then
          if y_K h13 v0_18 = 200 ∧ y_ix (v3_18 + 1) (y_N h13 v0_18) = true then
          if y_K h13 v0_18 = 200 ∧ y_ix (v3_18 + 2) (y_N h13 v0_18) = true then
          if y_K h13 v0_18 = 200 ∧ y_ix (v3_18 + 3) (y_N h13 v0_18) = true then
          if y_K h13 v0_18 = 200 ∧ y_ix (v3_18 + 4) (y_N h13 v0_18) = true then
          if y_K h13 v1_18 = 12 then
          y_cl (f_X11_ship v1_18 (y_I h13 v0_18 (Int32.toNatClampNeg (v3_18 + 1))) (y_I h13 v0_18 (Int32.toNatClampNeg (v3_18 + 2))) (y_I h13 v0_18 (Int32.toNatClampNeg (v3_18 + 3))) (y_I h13 v0_18 (Int32.toNatClampNeg (v3_18 + 4))) c18 s18 h13) (fun r334 h335 =>
          if y_K h335 v0_18 = 200 ∧ y_ix (v3_18 + 1) (y_N h335 v0_18) = true then
          if y_K h335 v0_18 = 200 ∧ y_ix (v3_18 + 2) (y_N h335 v0_18) = true then
          if y_K h335 v0_18 = 200 ∧ y_ix (v3_18 + 3) (y_N h335 v0_18) = true then
          if y_K h335 v0_18 = 200 ∧ y_ix (v3_18 + 4) (y_N h335 v0_18) = true then
          if y_K h335 v2_18 = 13 then
          y_cl (f_X12_ship v2_18 (y_I h335 v0_18 (Int32.toNatClampNeg (v3_18 + 1))) (y_I h335 v0_18 (Int32.toNatClampNeg (v3_18 + 2))) (y_I h335 v0_18 (Int32.toNatClampNeg (v3_18 + 3))) (y_I h335 v0_18 (Int32.toNatClampNeg (v3_18 + 4))) h335) (fun r337 h338 =>
          if r334.1 = r337 then
            j1753 v0_18 v1_18 v2_18 v3_18 r334.2.1 r334.2.2 h338
          else
            some ((false, r334.2.1, r334.2.2), h338))
          else none
          else none
          else none
          else none
          else none)
          else none
          else none
          else none
          else none
          else none
        else
        if ((y_I h13 v0_18 (Int32.toNatClampNeg v3_18)) &&& 63) = 23 then
          if y_K h13 v0_18 = 200 ∧ y_ix (v3_18 + 1) (y_N h13 v0_18) = true then
          if y_K h13 v0_18 = 200 ∧ y_ix (v3_18 + 2) (y_N h13 v0_18) = true then
          if y_K h13 v0_18 = 200 ∧ y_ix (v3_18 + 3) (y_N h13 v0_18) = true then
          if y_K h13 v1_18 = 12 then
          y_cl (f_X11_limit v1_18 (y_I h13 v0_18 (Int32.toNatClampNeg (v3_18 + 1))) (y_I h13 v0_18 (Int32.toNatClampNeg (v3_18 + 2))) (y_I h13 v0_18 (Int32.toNatClampNeg (v3_18 + 3))) h13) (fun r352 h353 =>
          if y_K h353 v0_18 = 200 ∧ y_ix (v3_18 + 1) (y_N h353 v0_18) = true then
          if y_K h353 v0_18 = 200 ∧ y_ix (v3_18 + 2) (y_N h353 v0_18) = true then
          if y_K h353 v0_18 = 200 ∧ y_ix (v3_18 + 3) (y_N h353 v0_18) = true then
          if y_K h353 v2_18 = 13 then
          y_cl (f_X12_limit v2_18 (y_I h353 v0_18 (Int32.toNatClampNeg (v3_18 + 1))) (y_I h353 v0_18 (Int32.toNatClampNeg (v3_18 + 2))) (y_I h353 v0_18 (Int32.toNatClampNeg (v3_18 + 3))) h353) (fun r355 h356 =>
          if r352 = r355 then
            j1753 v0_18 v1_18 v2_18 v3_18 c18 s18 h356
          else
            some ((false, c18, s18), h356))
          else none
          else none
          else none
          else none)
          else none
          else none
          else none
          else none
        else
        if ((y_I h13 v0_18 (Int32.toNatClampNeg v3_18)) &&& 63) = 24 then
          if y_K h13 v0_18 = 200 ∧ y_ix (v3_18 + 1) (y_N h13 v0_18) = true then
          if y_K h13 v0_18 = 200 ∧ y_ix (v3_18 + 2) (y_N h13 v0_18) = true then
          if y_K h13 v1_18 = 12 then
          y_cl (f_X11_route v1_18 (y_I h13 v0_18 (Int32.toNatClampNeg (v3_18 + 1))) (y_I h13 v0_18 (Int32.toNatClampNeg (v3_18 + 2))) h13) (fun r368 h369 =>
          if y_K h369 v0_18 = 200 ∧ y_ix (v3_18 + 1) (y_N h369 v0_18) = true then
          if y_K h369 v0_18 = 200 ∧ y_ix (v3_18 + 2) (y_N h369 v0_18) = true then
          if y_K h369 v2_18 = 13 then
          y_cl (f_X12_route v2_18 (y_I h369 v0_18 (Int32.toNatClampNeg (v3_18 + 1))) (y_I h369 v0_18 (Int32.toNatClampNeg (v3_18 + 2))) h369) (fun r371 h372 =>
          if r368 = r371 then
            j1753 v0_18 v1_18 v2_18 v3_18 c18 s18 h372
          else
            some ((false, c18, s18), h372))
          else none
          else none
          else none)
          else none
          else none
          else none
        else
        if ((y_I h13 v0_18 (Int32.toNatClampNeg v3_18)) &&& 63) = 25 then
          if y_K h13 v0_18 = 200 ∧ y_ix (v3_18 + 1) (y_N h13 v0_18) = true then
          if y_K h13 v0_18 = 200 ∧ y_ix (v3_18 + 2) (y_N h13 v0_18) = true then
          if y_K h13 v0_18 = 200 ∧ y_ix (v3_18 + 3) (y_N h13 v0_18) = true then
          if y_K h13 v0_18 = 200 ∧ y_ix (v3_18 + 4) (y_N h13 v0_18) = true then
          if y_K h13 v0_18 = 200 ∧ y_ix (v3_18 + 5) (y_N h13 v0_18) = true then
          if y_K h13 v1_18 = 12 then
          y_cl (f_X11_plan v1_18 (y_I h13 v0_18 (Int32.toNatClampNeg (v3_18 + 1))) (y_I h13 v0_18 (Int32.toNatClampNeg (v3_18 + 2))) (y_I h13 v0_18 (Int32.toNatClampNeg (v3_18 + 3))) (y_I h13 v0_18 (Int32.toNatClampNeg (v3_18 + 4))) (y_I h13 v0_18 (Int32.toNatClampNeg (v3_18 + 5))) h13) (fun r382 h383 =>
          if y_K h383 v0_18 = 200 ∧ y_ix (v3_18 + 1) (y_N h383 v0_18) = true then
          if y_K h383 v0_18 = 200 ∧ y_ix (v3_18 + 2) (y_N h383 v0_18) = true then
          if y_K h383 v0_18 = 200 ∧ y_ix (v3_18 + 3) (y_N h383 v0_18) = true then
          if y_K h383 v0_18 = 200 ∧ y_ix (v3_18 + 4) (y_N h383 v0_18) = true then
          if y_K h383 v0_18 = 200 ∧ y_ix (v3_18 + 5) (y_N h383 v0_18) = true then
          if y_K h383 v2_18 = 13 then
          y_cl (f_X12_plan v2_18 (y_I h383 v0_18 (Int32.toNatClampNeg (v3_18 + 1))) (y_I h383 v0_18 (Int32.toNatClampNeg (v3_18 + 2))) (y_I h383 v0_18 (Int32.toNatClampNeg (v3_18 + 3))) (y_I h383 v0_18 (Int32.toNatClampNeg (v3_18 + 4))) (y_I h383 v0_18 (Int32.toNatClampNeg (v3_18 + 5))) h383) (fun r385 h386 =>
          if r382 = r385 then
            j1753 v0_18 v1_18 v2_18 v3_18 c18 s18 h386
          else
            some ((false, c18, s18), h386))
          else none
          else none
          else none
          else none
          else none
          else none)
          else none
          else none
          else none
          else none
          else none
          else none
        else
        if ((y_I h13 v0_18 (Int32.toNatClampNeg v3_18)) &&& 63) = 26 then
          if y_K h13 v0_18 = 200 ∧ y_ix (v3_18 + 1) (y_N h13 v0_18) = true then
          if y_K h13 v0_18 = 200 ∧ y_ix (v3_18 + 2) (y_N h13 v0_18) = true then
          if y_K h13 v1_18 = 12 then
          y_cl (f_X11_sum v1_18 (y_I h13 v0_18 (Int32.toNatClampNeg (v3_18 + 1))) (y_I h13 v0_18 (Int32.toNatClampNeg (v3_18 + 2))) h13) (fun r402 h403 =>
          if y_K h403 v0_18 = 200 ∧ y_ix (v3_18 + 1) (y_N h403 v0_18) = true then
          if y_K h403 v0_18 = 200 ∧ y_ix (v3_18 + 2) (y_N h403 v0_18) = true then
          if y_K h403 v2_18 = 13 then
          y_cl (f_X12_sum v2_18 (y_I h403 v0_18 (Int32.toNatClampNeg (v3_18 + 1))) (y_I h403 v0_18 (Int32.toNatClampNeg (v3_18 + 2))) h403) (fun r405 h406 =>
          if r402 = r405 then
            j1753 v0_18 v1_18 v2_18 v3_18 c18 s18 h406
          else
            some ((false, c18, s18), h406))
          else none
          else none
          else none)
          else none
          else none
          else none
        else
        if ((y_I h13 v0_18 (Int32.toNatClampNeg v3_18)) &&& 63) = 27 then
          if y_K h13 v0_18 = 200 ∧ y_ix (v3_18 + 1) (y_N h13 v0_18) = true then
          if y_K h13 v1_18 = 12 then
          y_cl (f_X11_mean v1_18 (y_I h13 v0_18 (Int32.toNatClampNeg (v3_18 + 1))) h13) (fun r416 h417 =>
          if y_K h417 v0_18 = 200 ∧ y_ix (v3_18 + 1) (y_N h417 v0_18) = true then
          if y_K h417 v2_18 = 13 then
          y_cl (f_X12_mean v2_18 (y_I h417 v0_18 (Int32.toNatClampNeg (v3_18 + 1))) h417) (fun r419 h420 =>
          if r416 = r419 then
            j1753 v0_18 v1_18 v2_18 v3_18 c18 s18 h420
          else
            some ((false, c18, s18), h420))
          else none
          else none)
          else none
          else none
        else
        if ((y_I h13 v0_18 (Int32.toNatClampNeg v3_18)) &&& 63) = 28 then
          if y_K h13 v0_18 = 200 ∧ y_ix (v3_18 + 1) (y_N h13 v0_18) = true then
          if y_K h13 v1_18 = 12 then
          y_cl (f_X11_stable v1_18 (y_I h13 v0_18 (Int32.toNatClampNeg (v3_18 + 1))) h13) (fun r428 h429 =>
          if y_K h429 v0_18 = 200 ∧ y_ix (v3_18 + 1) (y_N h429 v0_18) = true then
          if y_K h429 v2_18 = 13 then
          y_cl (f_X12_stable v2_18 (y_I h429 v0_18 (Int32.toNatClampNeg (v3_18 + 1))) h429) (fun r431 h432 =>
          if r428 = r431 then
            j1753 v0_18 v1_18 v2_18 v3_18 c18 s18 h432
          else
            some ((false, c18, s18), h432))
          else none
          else none)
          else none
          else none
        else
        if ((y_I h13 v0_18 (Int32.toNatClampNeg v3_18)) &&& 63) = 29 then
          if y_K h13 v0_18 = 200 ∧ y_ix (v3_18 + 1) (y_N h13 v0_18) = true then
          if y_K h13 v1_18 = 12 then
          y_cl (f_X11_broke v1_18 (y_I h13 v0_18 (Int32.toNatClampNeg (v3_18 + 1))) h13) (fun r440 h441 =>
          if y_K h441 v0_18 = 200 ∧ y_ix (v3_18 + 1) (y_N h441 v0_18) = true then
          if y_K h441 v2_18 = 13 then
          y_cl (f_X12_broke v2_18 (y_I h441 v0_18 (Int32.toNatClampNeg (v3_18 + 1))) h441) (fun r443 h444 =>
          if r440 = r443 then
            j1753 v0_18 v1_18 v2_18 v3_18 c18 s18 h444
          else
            some ((false, c18, s18), h444))
          else none
          else none)
          else none
          else none
        else
        if ((y_I h13 v0_18 (Int32.toNatClampNeg v3_18)) &&& 63) = 30 then
          if y_K h13 v0_18 = 200 ∧ y_ix (v3_18 + 1) (y_N h13 v0_18) = true then
          if y_K h13 v1_18 = 12 then
          y_cl (f_X11_want v1_18 (y_I h13 v0_18 (Int32.toNatClampNeg (v3_18 + 1))) h13) (fun r452 h453 =>
          if y_K h453 v0_18 = 200 ∧ y_ix (v3_18 + 1) (y_N h453 v0_18) = true then
          if y_K h453 v2_18 = 13 then
          y_cl (f_X12_want v2_18 (y_I h453 v0_18 (Int32.toNatClampNeg (v3_18 + 1))) h453) (fun r455 h456 =>
          if r452 = r455 then
            j1753 v0_18 v1_18 v2_18 v3_18 c18 s18 h456
          else
            some ((false, c18, s18), h456))
          else none
          else none)
          else none
          else none
        else
        if ((y_I h13 v0_18 (Int32.toNatClampNeg v3_18)) &&& 63) = 31 then
          if y_K h13 v1_18 = 12 then
          y_cl (f_X11_forget v1_18 h13) (fun r464 h465 =>
          if y_K h465 v2_18 = 13 then
          y_cl (f_X12_forget v2_18 h465) (fun r467 h468 =>
          if r464 = r467 then
            j1753 v0_18 v1_18 v2_18 v3_18 c18 s18 h468
          else
            some ((false, c18, s18), h468))
          else none)
          else none
        else
        if ((y_I h13 v0_18 (Int32.toNatClampNeg v3_18)) &&& 63) = 32 then
          if y_K h13 v0_18 = 200 ∧ y_ix (v3_18 + 1) (y_N h13 v0_18) = true then
          if y_K h13 v1_18 = 12 then
          y_cl (f_X11_least v1_18 (y_I h13 v0_18 (Int32.toNatClampNeg (v3_18 + 1))) c18 s18 h13) (fun r474 h475 =>
          if y_K h475 v0_18 = 200 ∧ y_ix (v3_18 + 1) (y_N h475 v0_18) = true then
          if y_K h475 v2_18 = 13 then
          y_cl (f_X12_least v2_18 (y_I h475 v0_18 (Int32.toNatClampNeg (v3_18 + 1))) h475) (fun r477 h478 =>
          if r474.1 = r477 then
            j1753 v0_18 v1_18 v2_18 v3_18 r474.2.1 r474.2.2 h478
          else
            some ((false, r474.2.1, r474.2.2), h478))
          else none
          else none)
          else none
          else none
        else
        if ((y_I h13 v0_18 (Int32.toNatClampNeg v3_18)) &&& 63) = 33 then
          if y_K h13 v0_18 = 200 ∧ y_ix (v3_18 + 1) (y_N h13 v0_18) = true then
          if y_K h13 v0_18 = 200 ∧ y_ix (v3_18 + 2) (y_N h13 v0_18) = true then
          if y_K h13 v1_18 = 12 then
          y_cl (f_X11_row v1_18 (y_I h13 v0_18 (Int32.toNatClampNeg (v3_18 + 1))) (y_I h13 v0_18 (Int32.toNatClampNeg (v3_18 + 2))) h13) (fun r486 h487 =>
          if y_K h487 v0_18 = 200 ∧ y_ix (v3_18 + 1) (y_N h487 v0_18) = true then
          if y_K h487 v0_18 = 200 ∧ y_ix (v3_18 + 2) (y_N h487 v0_18) = true then
          if y_K h487 v2_18 = 13 then
          y_cl (f_X12_row v2_18 (y_I h487 v0_18 (Int32.toNatClampNeg (v3_18 + 1))) (y_I h487 v0_18 (Int32.toNatClampNeg (v3_18 + 2))) h487) (fun r489 h490 =>
          if r486 = r489 then
            j1753 v0_18 v1_18 v2_18 v3_18 c18 s18 h490
          else
            some ((false, c18, s18), h490))
          else none
          else none
          else none)
          else none
          else none
          else none
        else
        if ((y_I h13 v0_18 (Int32.toNatClampNeg v3_18)) &&& 63) = 34 then
          if y_K h13 v0_18 = 200 ∧ y_ix (v3_18 + 1) (y_N h13 v0_18) = true then
          if y_K h13 v0_18 = 200 ∧ y_ix (v3_18 + 2) (y_N h13 v0_18) = true then
          if y_K h13 v0_18 = 200 ∧ y_ix (v3_18 + 3) (y_N h13 v0_18) = true then
          if y_K h13 v1_18 = 12 then
          y_cl (f_X11_alter v1_18 (y_I h13 v0_18 (Int32.toNatClampNeg (v3_18 + 1))) (y_I h13 v0_18 (Int32.toNatClampNeg (v3_18 + 2))) (y_I h13 v0_18 (Int32.toNatClampNeg (v3_18 + 3))) h13) (fun r500 h501 =>
          if y_K h501 v0_18 = 200 ∧ y_ix (v3_18 + 1) (y_N h501 v0_18) = true then
          if y_K h501 v0_18 = 200 ∧ y_ix (v3_18 + 2) (y_N h501 v0_18) = true then
          if y_K h501 v0_18 = 200 ∧ y_ix (v3_18 + 3) (y_N h501 v0_18) = true then
          if y_K h501 v2_18 = 13 then
          y_cl (f_X12_alter v2_18 (y_I h501 v0_18 (Int32.toNatClampNeg (v3_18 + 1))) (y_I h501 v0_18 (Int32.toNatClampNeg (v3_18 + 2))) (y_I h501 v0_18 (Int32.toNatClampNeg (v3_18 + 3))) h501) (fun r503 h504 =>
          if r500 = r503 then
            j1753 v0_18 v1_18 v2_18 v3_18 c18 s18 h504
          else
            some ((false, c18, s18), h504))
          else none
          else none
          else none
          else none)
          else none
          else none
          else none
          else none
        else
        if ((y_I h13 v0_18 (Int32.toNatClampNeg v3_18)) &&& 63) = 35 then
          if y_K h13 v1_18 = 12 then
          y_cl (f_X11_holds v1_18 h13) (fun r516 h517 =>
          if y_K h517 v2_18 = 13 then
          y_cl (f_X12_holds v2_18 h517) (fun r519 h520 =>
          if r516 = r519 then
            j1753 v0_18 v1_18 v2_18 v3_18 c18 s18 h520
          else
            some ((false, c18, s18), h520))
          else none)
          else none
        else
        if ((y_I h13 v0_18 (Int32.toNatClampNeg v3_18)) &&& 63) = 36 then
          if y_K h13 v1_18 = 12 then
          y_cl (f_X11_task v1_18 h13) (fun r526 h527 =>
          if y_K h527 v2_18 = 13 then
          y_cl (f_X12_task v2_18 h527) (fun r529 h530 =>
          if r526 = r529 then
            j1753 v0_18 v1_18 v2_18 v3_18 c18 s18 h530
          else
            some ((false, c18, s18), h530))
          else none)
          else none
        else
        if ((y_I h13 v0_18 (Int32.toNatClampNeg v3_18)) &&& 63) = 37 then
          if y_K h13 v0_18 = 200 ∧ y_ix (v3_18 + 1) (y_N h13 v0_18) = true then
          if y_K h13 v0_18 = 200 ∧ y_ix (v3_18 + 2) (y_N h13 v0_18) = true then
          if y_K h13 v0_18 = 200 ∧ y_ix (v3_18 + 3) (y_N h13 v0_18) = true then
          if y_K h13 v0_18 = 200 ∧ y_ix (v3_18 + 4) (y_N h13 v0_18) = true then
          if y_K h13 v1_18 = 12 then
          y_cl (f_X11_op v1_18 (y_I h13 v0_18 (Int32.toNatClampNeg (v3_18 + 1))) (y_I h13 v0_18 (Int32.toNatClampNeg (v3_18 + 2))) (y_I h13 v0_18 (Int32.toNatClampNeg (v3_18 + 3))) (y_I h13 v0_18 (Int32.toNatClampNeg (v3_18 + 4))) h13) (fun r536 h537 =>
          if y_K h537 v0_18 = 200 ∧ y_ix (v3_18 + 1) (y_N h537 v0_18) = true then
          if y_K h537 v0_18 = 200 ∧ y_ix (v3_18 + 2) (y_N h537 v0_18) = true then
          if y_K h537 v0_18 = 200 ∧ y_ix (v3_18 + 3) (y_N h537 v0_18) = true then
          if y_K h537 v0_18 = 200 ∧ y_ix (v3_18 + 4) (y_N h537 v0_18) = true then
          if y_K h537 v2_18 = 13 then
          y_cl (f_X12_op v2_18 (y_I h537 v0_18 (Int32.toNatClampNeg (v3_18 + 1))) (y_I h537 v0_18 (Int32.toNatClampNeg (v3_18 + 2))) (y_I h537 v0_18 (Int32.toNatClampNeg (v3_18 + 3))) (y_I h537 v0_18 (Int32.toNatClampNeg (v3_18 + 4))) h537) (fun r539 h540 =>
          if r536 = r539 then
            j1753 v0_18 v1_18 v2_18 v3_18 c18 s18 h540
          else
            some ((false, c18, s18), h540))
          else none
          else none
          else none
          else none
          else none)
          else none
          else none
          else none
          else none
          else none
        else
        if ((y_I h13 v0_18 (Int32.toNatClampNeg v3_18)) &&& 63) = 38 then
          if y_K h13 v0_18 = 200 ∧ y_ix (v3_18 + 1) (y_N h13 v0_18) = true then
          if y_K h13 v1_18 = 12 then
          y_cl (f_X11_run v1_18 (y_I h13 v0_18 (Int32.toNatClampNeg (v3_18 + 1))) c18 s18 h13) (fun r554 h555 =>
          if y_K h555 v0_18 = 200 ∧ y_ix (v3_18 + 1) (y_N h555 v0_18) = true then
          if y_K h555 v2_18 = 13 then
          y_cl (f_X12_run v2_18 (y_I h555 v0_18 (Int32.toNatClampNeg (v3_18 + 1))) h555) (fun r557 h558 =>
          if r554.1 = r557 then
            j1753 v0_18 v1_18 v2_18 v3_18 r554.2.1 r554.2.2 h558
          else
            some ((false, r554.2.1, r554.2.2), h558))
          else none
          else none)
          else none
          else none
        else
        if ((y_I h13 v0_18 (Int32.toNatClampNeg v3_18)) &&& 63) = 39 then
          if y_K h13 v1_18 = 12 then
          y_cl (f_X11_number v1_18 h13) (fun r566 h567 =>
          if y_K h567 v2_18 = 13 then
          y_cl (f_X12_number v2_18 h567) (fun r569 h570 =>
          if (lg_cmp r566 r569) = 0 then
            j1753 v0_18 v1_18 v2_18 v3_18 c18 s18 h570
          else
            some ((false, c18, s18), h570))
          else none)
          else none
        else
        if ((y_I h13 v0_18 (Int32.toNatClampNeg v3_18)) &&& 63) = 40 then
          if y_K h13 v0_18 = 200 ∧ y_ix (v3_18 + 1) (y_N h13 v0_18) = true then
          if y_K h13 v1_18 = 12 then
          y_cl (f_X11_ran v1_18 (y_I h13 v0_18 (Int32.toNatClampNeg (v3_18 + 1))) h13) (fun r576 h577 =>
          if y_K h577 v0_18 = 200 ∧ y_ix (v3_18 + 1) (y_N h577 v0_18) = true then
          if y_K h577 v2_18 = 13 then
          y_cl (f_X12_ran v2_18 (y_I h577 v0_18 (Int32.toNatClampNeg (v3_18 + 1))) h577) (fun r579 h580 =>
          if r576 = r579 then
            j1753 v0_18 v1_18 v2_18 v3_18 c18 s18 h580
          else
            some ((false, c18, s18), h580))
          else none
          else none)
          else none
          else none
        else
        if ((y_I h13 v0_18 (Int32.toNatClampNeg v3_18)) &&& 63) = 41 then
          if y_K h13 v0_18 = 200 ∧ y_ix (v3_18 + 1) (y_N h13 v0_18) = true then
          if y_K h13 v0_18 = 200 ∧ y_ix (v3_18 + 2) (y_N h13 v0_18) = true then
          if y_K h13 v1_18 = 12 then
          y_cl (f_X11_shelf v1_18 (y_I h13 v0_18 (Int32.toNatClampNeg (v3_18 + 1))) (y_I h13 v0_18 (Int32.toNatClampNeg (v3_18 + 2))) h13) (fun r588 h589 =>
          if y_K h589 v0_18 = 200 ∧ y_ix (v3_18 + 1) (y_N h589 v0_18) = true then
          if y_K h589 v0_18 = 200 ∧ y_ix (v3_18 + 2) (y_N h589 v0_18) = true then
          if y_K h589 v2_18 = 13 then
          y_cl (f_X12_shelf v2_18 (y_I h589 v0_18 (Int32.toNatClampNeg (v3_18 + 1))) (y_I h589 v0_18 (Int32.toNatClampNeg (v3_18 + 2))) h589) (fun r591 h592 =>
          if r588 = r591 then
            j1753 v0_18 v1_18 v2_18 v3_18 c18 s18 h592
          else
            some ((false, c18, s18), h592))
          else none
          else none
          else none)
          else none
          else none
          else none
        else
        if ((y_I h13 v0_18 (Int32.toNatClampNeg v3_18)) &&& 63) = 42 then
          if y_K h13 v1_18 = 12 then
          y_cl (f_X11_status v1_18 h13) (fun r602 h603 =>
          if y_K h603 v2_18 = 13 then
          y_cl (f_X12_status v2_18 h603) (fun r605 h606 =>
          if r602 = r605 then
            j1753 v0_18 v1_18 v2_18 v3_18 c18 s18 h606
          else
            some ((false, c18, s18), h606))
          else none)
          else none
        else
        if ((y_I h13 v0_18 (Int32.toNatClampNeg v3_18)) &&& 63) = 43 then
          if y_K h13 v0_18 = 200 ∧ y_ix (v3_18 + 1) (y_N h13 v0_18) = true then
          if y_K h13 v1_18 = 12 then
          y_cl (f_X11_found v1_18 (y_I h13 v0_18 (Int32.toNatClampNeg (v3_18 + 1))) h13) (fun r612 h613 =>
          if y_K h613 v0_18 = 200 ∧ y_ix (v3_18 + 1) (y_N h613 v0_18) = true then
          if y_K h613 v2_18 = 13 then
          y_cl (f_X12_found v2_18 (y_I h613 v0_18 (Int32.toNatClampNeg (v3_18 + 1))) h613) (fun r615 h616 =>
          if r612 = r615 then
            j1753 v0_18 v1_18 v2_18 v3_18 c18 s18 h616
          else
            some ((false, c18, s18), h616))
          else none
          else none)
          else none
          else none
        else
        if ((y_I h13 v0_18 (Int32.toNatClampNeg v3_18)) &&& 63) = 44 then
          if y_K h13 v0_18 = 200 ∧ y_ix (v3_18 + 1) (y_N h13 v0_18) = true then
          if y_K h13 v1_18 = 12 then
          y_cl (f_X11_trace v1_18 (y_I h13 v0_18 (Int32.toNatClampNeg (v3_18 + 1))) h13) (fun r624 h625 =>
          if y_K h625 v0_18 = 200 ∧ y_ix (v3_18 + 1) (y_N h625 v0_18) = true then
          if y_K h625 v2_18 = 13 then
          y_cl (f_X12_trace v2_18 (y_I h625 v0_18 (Int32.toNatClampNeg (v3_18 + 1))) h625) (fun r627 h628 =>
          if r624 = r627 then
            j1753 v0_18 v1_18 v2_18 v3_18 c18 s18 h628
          else
            some ((false, c18, s18), h628))
          else none
          else none)
          else none
          else none
        else
        if ((y_I h13 v0_18 (Int32.toNatClampNeg v3_18)) &&& 63) = 45 then
          if y_K h13 v1_18 = 12 then
          y_cl (f_X11_undo v1_18 h13) (fun r636 h637 =>
          if y_K h637 v2_18 = 13 then
          y_cl (f_X12_undo v2_18 h637) (fun r639 h640 =>
          if r636 = r639 then
            j1753 v0_18 v1_18 v2_18 v3_18 c18 s18 h640
          else
            some ((false, c18, s18), h640))
          else none)
          else none
        else
        if ((y_I h13 v0_18 (Int32.toNatClampNeg v3_18)) &&& 63) = 46 then
          if y_K h13 v0_18 = 200 ∧ y_ix (v3_18 + 1) (y_N h13 v0_18) = true then
          if y_K h13 v1_18 = 12 then
          y_cl (f_X11_back v1_18 (y_I h13 v0_18 (Int32.toNatClampNeg (v3_18 + 1))) h13) (fun r646 h647 =>
          if y_K h647 v0_18 = 200 ∧ y_ix (v3_18 + 1) (y_N h647 v0_18) = true then
          if y_K h647 v2_18 = 13 then
          y_cl (f_X12_back v2_18 (y_I h647 v0_18 (Int32.toNatClampNeg (v3_18 + 1))) h647) (fun r649 h650 =>
          if (lg_cmp r646 r649) = 0 then
            j1753 v0_18 v1_18 v2_18 v3_18 c18 s18 h650
          else
            some ((false, c18, s18), h650))
          else none
          else none)
          else none
          else none
        else
        if ((y_I h13 v0_18 (Int32.toNatClampNeg v3_18)) &&& 63) = 47 then
          if y_K h13 v0_18 = 200 ∧ y_ix (v3_18 + 1) (y_N h13 v0_18) = true then
          if y_K h13 v1_18 = 12 then
          y_cl (f_X11_count v1_18 (y_I h13 v0_18 (Int32.toNatClampNeg (v3_18 + 1))) h13) (fun r658 h659 =>
          if y_K h659 v0_18 = 200 ∧ y_ix (v3_18 + 1) (y_N h659 v0_18) = true then
          if y_K h659 v2_18 = 13 then
          y_cl (f_X12_count v2_18 (y_I h659 v0_18 (Int32.toNatClampNeg (v3_18 + 1))) h659) (fun r661 h662 =>
          if r658 = r661 then
            j1753 v0_18 v1_18 v2_18 v3_18 c18 s18 h662
          else
            some ((false, c18, s18), h662))
          else none
          else none)
          else none
          else none
        else
        if ((y_I h13 v0_18 (Int32.toNatClampNeg v3_18)) &&& 63) = 48 then
          if y_K h13 v1_18 = 12 then
          y_cl (f_X11_clear v1_18 h13) (fun r670 h671 =>
          if y_K h671 v2_18 = 13 then
          y_cl (f_X12_clear v2_18 h671) (fun r673 h674 =>
          if r670 = r673 then
            j1753 v0_18 v1_18 v2_18 v3_18 c18 s18 h674
          else
            some ((false, c18, s18), h674))
          else none)
          else none
        else
        j1753 v0_18 v1_18 v2_18 v3_18 c18 s18 h13)
        else none
      else none
section LWA
variable {h h2 : y_H} {L t e c0 s0 : Nat} {xs : Nat → Int32}
def scr (L : Nat) (xs : Nat → Int32) (h : y_H) : Prop := y_K h 1 = 200 ∧ y_N h 1 = L ∧ y_I h 1 = xs ∧ y_K h 2 = 200 ∧ y_N h 2 = 5 ∧ y_I h 2 = h_sl
theorem scr.kp (S : scr L xs h) (k : kpH h h2) : scr L xs h2 := by
  obtain ⟨a1, a2, a3, a4, a5, a6⟩ := S
  have z1 := k.1 1 (by rw [a1]; decide)
  have z2 := k.1 2 (by rw [a4]; decide)
  exact ⟨z1.1.trans a1, z1.2.trans a2, (k.2 1 a1).trans a3, z2.1.trans a4, z2.2.trans a5, (k.2 2 a4).trans a6⟩
theorem law1 {α : Type} {c : Option (α × y_H)} {m : y_H → Option (α × y_H)} (K : Call c m t e) (a1 : al h c) (a2 : ∀ h1, al h1 (m h1)) : ∃ r h1 h2, c = some (r, h1) ∧ m h1 = some (r, h2) ∧ kpH h h1 ∧ kpH h1 h2 ∧ Rel h2 (t + 1) e := by
  obtain ⟨r, h1, e1, r2, h2, e2, er, R⟩ := K
  rw [← er] at e2
  exact ⟨r, h1, h2, e1, e2, a1 r h1 e1, a2 h1 r h2 e2, R⟩
theorem law2 {c : Option ((Int32 × Nat × Nat) × y_H)} {m : y_H → Option (Int32 × y_H)} (K : CallM c m t e c0 s0) (a1 : al h c) (a2 : ∀ h1, al h1 (m h1)) : ∃ r c1 s1 h1 h2 e', c = some ((r, c1, s1), h1) ∧ m h1 = some (r, h2) ∧ kpH h h1 ∧ kpH h1 h2 ∧ Rel h2 (t + 1) e' ∧ e ≤ e' ∧ c1 ≤ c0 + 100 + (e' - e) ∧ s1 ≤ s0 + 4000 + 8 * (e' - e) := by
  obtain ⟨⟨r, c1, s1⟩, h1, e1, r2, h2, e2, er, e', R, b1, b2, b3⟩ := K
  have er' : r = r2 := er
  rw [← er'] at e2
  exact ⟨r, c1, s1, h1, h2, e', e1, e2, a1 _ h1 e1, a2 h1 r h2 e2, R, b1, b2, b3⟩
def LI (L : Nat) (xs : Nat → Int32) (q c s : Nat) (h : y_H) : Prop := ∃ e, Rel h q e ∧ scr L xs h ∧ c ≤ 1000 + 100 * q + e ∧ s ≤ 350000 + 4000 * q + 8 * e
theorem Rel.e_le (R : Rel h t e) : e ≤ 131072 := by
  obtain ⟨N, C, S, A, -, -, -, -, -, -, -, -, -, -, -, -, rQ, -⟩ := R
  rcases rQ with ⟨z, -⟩ | ⟨-, -, -, -, -, -, -, -, i, hi, z, -⟩
  · omega
  · have : 2 ^ i ≤ 2 ^ 11 := Nat.pow_le_pow_right (by decide) hi
    omega
theorem lg_s (r : Int64) : lg_cmp r r = 0 := by
  unfold lg_cmp
  simp
end LWA
