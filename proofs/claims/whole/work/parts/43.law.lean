/-! ===== printed by wip/whole/gen.py: the law's loop ===== -/
theorem ml_L_121 : Cond.methodLink RL 121 yL_append ∈ GW := inGi 415 (by decide +kernel) rfl
theorem ml_L_126 : Cond.methodLink RL 126 yX9_append ∈ GW := inGi 1461 (by decide +kernel) rfl
theorem ml_L_127 : Cond.methodLink RL 127 yX9_thrown ∈ GW := inGi 1457 (by decide +kernel) rfl
theorem ml_L_130 : Cond.methodLink RL 130 yL_cantus ∈ GW := inGi 520 (by decide +kernel) rfl
theorem ml_L_133 : Cond.methodLink RL 133 yX9_cantus ∈ GW := inGi 1472 (by decide +kernel) rfl
theorem ml_L_134 : Cond.methodLink RL 134 yL_counterpoint ∈ GW := inGi 644 (by decide +kernel) rfl
theorem ml_L_136 : Cond.methodLink RL 136 yX9_counterpoint ∈ GW := inGi 1502 (by decide +kernel) rfl
theorem ml_L_137 : Cond.methodLink RL 137 yX8_errorPosition ∈ GW := inGi 363 (by decide +kernel) rfl
theorem ml_L_140 : Cond.methodLink RL 140 yX9_errorPosition ∈ GW := inGi 1610 (by decide +kernel) rfl
theorem ml_L_141 : Cond.methodLink RL 141 yL_setSpecies ∈ GW := inGi 829 (by decide +kernel) rfl
theorem ml_L_143 : Cond.methodLink RL 143 yX9_setSpecies ∈ GW := inGi 1614 (by decide +kernel) rfl
theorem ml_L_144 : Cond.methodLink RL 144 yX8_setPosition ∈ GW := inGi 367 (by decide +kernel) rfl
theorem ml_L_148 : Cond.methodLink RL 148 yX9_setPosition ∈ GW := inGi 1622 (by decide +kernel) rfl
theorem ml_L_149 : Cond.methodLink RL 149 yL_set ∈ GW := inGi 842 (by decide +kernel) rfl
theorem ml_L_152 : Cond.methodLink RL 152 yX9_set ∈ GW := inGi 1626 (by decide +kernel) rfl
theorem ml_L_153 : Cond.methodLink RL 153 yL_setNote ∈ GW := inGi 900 (by decide +kernel) rfl
theorem ml_L_156 : Cond.methodLink RL 156 yX9_setNote ∈ GW := inGi 1630 (by decide +kernel) rfl
theorem ml_L_157 : Cond.methodLink RL 157 yL_note ∈ GW := inGi 955 (by decide +kernel) rfl
theorem ml_L_159 : Cond.methodLink RL 159 yX9_note ∈ GW := inGi 1645 (by decide +kernel) rfl
theorem ml_L_160 : Cond.methodLink RL 160 yL_noteOf ∈ GW := inGi 967 (by decide +kernel) rfl
theorem ml_L_162 : Cond.methodLink RL 162 yX9_noteOf ∈ GW := inGi 1649 (by decide +kernel) rfl
theorem ml_L_163 : Cond.methodLink RL 163 yL_text ∈ GW := inGi 980 (by decide +kernel) rfl
theorem ml_L_166 : Cond.methodLink RL 166 yX9_text ∈ GW := inGi 1653 (by decide +kernel) rfl
theorem ml_L_167 : Cond.methodLink RL 167 yL_interval ∈ GW := inGi 1029 (by decide +kernel) rfl
theorem ml_L_169 : Cond.methodLink RL 169 yX9_interval ∈ GW := inGi 1666 (by decide +kernel) rfl
theorem ml_L_170 : Cond.methodLink RL 170 yL_motion ∈ GW := inGi 1050 (by decide +kernel) rfl
theorem ml_L_172 : Cond.methodLink RL 172 yX9_motion ∈ GW := inGi 1670 (by decide +kernel) rfl
theorem ml_L_173 : Cond.methodLink RL 173 yL_motions ∈ GW := inGi 1062 (by decide +kernel) rfl
theorem ml_L_175 : Cond.methodLink RL 175 yX9_motions ∈ GW := inGi 1678 (by decide +kernel) rfl
theorem ml_L_176 : Cond.methodLink RL 176 yL_contraryBits ∈ GW := inGi 1075 (by decide +kernel) rfl
theorem ml_L_178 : Cond.methodLink RL 178 yX9_contraryBits ∈ GW := inGi 1686 (by decide +kernel) rfl
theorem ml_L_179 : Cond.methodLink RL 179 yL_meanBits ∈ GW := inGi 1103 (by decide +kernel) rfl
theorem ml_L_181 : Cond.methodLink RL 181 yX9_meanBits ∈ GW := inGi 1700 (by decide +kernel) rfl
theorem ml_L_182 : Cond.methodLink RL 182 yL_setWeight ∈ GW := inGi 1110 (by decide +kernel) rfl
theorem ml_L_184 : Cond.methodLink RL 184 yX9_setWeight ∈ GW := inGi 1714 (by decide +kernel) rfl
theorem ml_L_185 : Cond.methodLink RL 185 yL_weights ∈ GW := inGi 1128 (by decide +kernel) rfl
theorem ml_L_187 : Cond.methodLink RL 187 yX9_weights ∈ GW := inGi 1718 (by decide +kernel) rfl
theorem ml_L_188 : Cond.methodLink RL 188 yL_weight ∈ GW := inGi 1182 (by decide +kernel) rfl
theorem ml_L_190 : Cond.methodLink RL 190 yX9_weight ∈ GW := inGi 1732 (by decide +kernel) rfl
theorem ml_L_191 : Cond.methodLink RL 191 yL_fault ∈ GW := inGi 1189 (by decide +kernel) rfl
theorem ml_L_193 : Cond.methodLink RL 193 yX9_fault ∈ GW := inGi 1736 (by decide +kernel) rfl
theorem ml_L_194 : Cond.methodLink RL 194 yL_explain ∈ GW := inGi 1222 (by decide +kernel) rfl
theorem ml_L_196 : Cond.methodLink RL 196 yX9_explain ∈ GW := inGi 1740 (by decide +kernel) rfl
theorem ml_L_197 : Cond.methodLink RL 197 yL_faults ∈ GW := inGi 1239 (by decide +kernel) rfl
theorem ml_L_199 : Cond.methodLink RL 199 yX9_faults ∈ GW := inGi 1748 (by decide +kernel) rfl
theorem ml_L_200 : Cond.methodLink RL 200 yL_faultsIn ∈ GW := inGi 1246 (by decide +kernel) rfl
theorem ml_L_202 : Cond.methodLink RL 202 yX9_faultsIn ∈ GW := inGi 1752 (by decide +kernel) rfl
theorem ml_L_203 : Cond.methodLink RL 203 yL_cost ∈ GW := inGi 1253 (by decide +kernel) rfl
theorem ml_L_205 : Cond.methodLink RL 205 yX9_cost ∈ GW := inGi 1756 (by decide +kernel) rfl
theorem ml_L_206 : Cond.methodLink RL 206 yL_better ∈ GW := inGi 1264 (by decide +kernel) rfl
theorem ml_L_208 : Cond.methodLink RL 208 yX9_better ∈ GW := inGi 1764 (by decide +kernel) rfl
theorem ml_L_209 : Cond.methodLink RL 209 yL_costWith ∈ GW := inGi 1277 (by decide +kernel) rfl
theorem ml_L_211 : Cond.methodLink RL 211 yX9_costWith ∈ GW := inGi 1776 (by decide +kernel) rfl
theorem ml_L_212 : Cond.methodLink RL 212 yL_search ∈ GW := inGi 1284 (by decide +kernel) rfl
theorem ml_L_214 : Cond.methodLink RL 214 yX9_search ∈ GW := inGi 1780 (by decide +kernel) rfl
theorem ml_L_215 : Cond.methodLink RL 215 yL_suggested ∈ GW := inGi 1342 (by decide +kernel) rfl
theorem ml_L_217 : Cond.methodLink RL 217 yX9_suggested ∈ GW := inGi 1796 (by decide +kernel) rfl
theorem ml_L_218 : Cond.methodLink RL 218 yL_adopt ∈ GW := inGi 1355 (by decide +kernel) rfl
theorem ml_L_220 : Cond.methodLink RL 220 yX9_adopt ∈ GW := inGi 1800 (by decide +kernel) rfl
theorem ml_L_221 : Cond.methodLink RL 221 yL_count ∈ GW := inGi 1363 (by decide +kernel) rfl
theorem ml_L_223 : Cond.methodLink RL 223 yX9_count ∈ GW := inGi 1804 (by decide +kernel) rfl
theorem ml_L_224 : Cond.methodLink RL 224 yL_undo ∈ GW := inGi 1379 (by decide +kernel) rfl
theorem ml_L_226 : Cond.methodLink RL 226 yX9_undo ∈ GW := inGi 1808 (by decide +kernel) rfl
theorem ml_L_227 : Cond.methodLink RL 227 yX8_save ∈ GW := inGi 406 (by decide +kernel) rfl
theorem ml_L_230 : Cond.methodLink RL 230 yX9_save ∈ GW := inGi 1812 (by decide +kernel) rfl
theorem ml_L_231 : Cond.methodLink RL 231 yL_restore ∈ GW := inGi 1391 (by decide +kernel) rfl
theorem ml_L_233 : Cond.methodLink RL 233 yX9_restore ∈ GW := inGi 1816 (by decide +kernel) rfl
noncomputable def f_L_law_b23 (L : Nat) (xs : Nat → Int32) : Nat → Nat → Nat → Nat → Int32 → AH → Option Int32
  | 0, _, _, _, _, _ => none
  | n + 1, v1, v2, v3, v4, hs =>
  if ((Int32.ofNat L) - 4) < v4 then
  (
   some 1)
  else
  (
   (scr L xs v4).bind fun x1 =>
   if (x1 &&& 63) = 0 then
   (
    (scr L xs (v4 + 1)).bind fun x2 =>
    (f_L_append v1 x2 v3 hs).bind fun q3 =>
    (scr L xs (v4 + 1)).bind fun x4 =>
    (chk q3.2 v2 9).bind fun u5 =>
    (f_X9_append v2 x4 q3.2).bind fun q6 =>
    (chk q6.2 v2 9).bind fun u7 =>
    (f_X9_thrown v2 q6.2).bind fun x8 =>
    if x8 = q3.1 then
    (
     if q3.1 = 0 then
     (
      (aL q6.2 v3 0).bind fun x9 =>
      if (lg_cmp x9 (Int32.toInt64 q6.1)) = 0 then
      (
       f_L_law_b23 L xs n v1 v2 v3 (v4 + 4) q6.2)
      else
      (
       some 0))
     else
     (
      f_L_law_b23 L xs n v1 v2 v3 (v4 + 4) q6.2))
    else
    (
     some 0))
   else
   (
    if (x1 &&& 63) = 1 then
    (
     (f_L_cantus v1 v3 hs).bind fun q10 =>
     (chk q10.2 v2 9).bind fun u11 =>
     (f_X9_cantus v2 q10.2).bind fun q12 =>
     (chk q12.2 v2 9).bind fun u13 =>
     (f_X9_thrown v2 q12.2).bind fun x14 =>
     if x14 = q10.1 then
     (
      if q10.1 = 0 then
      (
       (aL q12.2 v3 0).bind fun x15 =>
       if (lg_cmp x15 (Int32.toInt64 q12.1)) = 0 then
       (
        f_L_law_b23 L xs n v1 v2 v3 (v4 + 4) q12.2)
       else
       (
        some 0))
      else
      (
       f_L_law_b23 L xs n v1 v2 v3 (v4 + 4) q12.2))
     else
     (
      some 0))
    else
    (
     if (x1 &&& 63) = 2 then
     (
      (f_L_counterpoint v1 v3 hs).bind fun q16 =>
      (chk q16.2 v2 9).bind fun u17 =>
      (f_X9_counterpoint v2 q16.2).bind fun q18 =>
      (chk q18.2 v2 9).bind fun u19 =>
      (f_X9_thrown v2 q18.2).bind fun x20 =>
      if x20 = q16.1 then
      (
       if q16.1 = 0 then
       (
        (aL q18.2 v3 0).bind fun x21 =>
        if (lg_cmp x21 (Int32.toInt64 q18.1)) = 0 then
        (
         f_L_law_b23 L xs n v1 v2 v3 (v4 + 4) q18.2)
        else
        (
         some 0))
       else
       (
        f_L_law_b23 L xs n v1 v2 v3 (v4 + 4) q18.2))
      else
      (
       some 0))
     else
     (
      if (x1 &&& 63) = 3 then
      (
       (chk hs v1 8).bind fun u22 =>
       (f_X8_errorPosition v1 hs).bind fun x23 =>
       (chk hs v2 9).bind fun u24 =>
       (f_X9_errorPosition v2 hs).bind fun q25 =>
       if x23 = q25.1 then
       (
        f_L_law_b23 L xs n v1 v2 v3 (v4 + 4) q25.2)
       else
       (
        some 0))
      else
      (
       if (x1 &&& 63) = 4 then
       (
        (scr L xs (v4 + 1)).bind fun x26 =>
        (f_L_setSpecies v1 x26 v3 hs).bind fun q27 =>
        (scr L xs (v4 + 1)).bind fun x28 =>
        (chk q27.2 v2 9).bind fun u29 =>
        (f_X9_setSpecies v2 x28 q27.2).bind fun q30 =>
        (chk q30.2 v2 9).bind fun u31 =>
        (f_X9_thrown v2 q30.2).bind fun x32 =>
        if x32 = q27.1 then
        (
         if q27.1 = 0 then
         (
          (aL q30.2 v3 0).bind fun x33 =>
          if (lg_cmp x33 (Int32.toInt64 q30.1)) = 0 then
          (
           f_L_law_b23 L xs n v1 v2 v3 (v4 + 4) q30.2)
          else
          (
           some 0))
         else
         (
          f_L_law_b23 L xs n v1 v2 v3 (v4 + 4) q30.2))
        else
        (
         some 0))
       else
       (
        if (x1 &&& 63) = 5 then
        (
         (scr L xs (v4 + 1)).bind fun x34 =>
         if x34 = 0 then
         (
          (chk hs v1 8).bind fun u35 =>
          (f_X8_setPosition v1 0 hs).bind fun q36 =>
          (scr L xs (v4 + 1)).bind fun x37 =>
          if x37 = 0 then
          (
           (chk q36.2 v2 9).bind fun u38 =>
           (f_X9_setPosition v2 0 q36.2).bind fun q39 =>
           if q36.1 = q39.1 then
           (
            f_L_law_b23 L xs n v1 v2 v3 (v4 + 4) q39.2)
           else
           (
            some 0))
          else
          (
           (chk q36.2 v2 9).bind fun u40 =>
           (f_X9_setPosition v2 1 q36.2).bind fun q41 =>
           if q36.1 = q41.1 then
           (
            f_L_law_b23 L xs n v1 v2 v3 (v4 + 4) q41.2)
           else
           (
            some 0)))
         else
         (
          (chk hs v1 8).bind fun u42 =>
          (f_X8_setPosition v1 1 hs).bind fun q43 =>
          (scr L xs (v4 + 1)).bind fun x44 =>
          if x44 = 0 then
          (
           (chk q43.2 v2 9).bind fun u45 =>
           (f_X9_setPosition v2 0 q43.2).bind fun q46 =>
           if q43.1 = q46.1 then
           (
            f_L_law_b23 L xs n v1 v2 v3 (v4 + 4) q46.2)
           else
           (
            some 0))
          else
          (
           (chk q43.2 v2 9).bind fun u47 =>
           (f_X9_setPosition v2 1 q43.2).bind fun q48 =>
           if q43.1 = q48.1 then
           (
            f_L_law_b23 L xs n v1 v2 v3 (v4 + 4) q48.2)
           else
           (
            some 0))))
        else
        (
         if (x1 &&& 63) = 6 then
         (
          (scr L xs (v4 + 1)).bind fun x49 =>
          (scr L xs (v4 + 2)).bind fun x50 =>
          (f_L_set v1 x49 x50 v3 hs).bind fun q51 =>
          (scr L xs (v4 + 1)).bind fun x52 =>
          (scr L xs (v4 + 2)).bind fun x53 =>
          (chk q51.2 v2 9).bind fun u54 =>
          (f_X9_set v2 x52 x53 q51.2).bind fun q55 =>
          (chk q55.2 v2 9).bind fun u56 =>
          (f_X9_thrown v2 q55.2).bind fun x57 =>
          if x57 = q51.1 then
          (
           if q51.1 = 0 then
           (
            (aL q55.2 v3 0).bind fun x58 =>
            if (lg_cmp x58 (Int32.toInt64 q55.1)) = 0 then
            (
             f_L_law_b23 L xs n v1 v2 v3 (v4 + 4) q55.2)
            else
            (
             some 0))
           else
           (
            f_L_law_b23 L xs n v1 v2 v3 (v4 + 4) q55.2))
          else
          (
           some 0))
         else
         (
          if (x1 &&& 63) = 7 then
          (
           (scr L xs (v4 + 1)).bind fun x59 =>
           (scr L xs (v4 + 2)).bind fun x60 =>
           (scr L xs (v4 + 3)).bind fun x61 =>
           (f_L_setNote v1 x59 x60 x61 v3 hs).bind fun q62 =>
           (scr L xs (v4 + 1)).bind fun x63 =>
           (scr L xs (v4 + 2)).bind fun x64 =>
           (scr L xs (v4 + 3)).bind fun x65 =>
           (chk q62.2 v2 9).bind fun u66 =>
           (f_X9_setNote v2 x63 x64 x65 q62.2).bind fun q67 =>
           (chk q67.2 v2 9).bind fun u68 =>
           (f_X9_thrown v2 q67.2).bind fun x69 =>
           if x69 = q62.1 then
           (
            if q62.1 = 0 then
            (
             (aL q67.2 v3 0).bind fun x70 =>
             if (lg_cmp x70 (Int32.toInt64 q67.1)) = 0 then
             (
              f_L_law_b23 L xs n v1 v2 v3 (v4 + 4) q67.2)
             else
             (
              some 0))
            else
            (
             f_L_law_b23 L xs n v1 v2 v3 (v4 + 4) q67.2))
           else
           (
            some 0))
          else
          (
           if (x1 &&& 63) = 8 then
           (
            (scr L xs (v4 + 1)).bind fun x71 =>
            (scr L xs (v4 + 2)).bind fun x72 =>
            (f_L_note v1 x71 x72 v3 hs).bind fun q73 =>
            (scr L xs (v4 + 1)).bind fun x74 =>
            (scr L xs (v4 + 2)).bind fun x75 =>
            (chk q73.2 v2 9).bind fun u76 =>
            (f_X9_note v2 x74 x75 q73.2).bind fun q77 =>
            (chk q77.2 v2 9).bind fun u78 =>
            (f_X9_thrown v2 q77.2).bind fun x79 =>
            if x79 = q73.1 then
            (
             if q73.1 = 0 then
             (
              (aL q77.2 v3 0).bind fun x80 =>
              if (lg_cmp x80 (Int32.toInt64 q77.1)) = 0 then
              (
               f_L_law_b23 L xs n v1 v2 v3 (v4 + 4) q77.2)
              else
              (
               some 0))
             else
             (
              f_L_law_b23 L xs n v1 v2 v3 (v4 + 4) q77.2))
            else
            (
             some 0))
           else
           (
            if (x1 &&& 63) = 9 then
            (
             (scr L xs (v4 + 1)).bind fun x81 =>
             (scr L xs (v4 + 2)).bind fun x82 =>
             (f_L_noteOf v1 x81 x82 v3 hs).bind fun q83 =>
             (scr L xs (v4 + 1)).bind fun x84 =>
             (scr L xs (v4 + 2)).bind fun x85 =>
             (chk q83.2 v2 9).bind fun u86 =>
             (f_X9_noteOf v2 x84 x85 q83.2).bind fun q87 =>
             (chk q87.2 v2 9).bind fun u88 =>
             (f_X9_thrown v2 q87.2).bind fun x89 =>
             if x89 = q83.1 then
             (
              if q83.1 = 0 then
              (
               (aL q87.2 v3 0).bind fun x90 =>
               if (lg_cmp x90 (Int32.toInt64 q87.1)) = 0 then
               (
                f_L_law_b23 L xs n v1 v2 v3 (v4 + 4) q87.2)
               else
               (
                some 0))
              else
              (
               f_L_law_b23 L xs n v1 v2 v3 (v4 + 4) q87.2))
             else
             (
              some 0))
            else
            (
             if (x1 &&& 63) = 10 then
             (
              (scr L xs (v4 + 1)).bind fun x91 =>
              if x91 = 0 then
              (
               (scr L xs (v4 + 2)).bind fun x92 =>
               (f_L_text v1 0 x92 v3 hs).bind fun q93 =>
               (scr L xs (v4 + 1)).bind fun x94 =>
               if x94 = 0 then
               (
                (scr L xs (v4 + 2)).bind fun x95 =>
                (chk q93.2 v2 9).bind fun u96 =>
                (f_X9_text v2 0 x95 q93.2).bind fun q97 =>
                (chk q97.2 v2 9).bind fun u98 =>
                (f_X9_thrown v2 q97.2).bind fun x99 =>
                if x99 = q93.1 then
                (
                 if q93.1 = 0 then
                 (
                  (aL q97.2 v3 0).bind fun x100 =>
                  if (lg_cmp x100 (Int32.toInt64 q97.1)) = 0 then
                  (
                   f_L_law_b23 L xs n v1 v2 v3 (v4 + 4) q97.2)
                  else
                  (
                   some 0))
                 else
                 (
                  f_L_law_b23 L xs n v1 v2 v3 (v4 + 4) q97.2))
                else
                (
                 some 0))
               else
               (
                (scr L xs (v4 + 2)).bind fun x101 =>
                (chk q93.2 v2 9).bind fun u102 =>
                (f_X9_text v2 1 x101 q93.2).bind fun q103 =>
                (chk q103.2 v2 9).bind fun u104 =>
                (f_X9_thrown v2 q103.2).bind fun x105 =>
                if x105 = q93.1 then
                (
                 if q93.1 = 0 then
                 (
                  (aL q103.2 v3 0).bind fun x106 =>
                  if (lg_cmp x106 (Int32.toInt64 q103.1)) = 0 then
                  (
                   f_L_law_b23 L xs n v1 v2 v3 (v4 + 4) q103.2)
                  else
                  (
                   some 0))
                 else
                 (
                  f_L_law_b23 L xs n v1 v2 v3 (v4 + 4) q103.2))
                else
                (
                 some 0)))
              else
              (
               (scr L xs (v4 + 2)).bind fun x107 =>
               (f_L_text v1 1 x107 v3 hs).bind fun q108 =>
               (scr L xs (v4 + 1)).bind fun x109 =>
               if x109 = 0 then
               (
                (scr L xs (v4 + 2)).bind fun x110 =>
                (chk q108.2 v2 9).bind fun u111 =>
                (f_X9_text v2 0 x110 q108.2).bind fun q112 =>
                (chk q112.2 v2 9).bind fun u113 =>
                (f_X9_thrown v2 q112.2).bind fun x114 =>
                if x114 = q108.1 then
                (
                 if q108.1 = 0 then
                 (
                  (aL q112.2 v3 0).bind fun x115 =>
                  if (lg_cmp x115 (Int32.toInt64 q112.1)) = 0 then
                  (
                   f_L_law_b23 L xs n v1 v2 v3 (v4 + 4) q112.2)
                  else
                  (
                   some 0))
                 else
                 (
                  f_L_law_b23 L xs n v1 v2 v3 (v4 + 4) q112.2))
                else
                (
                 some 0))
               else
               (
                (scr L xs (v4 + 2)).bind fun x116 =>
                (chk q108.2 v2 9).bind fun u117 =>
                (f_X9_text v2 1 x116 q108.2).bind fun q118 =>
                (chk q118.2 v2 9).bind fun u119 =>
                (f_X9_thrown v2 q118.2).bind fun x120 =>
                if x120 = q108.1 then
                (
                 if q108.1 = 0 then
                 (
                  (aL q118.2 v3 0).bind fun x121 =>
                  if (lg_cmp x121 (Int32.toInt64 q118.1)) = 0 then
                  (
                   f_L_law_b23 L xs n v1 v2 v3 (v4 + 4) q118.2)
                  else
                  (
                   some 0))
                 else
                 (
                  f_L_law_b23 L xs n v1 v2 v3 (v4 + 4) q118.2))
                else
                (
                 some 0))))
             else
             (
              if (x1 &&& 63) = 11 then
              (
               (scr L xs (v4 + 1)).bind fun x122 =>
               (scr L xs (v4 + 2)).bind fun x123 =>
               (scr L xs (v4 + 3)).bind fun x124 =>
               (f_L_interval v1 x122 x123 x124 v3 hs).bind fun q125 =>
               (scr L xs (v4 + 1)).bind fun x126 =>
               (scr L xs (v4 + 2)).bind fun x127 =>
               (scr L xs (v4 + 3)).bind fun x128 =>
               (chk q125.2 v2 9).bind fun u129 =>
               (f_X9_interval v2 x126 x127 x128 q125.2).bind fun q130 =>
               (chk q130.2 v2 9).bind fun u131 =>
               (f_X9_thrown v2 q130.2).bind fun x132 =>
               if x132 = q125.1 then
               (
                if q125.1 = 0 then
                (
                 (aL q130.2 v3 0).bind fun x133 =>
                 if (lg_cmp x133 (Int32.toInt64 q130.1)) = 0 then
                 (
                  f_L_law_b23 L xs n v1 v2 v3 (v4 + 4) q130.2)
                 else
                 (
                  some 0))
                else
                (
                 f_L_law_b23 L xs n v1 v2 v3 (v4 + 4) q130.2))
               else
               (
                some 0))
              else
              (
               if (x1 &&& 63) = 12 then
               (
                (scr L xs (v4 + 1)).bind fun x134 =>
                (f_L_motion v1 x134 v3 hs).bind fun q135 =>
                (scr L xs (v4 + 1)).bind fun x136 =>
                (chk q135.2 v2 9).bind fun u137 =>
                (f_X9_motion v2 x136 q135.2).bind fun q138 =>
                (chk q138.2 v2 9).bind fun u139 =>
                (f_X9_thrown v2 q138.2).bind fun x140 =>
                if x140 = q135.1 then
                (
                 if q135.1 = 0 then
                 (
                  (aL q138.2 v3 0).bind fun x141 =>
                  if (lg_cmp x141 (Int32.toInt64 q138.1)) = 0 then
                  (
                   f_L_law_b23 L xs n v1 v2 v3 (v4 + 4) q138.2)
                  else
                  (
                   some 0))
                 else
                 (
                  f_L_law_b23 L xs n v1 v2 v3 (v4 + 4) q138.2))
                else
                (
                 some 0))
               else
               (
                if (x1 &&& 63) = 13 then
                (
                 (scr L xs (v4 + 1)).bind fun x142 =>
                 (f_L_motions v1 x142 v3 hs).bind fun q143 =>
                 (scr L xs (v4 + 1)).bind fun x144 =>
                 (chk q143.2 v2 9).bind fun u145 =>
                 (f_X9_motions v2 x144 q143.2).bind fun q146 =>
                 (chk q146.2 v2 9).bind fun u147 =>
                 (f_X9_thrown v2 q146.2).bind fun x148 =>
                 if x148 = q143.1 then
                 (
                  if q143.1 = 0 then
                  (
                   (aL q146.2 v3 0).bind fun x149 =>
                   if (lg_cmp x149 (Int32.toInt64 q146.1)) = 0 then
                   (
                    f_L_law_b23 L xs n v1 v2 v3 (v4 + 4) q146.2)
                   else
                   (
                    some 0))
                  else
                  (
                   f_L_law_b23 L xs n v1 v2 v3 (v4 + 4) q146.2))
                 else
                 (
                  some 0))
                else
                (
                 if (x1 &&& 63) = 14 then
                 (
                  (f_L_contraryBits v1 v3 hs).bind fun q150 =>
                  (chk q150.2 v2 9).bind fun u151 =>
                  (f_X9_contraryBits v2 q150.2).bind fun q152 =>
                  (chk q152.2 v2 9).bind fun u153 =>
                  (f_X9_thrown v2 q152.2).bind fun x154 =>
                  if x154 = q150.1 then
                  (
                   if q150.1 = 0 then
                   (
                    (aL q152.2 v3 0).bind fun x155 =>
                    if (lg_cmp x155 (Int32.toInt64 q152.1)) = 0 then
                    (
                     f_L_law_b23 L xs n v1 v2 v3 (v4 + 4) q152.2)
                    else
                    (
                     some 0))
                   else
                   (
                    f_L_law_b23 L xs n v1 v2 v3 (v4 + 4) q152.2))
                  else
                  (
                   some 0))
                 else
                 (
                  if (x1 &&& 63) = 15 then
                  (
                   (f_L_meanBits v1 v3 hs).bind fun q156 =>
                   (chk q156.2 v2 9).bind fun u157 =>
                   (f_X9_meanBits v2 q156.2).bind fun q158 =>
                   (chk q158.2 v2 9).bind fun u159 =>
                   (f_X9_thrown v2 q158.2).bind fun x160 =>
                   if x160 = q156.1 then
                   (
                    if q156.1 = 0 then
                    (
                     (aL q158.2 v3 0).bind fun x161 =>
                     if (lg_cmp x161 q158.1) = 0 then
                     (
                      f_L_law_b23 L xs n v1 v2 v3 (v4 + 4) q158.2)
                     else
                     (
                      some 0))
                    else
                    (
                     f_L_law_b23 L xs n v1 v2 v3 (v4 + 4) q158.2))
                   else
                   (
                    some 0))
                  else
                  (
                   if (x1 &&& 63) = 16 then
                   (
                    (scr L xs (v4 + 1)).bind fun x162 =>
                    (scr L xs (v4 + 2)).bind fun x163 =>
                    (f_L_setWeight v1 x162 x163 v3 hs).bind fun q164 =>
                    (scr L xs (v4 + 1)).bind fun x165 =>
                    (scr L xs (v4 + 2)).bind fun x166 =>
                    (chk q164.2 v2 9).bind fun u167 =>
                    (f_X9_setWeight v2 x165 x166 q164.2).bind fun q168 =>
                    (chk q168.2 v2 9).bind fun u169 =>
                    (f_X9_thrown v2 q168.2).bind fun x170 =>
                    if x170 = q164.1 then
                    (
                     if q164.1 = 0 then
                     (
                      (aL q168.2 v3 0).bind fun x171 =>
                      if (lg_cmp x171 (Int32.toInt64 q168.1)) = 0 then
                      (
                       f_L_law_b23 L xs n v1 v2 v3 (v4 + 4) q168.2)
                      else
                      (
                       some 0))
                     else
                     (
                      f_L_law_b23 L xs n v1 v2 v3 (v4 + 4) q168.2))
                    else
                    (
                     some 0))
                   else
                   (
                    if (x1 &&& 63) = 17 then
                    (
                     (f_L_weights v1 v3 hs).bind fun q172 =>
                     (chk q172.2 v2 9).bind fun u173 =>
                     (f_X9_weights v2 q172.2).bind fun q174 =>
                     (chk q174.2 v2 9).bind fun u175 =>
                     (f_X9_thrown v2 q174.2).bind fun x176 =>
                     if x176 = q172.1 then
                     (
                      if q172.1 = 0 then
                      (
                       (aL q174.2 v3 0).bind fun x177 =>
                       if (lg_cmp x177 (Int32.toInt64 q174.1)) = 0 then
                       (
                        f_L_law_b23 L xs n v1 v2 v3 (v4 + 4) q174.2)
                       else
                       (
                        some 0))
                      else
                      (
                       f_L_law_b23 L xs n v1 v2 v3 (v4 + 4) q174.2))
                     else
                     (
                      some 0))
                    else
                    (
                     if (x1 &&& 63) = 18 then
                     (
                      (scr L xs (v4 + 1)).bind fun x178 =>
                      (f_L_weight v1 x178 v3 hs).bind fun q179 =>
                      (scr L xs (v4 + 1)).bind fun x180 =>
                      (chk q179.2 v2 9).bind fun u181 =>
                      (f_X9_weight v2 x180 q179.2).bind fun q182 =>
                      (chk q182.2 v2 9).bind fun u183 =>
                      (f_X9_thrown v2 q182.2).bind fun x184 =>
                      if x184 = q179.1 then
                      (
                       if q179.1 = 0 then
                       (
                        (aL q182.2 v3 0).bind fun x185 =>
                        if (lg_cmp x185 (Int32.toInt64 q182.1)) = 0 then
                        (
                         f_L_law_b23 L xs n v1 v2 v3 (v4 + 4) q182.2)
                        else
                        (
                         some 0))
                       else
                       (
                        f_L_law_b23 L xs n v1 v2 v3 (v4 + 4) q182.2))
                      else
                      (
                       some 0))
                     else
                     (
                      if (x1 &&& 63) = 19 then
                      (
                       (scr L xs (v4 + 1)).bind fun x186 =>
                       (scr L xs (v4 + 2)).bind fun x187 =>
                       (f_L_fault v1 x186 x187 v3 hs).bind fun q188 =>
                       (scr L xs (v4 + 1)).bind fun x189 =>
                       (scr L xs (v4 + 2)).bind fun x190 =>
                       (chk q188.2 v2 9).bind fun u191 =>
                       (f_X9_fault v2 x189 x190 q188.2).bind fun q192 =>
                       (chk q192.2 v2 9).bind fun u193 =>
                       (f_X9_thrown v2 q192.2).bind fun x194 =>
                       if x194 = q188.1 then
                       (
                        if q188.1 = 0 then
                        (
                         (aL q192.2 v3 0).bind fun x195 =>
                         if (lg_cmp x195 (Int32.toInt64 q192.1)) = 0 then
                         (
                          f_L_law_b23 L xs n v1 v2 v3 (v4 + 4) q192.2)
                         else
                         (
                          some 0))
                        else
                        (
                         f_L_law_b23 L xs n v1 v2 v3 (v4 + 4) q192.2))
                       else
                       (
                        some 0))
                      else
                      (
                       if (x1 &&& 63) = 20 then
                       (
                        (scr L xs (v4 + 1)).bind fun x196 =>
                        (scr L xs (v4 + 2)).bind fun x197 =>
                        (f_L_explain v1 x196 x197 v3 hs).bind fun q198 =>
                        (scr L xs (v4 + 1)).bind fun x199 =>
                        (scr L xs (v4 + 2)).bind fun x200 =>
                        (chk q198.2 v2 9).bind fun u201 =>
                        (f_X9_explain v2 x199 x200 q198.2).bind fun q202 =>
                        (chk q202.2 v2 9).bind fun u203 =>
                        (f_X9_thrown v2 q202.2).bind fun x204 =>
                        if x204 = q198.1 then
                        (
                         if q198.1 = 0 then
                         (
                          (aL q202.2 v3 0).bind fun x205 =>
                          if (lg_cmp x205 (Int32.toInt64 q202.1)) = 0 then
                          (
                           f_L_law_b23 L xs n v1 v2 v3 (v4 + 4) q202.2)
                          else
                          (
                           some 0))
                         else
                         (
                          f_L_law_b23 L xs n v1 v2 v3 (v4 + 4) q202.2))
                        else
                        (
                         some 0))
                       else
                       (
                        if (x1 &&& 63) = 21 then
                        (
                         (scr L xs (v4 + 1)).bind fun x206 =>
                         (f_L_faults v1 x206 v3 hs).bind fun q207 =>
                         (scr L xs (v4 + 1)).bind fun x208 =>
                         (chk q207.2 v2 9).bind fun u209 =>
                         (f_X9_faults v2 x208 q207.2).bind fun q210 =>
                         (chk q210.2 v2 9).bind fun u211 =>
                         (f_X9_thrown v2 q210.2).bind fun x212 =>
                         if x212 = q207.1 then
                         (
                          if q207.1 = 0 then
                          (
                           (aL q210.2 v3 0).bind fun x213 =>
                           if (lg_cmp x213 (Int32.toInt64 q210.1)) = 0 then
                           (
                            f_L_law_b23 L xs n v1 v2 v3 (v4 + 4) q210.2)
                           else
                           (
                            some 0))
                          else
                          (
                           f_L_law_b23 L xs n v1 v2 v3 (v4 + 4) q210.2))
                         else
                         (
                          some 0))
                        else
                        (
                         if (x1 &&& 63) = 22 then
                         (
                          (scr L xs (v4 + 1)).bind fun x214 =>
                          (f_L_faultsIn v1 x214 v3 hs).bind fun q215 =>
                          (scr L xs (v4 + 1)).bind fun x216 =>
                          (chk q215.2 v2 9).bind fun u217 =>
                          (f_X9_faultsIn v2 x216 q215.2).bind fun q218 =>
                          (chk q218.2 v2 9).bind fun u219 =>
                          (f_X9_thrown v2 q218.2).bind fun x220 =>
                          if x220 = q215.1 then
                          (
                           if q215.1 = 0 then
                           (
                            (aL q218.2 v3 0).bind fun x221 =>
                            if (lg_cmp x221 (Int32.toInt64 q218.1)) = 0 then
                            (
                             f_L_law_b23 L xs n v1 v2 v3 (v4 + 4) q218.2)
                            else
                            (
                             some 0))
                           else
                           (
                            f_L_law_b23 L xs n v1 v2 v3 (v4 + 4) q218.2))
                          else
                          (
                           some 0))
                         else
                         (
                          if (x1 &&& 63) = 23 then
                          (
                           (f_L_cost v1 v3 hs).bind fun q222 =>
                           (chk q222.2 v2 9).bind fun u223 =>
                           (f_X9_cost v2 q222.2).bind fun q224 =>
                           (chk q224.2 v2 9).bind fun u225 =>
                           (f_X9_thrown v2 q224.2).bind fun x226 =>
                           if x226 = q222.1 then
                           (
                            if q222.1 = 0 then
                            (
                             (aL q224.2 v3 0).bind fun x227 =>
                             if (lg_cmp x227 (Int32.toInt64 q224.1)) = 0 then
                             (
                              f_L_law_b23 L xs n v1 v2 v3 (v4 + 4) q224.2)
                             else
                             (
                              some 0))
                            else
                            (
                             f_L_law_b23 L xs n v1 v2 v3 (v4 + 4) q224.2))
                           else
                           (
                            some 0))
                          else
                          (
                           if (x1 &&& 63) = 24 then
                           (
                            (scr L xs (v4 + 1)).bind fun x228 =>
                            (scr L xs (v4 + 2)).bind fun x229 =>
                            (f_L_better v1 x228 x229 v3 hs).bind fun q230 =>
                            (scr L xs (v4 + 1)).bind fun x231 =>
                            (scr L xs (v4 + 2)).bind fun x232 =>
                            (chk q230.2 v2 9).bind fun u233 =>
                            (f_X9_better v2 x231 x232 q230.2).bind fun q234 =>
                            (chk q234.2 v2 9).bind fun u235 =>
                            (f_X9_thrown v2 q234.2).bind fun x236 =>
                            if x236 = q230.1 then
                            (
                             if q230.1 = 0 then
                             (
                              (aL q234.2 v3 0).bind fun x237 =>
                              if (lg_cmp x237 (Int32.toInt64 q234.1)) = 0 then
                              (
                               f_L_law_b23 L xs n v1 v2 v3 (v4 + 4) q234.2)
                              else
                              (
                               some 0))
                             else
                             (
                              f_L_law_b23 L xs n v1 v2 v3 (v4 + 4) q234.2))
                            else
                            (
                             some 0))
                           else
                           (
                            if (x1 &&& 63) = 25 then
                            (
                             (scr L xs (v4 + 1)).bind fun x238 =>
                             (scr L xs (v4 + 2)).bind fun x239 =>
                             (scr L xs (v4 + 3)).bind fun x240 =>
                             (f_L_costWith v1 x238 x239 x240 v3 hs).bind fun q241 =>
                             (scr L xs (v4 + 1)).bind fun x242 =>
                             (scr L xs (v4 + 2)).bind fun x243 =>
                             (scr L xs (v4 + 3)).bind fun x244 =>
                             (chk q241.2 v2 9).bind fun u245 =>
                             (f_X9_costWith v2 x242 x243 x244 q241.2).bind fun q246 =>
                             (chk q246.2 v2 9).bind fun u247 =>
                             (f_X9_thrown v2 q246.2).bind fun x248 =>
                             if x248 = q241.1 then
                             (
                              if q241.1 = 0 then
                              (
                               (aL q246.2 v3 0).bind fun x249 =>
                               if (lg_cmp x249 (Int32.toInt64 q246.1)) = 0 then
                               (
                                f_L_law_b23 L xs n v1 v2 v3 (v4 + 4) q246.2)
                               else
                               (
                                some 0))
                              else
                              (
                               f_L_law_b23 L xs n v1 v2 v3 (v4 + 4) q246.2))
                             else
                             (
                              some 0))
                            else
                            (
                             if (x1 &&& 63) = 26 then
                             (
                              (f_L_search v1 v3 hs).bind fun q250 =>
                              (chk q250.2 v2 9).bind fun u251 =>
                              (f_X9_search v2 q250.2).bind fun q252 =>
                              (chk q252.2 v2 9).bind fun u253 =>
                              (f_X9_thrown v2 q252.2).bind fun x254 =>
                              if x254 = q250.1 then
                              (
                               if q250.1 = 0 then
                               (
                                (aL q252.2 v3 0).bind fun x255 =>
                                if (lg_cmp x255 (Int32.toInt64 q252.1)) = 0 then
                                (
                                 f_L_law_b23 L xs n v1 v2 v3 (v4 + 4) q252.2)
                                else
                                (
                                 some 0))
                               else
                               (
                                f_L_law_b23 L xs n v1 v2 v3 (v4 + 4) q252.2))
                              else
                              (
                               some 0))
                             else
                             (
                              if (x1 &&& 63) = 27 then
                              (
                               (scr L xs (v4 + 1)).bind fun x256 =>
                               (f_L_suggested v1 x256 v3 hs).bind fun q257 =>
                               (scr L xs (v4 + 1)).bind fun x258 =>
                               (chk q257.2 v2 9).bind fun u259 =>
                               (f_X9_suggested v2 x258 q257.2).bind fun q260 =>
                               (chk q260.2 v2 9).bind fun u261 =>
                               (f_X9_thrown v2 q260.2).bind fun x262 =>
                               if x262 = q257.1 then
                               (
                                if q257.1 = 0 then
                                (
                                 (aL q260.2 v3 0).bind fun x263 =>
                                 if (lg_cmp x263 (Int32.toInt64 q260.1)) = 0 then
                                 (
                                  f_L_law_b23 L xs n v1 v2 v3 (v4 + 4) q260.2)
                                 else
                                 (
                                  some 0))
                                else
                                (
                                 f_L_law_b23 L xs n v1 v2 v3 (v4 + 4) q260.2))
                               else
                               (
                                some 0))
                              else
                              (
                               if (x1 &&& 63) = 28 then
                               (
                                (f_L_adopt v1 v3 hs).bind fun q264 =>
                                (chk q264.2 v2 9).bind fun u265 =>
                                (f_X9_adopt v2 q264.2).bind fun q266 =>
                                (chk q266.2 v2 9).bind fun u267 =>
                                (f_X9_thrown v2 q266.2).bind fun x268 =>
                                if x268 = q264.1 then
                                (
                                 if q264.1 = 0 then
                                 (
                                  (aL q266.2 v3 0).bind fun x269 =>
                                  if (lg_cmp x269 (Int32.toInt64 q266.1)) = 0 then
                                  (
                                   f_L_law_b23 L xs n v1 v2 v3 (v4 + 4) q266.2)
                                  else
                                  (
                                   some 0))
                                 else
                                 (
                                  f_L_law_b23 L xs n v1 v2 v3 (v4 + 4) q266.2))
                                else
                                (
                                 some 0))
                               else
                               (
                                if (x1 &&& 63) = 29 then
                                (
                                 (scr L xs (v4 + 1)).bind fun x270 =>
                                 (f_L_count v1 x270 v3 hs).bind fun q271 =>
                                 (scr L xs (v4 + 1)).bind fun x272 =>
                                 (chk q271.2 v2 9).bind fun u273 =>
                                 (f_X9_count v2 x272 q271.2).bind fun q274 =>
                                 (chk q274.2 v2 9).bind fun u275 =>
                                 (f_X9_thrown v2 q274.2).bind fun x276 =>
                                 if x276 = q271.1 then
                                 (
                                  if q271.1 = 0 then
                                  (
                                   (aL q274.2 v3 0).bind fun x277 =>
                                   if (lg_cmp x277 (Int32.toInt64 q274.1)) = 0 then
                                   (
                                    f_L_law_b23 L xs n v1 v2 v3 (v4 + 4) q274.2)
                                   else
                                   (
                                    some 0))
                                  else
                                  (
                                   f_L_law_b23 L xs n v1 v2 v3 (v4 + 4) q274.2))
                                 else
                                 (
                                  some 0))
                                else
                                (
                                 if (x1 &&& 63) = 30 then
                                 (
                                  (f_L_undo v1 v3 hs).bind fun q278 =>
                                  (chk q278.2 v2 9).bind fun u279 =>
                                  (f_X9_undo v2 q278.2).bind fun q280 =>
                                  (chk q280.2 v2 9).bind fun u281 =>
                                  (f_X9_thrown v2 q280.2).bind fun x282 =>
                                  if x282 = q278.1 then
                                  (
                                   if q278.1 = 0 then
                                   (
                                    (aL q280.2 v3 0).bind fun x283 =>
                                    if (lg_cmp x283 (Int32.toInt64 q280.1)) = 0 then
                                    (
                                     f_L_law_b23 L xs n v1 v2 v3 (v4 + 4) q280.2)
                                    else
                                    (
                                     some 0))
                                   else
                                   (
                                    f_L_law_b23 L xs n v1 v2 v3 (v4 + 4) q280.2))
                                  else
                                  (
                                   some 0))
                                 else
                                 (
                                  if (x1 &&& 63) = 31 then
                                  (
                                   (chk hs v1 8).bind fun u284 =>
                                   (f_X8_save v1 hs).bind fun q285 =>
                                   (chk q285.2 v2 9).bind fun u286 =>
                                   (f_X9_save v2 q285.2).bind fun q287 =>
                                   if q285.1 = q287.1 then
                                   (
                                    f_L_law_b23 L xs n v1 v2 v3 (v4 + 4) q287.2)
                                   else
                                   (
                                    some 0))
                                  else
                                  (
                                   if (x1 &&& 63) = 32 then
                                   (
                                    (f_L_restore v1 v3 hs).bind fun q288 =>
                                    (chk q288.2 v2 9).bind fun u289 =>
                                    (f_X9_restore v2 q288.2).bind fun q290 =>
                                    (chk q290.2 v2 9).bind fun u291 =>
                                    (f_X9_thrown v2 q290.2).bind fun x292 =>
                                    if x292 = q288.1 then
                                    (
                                     if q288.1 = 0 then
                                     (
                                      (aL q290.2 v3 0).bind fun x293 =>
                                      if (lg_cmp x293 (Int32.toInt64 q290.1)) = 0 then
                                      (
                                       f_L_law_b23 L xs n v1 v2 v3 (v4 + 4) q290.2)
                                      else
                                      (
                                       some 0))
                                     else
                                     (
                                      f_L_law_b23 L xs n v1 v2 v3 (v4 + 4) q290.2))
                                    else
                                    (
                                     some 0))
                                   else
                                   (
                                    f_L_law_b23 L xs n v1 v2 v3 (v4 + 4) hs))))))))))))))))))))))))))))))))))
set_option maxHeartbeats 40000000 in
set_option maxRecDepth 100000 in
theorem w_L_law_b23 {K : WK} {p : Program} {l : Launch} {e : Env} {s : State} {m : MethodId} {below : List Frame} {meth : Method} {c : Code} {b L : Nat} {xs : Nat → Int32} (C : Cx K p s m #[Value.ref b] meth c RL code 8 ret) (hl9 : l.stackTraces = false) (hX : va_X b L xs s s.heap) (hbl : b < s.heap.size) (hbA : ¬ kAx K b) (hB : kB K = s.heap.size) :
    ∀ (n : Nat) (v1 v2 v3 : Nat) (v4 : Int32) (hs : AH) (H : Heap) (locs : List Loc) (ls : Array Slot) (cells slots : Nat), cells + n * 4 ≤ 603072 → slots + n * 24 ≤ 7178346 → f_L_law_b23 L xs n v1 v2 v3 v4 hs = some 1 → Rl K s hs H locs → lv_has ls 8 [(0, .ref b), (1, .ref (kA K v1)), (2, .ref (kA K v2)), (3, .ref (kA K v3)), (4, .int v4)] → W p l e room_1 s m #[Value.ref b] below meth c H locs cells slots (lw_Z below #[Value.ref b] s) (F0 m 23 ls []) := by
  have hx := C.1
  have hb := C.2.1
  intro n
  induction n with
  | zero =>
    intro v1 v2 v3 v4 hs H locs ls cells slots hk1 hk2 hf
    cases hf
  | succ n ih =>
    intro v1 v2 v3 v4 hs H locs ls cells slots hk1 hk2 hf hR hl
    rw [f_L_law_b23.eq_2] at hf
    refine lv_iload hx hb dL_law_23 (lv_at hl 4 rfl) ?_
    refine lv_aload_n hx hb dL_law_25 rfl (lv_at hl 0 rfl) ?_
    refine r_slen C hR hX hbl hbA dL_law_26 ?_
    refine lv_iconst (v := 4) hx hb dL_law_27 (by decide) ?_
    refine lv_isub hx hb dL_law_28 ?_
    refine lv_icmp_gt (tgt := 2000) hx hb dL_law_29 (by decide) (fun c29 => ?_) (fun c29 => ?_)
    · have hf := ip hf c29
      refine lv_iconst (v := 1) hx hb dL_law_2000 (by decide) ?_
      exact law_end C hR hB (by omega) (by omega) dL_law_2001
    · have hf := iq hf c29
      refine lv_aload_n hx hb dL_law_32 rfl (lv_at hl 0 rfl) ?_
      refine lv_iload hx hb dL_law_33 (lv_at hl 4 rfl) ?_
      obtain ⟨x1, hx1, hf⟩ := ob hf
      refine r_sld C hR hX hbl hbA hx1 dL_law_35 ?_
      refine lv_bipush (v := 63) hx hb dL_law_36 (by decide) ?_
      refine lv_iand hx hb dL_law_38 ?_
      by_cases c39_0 : (x1 &&& 63) = 0
      · have hf := ip hf c39_0
        refine lv_tableIn (tgt := 184) (off := 145) hx hb dL_law_39 (by rw [c39_0]; decide) (by rw [c39_0]; decide) (by rw [c39_0]; decide +kernel) (by decide) ?_
        refine lv_aload_n hx hb dL_law_184 rfl (lv_at hl 1 rfl) ?_
        refine lv_aload_n hx hb dL_law_185 rfl (lv_at hl 0 rfl) ?_
        refine lv_iload hx hb dL_law_186 (lv_at hl 4 rfl) ?_
        refine lv_iconst (v := 1) hx hb dL_law_188 (by decide) ?_
        refine lv_iadd hx hb dL_law_189 ?_
        obtain ⟨x2, hx2, hf⟩ := ob hf
        refine r_sld C hR hX hbl hbA hx2 dL_law_190 ?_
        refine lv_aload_n hx hb dL_law_191 rfl (lv_at hl 3 rfl) ?_
        obtain ⟨q3, hq3, hf⟩ := ob hf
        refine r_callSW (As := [.ref (kA K v1), .int x2, .ref (kA K v3)]) (rest := []) (st1 := [.int q3.1]) C hR (lv_sub hl [] rfl) (c_L_append hl9 hq3) ms_L_append ml_L_121 ⟨rfl, rfl, (Nat.le_of_ble_eq_true rfl), (Nat.le_of_ble_eq_true rfl)⟩ rfl rfl rfl (Nat.le_of_ble_eq_true rfl) ⟨by show _ ≤ 603072; omega, by show _ ≤ 7178346; omega⟩ dL_law_192 (fun H locs hR => ?_)
        refine lv_istore (lv' := [(5, .int q3.1), (0, .ref b), (1, .ref (kA K v1)), (2, .ref (kA K v2)), (3, .ref (kA K v3)), (4, .int v4)]) hx hb dL_law_195 hl (by decide) rfl (fun ls hl => ?_)
        refine lv_aload_n hx hb dL_law_197 rfl (lv_at hl 3 rfl) ?_
        refine lv_aload_n hx hb dL_law_198 rfl (lv_at hl 1 rfl) ?_
        refine lv_iload hx hb dL_law_199 (lv_at hl 5 rfl) ?_
        refine lv_iconst (v := 1) hx hb dL_law_201 (by decide) ?_
        refine lv_iadd hx hb dL_law_202 ?_
        obtain ⟨x4, hx4, hf⟩ := ob hf
        refine r_sld C hR hX hbl hbA hx4 dL_law_203 ?_
        obtain ⟨u5, hu5, hf⟩ := ob hf
        obtain ⟨q6, hq6, hf⟩ := ob hf
        refine r_callV (As := [.int x4]) (rest := []) (st1 := [.int q6.1]) C hR (lv_sub hl [] rfl) (c_X9_append hq6) mv_X9_append ml_L_126 ⟨rfl, rfl, (Nat.le_of_ble_eq_true rfl), (Nat.le_of_ble_eq_true rfl)⟩ (rv_obj C hR hu5 (q := (RX9, TX9, 17)) rfl) rfl rfl rfl (Nat.le_of_ble_eq_true rfl) ⟨by show _ ≤ 603072; omega, by show _ ≤ 7178346; omega⟩ dL_law_204 (fun H locs hR => ?_)
        refine lv_istore (lv' := [(6, .int q6.1), (5, .int q3.1), (0, .ref b), (1, .ref (kA K v1)), (2, .ref (kA K v2)), (3, .ref (kA K v3)), (4, .int v4)]) hx hb dL_law_207 hl (by decide) rfl (fun ls hl => ?_)
        refine lv_aload_n hx hb dL_law_209 rfl (lv_at hl 4 rfl) ?_
        obtain ⟨u7, hu7, hf⟩ := ob hf
        obtain ⟨x8, hx8, hf⟩ := ob hf
        refine r_callV (As := []) (rest := []) (st1 := [.int x8]) C hR (lv_sub hl [] rfl) (c_X9_thrown hx8) mv_X9_thrown ml_L_127 ⟨rfl, rfl, (Nat.le_of_ble_eq_true rfl), (Nat.le_of_ble_eq_true rfl)⟩ (rv_obj C hR hu7 (q := (RX9, TX9, 17)) rfl) rfl rfl rfl (Nat.le_of_ble_eq_true rfl) ⟨by show _ ≤ 603072; omega, by show _ ≤ 7178346; omega⟩ dL_law_210 (fun H locs hR => ?_)
        refine lv_iload hx hb dL_law_213 (lv_at hl 1 rfl) ?_
        refine lv_icmp_eq (tgt := 220) hx hb dL_law_215 (by decide) (fun c215 => ?_) (fun c215 => ?_)
        · have hf := ip hf c215
          refine lv_iload hx hb dL_law_220 (lv_at hl 1 rfl) ?_
          refine lv_if_ne (tgt := 237) hx hb dL_law_222 (by decide) (fun c222 => ?_) (fun c222 => ?_)
          · have hf := iq hf c222
            refine lv_goto (tgt := 1994) hx hb dL_law_237 (by decide) ?_
            refine lv_iinc (v := v4 + 4) (lv' := [(4, .int (v4 + 4)), (6, .int q6.1), (5, .int q3.1), (0, .ref b), (1, .ref (kA K v1)), (2, .ref (kA K v2)), (3, .ref (kA K v3))]) hx hb dL_law_1994 hl (k := 6) rfl rfl (by decide) rfl (fun ls hl => ?_)
            refine lv_goto (tgt := 23) hx hb dL_law_1997 (by decide) ?_
            exact ih _ _ _ _ _ _ _ _ _ _ (by omega) (by omega) hf hR (lv_sub hl [3, 4, 5, 6, 0] rfl)
          · have hf := ip hf c222
            refine lv_aload_n hx hb dL_law_225 rfl (lv_at hl 5 rfl) ?_
            refine lv_iconst (v := 0) hx hb dL_law_226 (by decide) ?_
            obtain ⟨x9, hx9, hf⟩ := ob hf
            refine r_lald C hR hx9 dL_law_227 ?_
            refine lv_iload hx hb dL_law_228 (lv_at hl 0 rfl) ?_
            refine lv_i2l (v := (Int32.toInt64 q6.1)) hx hb dL_law_230 rfl ?_
            refine W.lcmp hx hb dL_law_231 ?_
            refine lv_if_eq (tgt := 237) hx hb dL_law_232 (by decide) (fun c232 => ?_) (fun c232 => ?_)
            · have hf := ip hf c232
              refine lv_goto (tgt := 1994) hx hb dL_law_237 (by decide) ?_
              refine lv_iinc (v := v4 + 4) (lv' := [(4, .int (v4 + 4)), (6, .int q6.1), (5, .int q3.1), (0, .ref b), (1, .ref (kA K v1)), (2, .ref (kA K v2)), (3, .ref (kA K v3))]) hx hb dL_law_1994 hl (k := 6) rfl rfl (by decide) rfl (fun ls hl => ?_)
              refine lv_goto (tgt := 23) hx hb dL_law_1997 (by decide) ?_
              exact ih _ _ _ _ _ _ _ _ _ _ (by omega) (by omega) hf hR (lv_sub hl [3, 4, 5, 6, 0] rfl)
            · have hf := iq hf c232
              refine lv_iconst (v := 0) hx hb dL_law_235 (by decide) ?_
              exact absurd (Option.some.inj hf) (by decide)
        · have hf := iq hf c215
          refine lv_iconst (v := 0) hx hb dL_law_218 (by decide) ?_
          exact absurd (Option.some.inj hf) (by decide)
      · have hf := iq hf c39_0
        by_cases c39_1 : (x1 &&& 63) = 1
        · have hf := ip hf c39_1
          refine lv_tableIn (tgt := 240) (off := 201) hx hb dL_law_39 (by rw [c39_1]; decide) (by rw [c39_1]; decide) (by rw [c39_1]; decide +kernel) (by decide) ?_
          refine lv_aload_n hx hb dL_law_240 rfl (lv_at hl 1 rfl) ?_
          refine lv_aload_n hx hb dL_law_241 rfl (lv_at hl 3 rfl) ?_
          obtain ⟨q10, hq10, hf⟩ := ob hf
          refine r_callSW (As := [.ref (kA K v1), .ref (kA K v3)]) (rest := []) (st1 := [.int q10.1]) C hR (lv_sub hl [] rfl) (c_L_cantus hl9 hq10) ms_L_cantus ml_L_130 ⟨rfl, rfl, (Nat.le_of_ble_eq_true rfl), (Nat.le_of_ble_eq_true rfl)⟩ rfl rfl rfl (Nat.le_of_ble_eq_true rfl) ⟨by show _ ≤ 603072; omega, by show _ ≤ 7178346; omega⟩ dL_law_242 (fun H locs hR => ?_)
          refine lv_istore (lv' := [(5, .int q10.1), (0, .ref b), (1, .ref (kA K v1)), (2, .ref (kA K v2)), (3, .ref (kA K v3)), (4, .int v4)]) hx hb dL_law_245 hl (by decide) rfl (fun ls hl => ?_)
          refine lv_aload_n hx hb dL_law_247 rfl (lv_at hl 3 rfl) ?_
          obtain ⟨u11, hu11, hf⟩ := ob hf
          obtain ⟨q12, hq12, hf⟩ := ob hf
          refine r_callV (As := []) (rest := []) (st1 := [.int q12.1]) C hR (lv_sub hl [] rfl) (c_X9_cantus hq12) mv_X9_cantus ml_L_133 ⟨rfl, rfl, (Nat.le_of_ble_eq_true rfl), (Nat.le_of_ble_eq_true rfl)⟩ (rv_obj C hR hu11 (q := (RX9, TX9, 17)) rfl) rfl rfl rfl (Nat.le_of_ble_eq_true rfl) ⟨by show _ ≤ 603072; omega, by show _ ≤ 7178346; omega⟩ dL_law_248 (fun H locs hR => ?_)
          refine lv_istore (lv' := [(6, .int q12.1), (5, .int q10.1), (0, .ref b), (1, .ref (kA K v1)), (2, .ref (kA K v2)), (3, .ref (kA K v3)), (4, .int v4)]) hx hb dL_law_251 hl (by decide) rfl (fun ls hl => ?_)
          refine lv_aload_n hx hb dL_law_253 rfl (lv_at hl 4 rfl) ?_
          obtain ⟨u13, hu13, hf⟩ := ob hf
          obtain ⟨x14, hx14, hf⟩ := ob hf
          refine r_callV (As := []) (rest := []) (st1 := [.int x14]) C hR (lv_sub hl [] rfl) (c_X9_thrown hx14) mv_X9_thrown ml_L_127 ⟨rfl, rfl, (Nat.le_of_ble_eq_true rfl), (Nat.le_of_ble_eq_true rfl)⟩ (rv_obj C hR hu13 (q := (RX9, TX9, 17)) rfl) rfl rfl rfl (Nat.le_of_ble_eq_true rfl) ⟨by show _ ≤ 603072; omega, by show _ ≤ 7178346; omega⟩ dL_law_254 (fun H locs hR => ?_)
          refine lv_iload hx hb dL_law_257 (lv_at hl 1 rfl) ?_
          refine lv_icmp_eq (tgt := 264) hx hb dL_law_259 (by decide) (fun c259 => ?_) (fun c259 => ?_)
          · have hf := ip hf c259
            refine lv_iload hx hb dL_law_264 (lv_at hl 1 rfl) ?_
            refine lv_if_ne (tgt := 281) hx hb dL_law_266 (by decide) (fun c266 => ?_) (fun c266 => ?_)
            · have hf := iq hf c266
              refine lv_goto (tgt := 1994) hx hb dL_law_281 (by decide) ?_
              refine lv_iinc (v := v4 + 4) (lv' := [(4, .int (v4 + 4)), (6, .int q12.1), (5, .int q10.1), (0, .ref b), (1, .ref (kA K v1)), (2, .ref (kA K v2)), (3, .ref (kA K v3))]) hx hb dL_law_1994 hl (k := 6) rfl rfl (by decide) rfl (fun ls hl => ?_)
              refine lv_goto (tgt := 23) hx hb dL_law_1997 (by decide) ?_
              exact ih _ _ _ _ _ _ _ _ _ _ (by omega) (by omega) hf hR (lv_sub hl [3, 4, 5, 6, 0] rfl)
            · have hf := ip hf c266
              refine lv_aload_n hx hb dL_law_269 rfl (lv_at hl 5 rfl) ?_
              refine lv_iconst (v := 0) hx hb dL_law_270 (by decide) ?_
              obtain ⟨x15, hx15, hf⟩ := ob hf
              refine r_lald C hR hx15 dL_law_271 ?_
              refine lv_iload hx hb dL_law_272 (lv_at hl 0 rfl) ?_
              refine lv_i2l (v := (Int32.toInt64 q12.1)) hx hb dL_law_274 rfl ?_
              refine W.lcmp hx hb dL_law_275 ?_
              refine lv_if_eq (tgt := 281) hx hb dL_law_276 (by decide) (fun c276 => ?_) (fun c276 => ?_)
              · have hf := ip hf c276
                refine lv_goto (tgt := 1994) hx hb dL_law_281 (by decide) ?_
                refine lv_iinc (v := v4 + 4) (lv' := [(4, .int (v4 + 4)), (6, .int q12.1), (5, .int q10.1), (0, .ref b), (1, .ref (kA K v1)), (2, .ref (kA K v2)), (3, .ref (kA K v3))]) hx hb dL_law_1994 hl (k := 6) rfl rfl (by decide) rfl (fun ls hl => ?_)
                refine lv_goto (tgt := 23) hx hb dL_law_1997 (by decide) ?_
                exact ih _ _ _ _ _ _ _ _ _ _ (by omega) (by omega) hf hR (lv_sub hl [3, 4, 5, 6, 0] rfl)
              · have hf := iq hf c276
                refine lv_iconst (v := 0) hx hb dL_law_279 (by decide) ?_
                exact absurd (Option.some.inj hf) (by decide)
          · have hf := iq hf c259
            refine lv_iconst (v := 0) hx hb dL_law_262 (by decide) ?_
            exact absurd (Option.some.inj hf) (by decide)
        · have hf := iq hf c39_1
          by_cases c39_2 : (x1 &&& 63) = 2
          · have hf := ip hf c39_2
            refine lv_tableIn (tgt := 284) (off := 245) hx hb dL_law_39 (by rw [c39_2]; decide) (by rw [c39_2]; decide) (by rw [c39_2]; decide +kernel) (by decide) ?_
            refine lv_aload_n hx hb dL_law_284 rfl (lv_at hl 1 rfl) ?_
            refine lv_aload_n hx hb dL_law_285 rfl (lv_at hl 3 rfl) ?_
            obtain ⟨q16, hq16, hf⟩ := ob hf
            refine r_callSW (As := [.ref (kA K v1), .ref (kA K v3)]) (rest := []) (st1 := [.int q16.1]) C hR (lv_sub hl [] rfl) (c_L_counterpoint hl9 hq16) ms_L_counterpoint ml_L_134 ⟨rfl, rfl, (Nat.le_of_ble_eq_true rfl), (Nat.le_of_ble_eq_true rfl)⟩ rfl rfl rfl (Nat.le_of_ble_eq_true rfl) ⟨by show _ ≤ 603072; omega, by show _ ≤ 7178346; omega⟩ dL_law_286 (fun H locs hR => ?_)
            refine lv_istore (lv' := [(5, .int q16.1), (0, .ref b), (1, .ref (kA K v1)), (2, .ref (kA K v2)), (3, .ref (kA K v3)), (4, .int v4)]) hx hb dL_law_289 hl (by decide) rfl (fun ls hl => ?_)
            refine lv_aload_n hx hb dL_law_291 rfl (lv_at hl 3 rfl) ?_
            obtain ⟨u17, hu17, hf⟩ := ob hf
            obtain ⟨q18, hq18, hf⟩ := ob hf
            refine r_callV (As := []) (rest := []) (st1 := [.int q18.1]) C hR (lv_sub hl [] rfl) (c_X9_counterpoint hq18) mv_X9_counterpoint ml_L_136 ⟨rfl, rfl, (Nat.le_of_ble_eq_true rfl), (Nat.le_of_ble_eq_true rfl)⟩ (rv_obj C hR hu17 (q := (RX9, TX9, 17)) rfl) rfl rfl rfl (Nat.le_of_ble_eq_true rfl) ⟨by show _ ≤ 603072; omega, by show _ ≤ 7178346; omega⟩ dL_law_292 (fun H locs hR => ?_)
            refine lv_istore (lv' := [(6, .int q18.1), (5, .int q16.1), (0, .ref b), (1, .ref (kA K v1)), (2, .ref (kA K v2)), (3, .ref (kA K v3)), (4, .int v4)]) hx hb dL_law_295 hl (by decide) rfl (fun ls hl => ?_)
            refine lv_aload_n hx hb dL_law_297 rfl (lv_at hl 4 rfl) ?_
            obtain ⟨u19, hu19, hf⟩ := ob hf
            obtain ⟨x20, hx20, hf⟩ := ob hf
            refine r_callV (As := []) (rest := []) (st1 := [.int x20]) C hR (lv_sub hl [] rfl) (c_X9_thrown hx20) mv_X9_thrown ml_L_127 ⟨rfl, rfl, (Nat.le_of_ble_eq_true rfl), (Nat.le_of_ble_eq_true rfl)⟩ (rv_obj C hR hu19 (q := (RX9, TX9, 17)) rfl) rfl rfl rfl (Nat.le_of_ble_eq_true rfl) ⟨by show _ ≤ 603072; omega, by show _ ≤ 7178346; omega⟩ dL_law_298 (fun H locs hR => ?_)
            refine lv_iload hx hb dL_law_301 (lv_at hl 1 rfl) ?_
            refine lv_icmp_eq (tgt := 308) hx hb dL_law_303 (by decide) (fun c303 => ?_) (fun c303 => ?_)
            · have hf := ip hf c303
              refine lv_iload hx hb dL_law_308 (lv_at hl 1 rfl) ?_
              refine lv_if_ne (tgt := 325) hx hb dL_law_310 (by decide) (fun c310 => ?_) (fun c310 => ?_)
              · have hf := iq hf c310
                refine lv_goto (tgt := 1994) hx hb dL_law_325 (by decide) ?_
                refine lv_iinc (v := v4 + 4) (lv' := [(4, .int (v4 + 4)), (6, .int q18.1), (5, .int q16.1), (0, .ref b), (1, .ref (kA K v1)), (2, .ref (kA K v2)), (3, .ref (kA K v3))]) hx hb dL_law_1994 hl (k := 6) rfl rfl (by decide) rfl (fun ls hl => ?_)
                refine lv_goto (tgt := 23) hx hb dL_law_1997 (by decide) ?_
                exact ih _ _ _ _ _ _ _ _ _ _ (by omega) (by omega) hf hR (lv_sub hl [3, 4, 5, 6, 0] rfl)
              · have hf := ip hf c310
                refine lv_aload_n hx hb dL_law_313 rfl (lv_at hl 5 rfl) ?_
                refine lv_iconst (v := 0) hx hb dL_law_314 (by decide) ?_
                obtain ⟨x21, hx21, hf⟩ := ob hf
                refine r_lald C hR hx21 dL_law_315 ?_
                refine lv_iload hx hb dL_law_316 (lv_at hl 0 rfl) ?_
                refine lv_i2l (v := (Int32.toInt64 q18.1)) hx hb dL_law_318 rfl ?_
                refine W.lcmp hx hb dL_law_319 ?_
                refine lv_if_eq (tgt := 325) hx hb dL_law_320 (by decide) (fun c320 => ?_) (fun c320 => ?_)
                · have hf := ip hf c320
                  refine lv_goto (tgt := 1994) hx hb dL_law_325 (by decide) ?_
                  refine lv_iinc (v := v4 + 4) (lv' := [(4, .int (v4 + 4)), (6, .int q18.1), (5, .int q16.1), (0, .ref b), (1, .ref (kA K v1)), (2, .ref (kA K v2)), (3, .ref (kA K v3))]) hx hb dL_law_1994 hl (k := 6) rfl rfl (by decide) rfl (fun ls hl => ?_)
                  refine lv_goto (tgt := 23) hx hb dL_law_1997 (by decide) ?_
                  exact ih _ _ _ _ _ _ _ _ _ _ (by omega) (by omega) hf hR (lv_sub hl [3, 4, 5, 6, 0] rfl)
                · have hf := iq hf c320
                  refine lv_iconst (v := 0) hx hb dL_law_323 (by decide) ?_
                  exact absurd (Option.some.inj hf) (by decide)
            · have hf := iq hf c303
              refine lv_iconst (v := 0) hx hb dL_law_306 (by decide) ?_
              exact absurd (Option.some.inj hf) (by decide)
          · have hf := iq hf c39_2
            by_cases c39_3 : (x1 &&& 63) = 3
            · have hf := ip hf c39_3
              refine lv_tableIn (tgt := 328) (off := 289) hx hb dL_law_39 (by rw [c39_3]; decide) (by rw [c39_3]; decide) (by rw [c39_3]; decide +kernel) (by decide) ?_
              refine lv_aload_n hx hb dL_law_328 rfl (lv_at hl 1 rfl) ?_
              obtain ⟨u22, hu22, hf⟩ := ob hf
              obtain ⟨x23, hx23, hf⟩ := ob hf
              refine r_callV (As := []) (rest := []) (st1 := [.int x23]) C hR (lv_sub hl [] rfl) (c_X8_errorPosition hx23) mv_X8_errorPosition ml_L_137 ⟨rfl, rfl, (Nat.le_of_ble_eq_true rfl), (Nat.le_of_ble_eq_true rfl)⟩ (rv_obj C hR hu22 (q := (RX8, TX8, 11)) rfl) rfl rfl rfl (Nat.le_of_ble_eq_true rfl) ⟨by show _ ≤ 603072; omega, by show _ ≤ 7178346; omega⟩ dL_law_329 (fun H locs hR => ?_)
              refine lv_aload_n hx hb dL_law_332 rfl (lv_at hl 2 rfl) ?_
              obtain ⟨u24, hu24, hf⟩ := ob hf
              obtain ⟨q25, hq25, hf⟩ := ob hf
              refine r_callV (As := []) (rest := [.int x23]) (st1 := [.int q25.1, .int x23]) C hR (lv_sub hl [] rfl) (c_X9_errorPosition hq25) mv_X9_errorPosition ml_L_140 ⟨rfl, rfl, (Nat.le_of_ble_eq_true rfl), (Nat.le_of_ble_eq_true rfl)⟩ (rv_obj C hR hu24 (q := (RX9, TX9, 17)) rfl) rfl rfl rfl (Nat.le_of_ble_eq_true rfl) ⟨by show _ ≤ 603072; omega, by show _ ≤ 7178346; omega⟩ dL_law_333 (fun H locs hR => ?_)
              refine lv_icmp_eq (tgt := 1994) hx hb dL_law_336 (by decide) (fun c336 => ?_) (fun c336 => ?_)
              · have hf := ip hf c336
                refine lv_iinc (v := v4 + 4) (lv' := [(4, .int (v4 + 4)), (0, .ref b), (1, .ref (kA K v1)), (2, .ref (kA K v2)), (3, .ref (kA K v3))]) hx hb dL_law_1994 hl (k := 4) rfl rfl (by decide) rfl (fun ls hl => ?_)
                refine lv_goto (tgt := 23) hx hb dL_law_1997 (by decide) ?_
                exact ih _ _ _ _ _ _ _ _ _ _ (by omega) (by omega) hf hR (lv_sub hl [1, 2, 3, 4, 0] rfl)
              · have hf := iq hf c336
                refine lv_iconst (v := 0) hx hb dL_law_339 (by decide) ?_
                exact absurd (Option.some.inj hf) (by decide)
            · have hf := iq hf c39_3
              by_cases c39_4 : (x1 &&& 63) = 4
              · have hf := ip hf c39_4
                refine lv_tableIn (tgt := 341) (off := 302) hx hb dL_law_39 (by rw [c39_4]; decide) (by rw [c39_4]; decide) (by rw [c39_4]; decide +kernel) (by decide) ?_
                refine lv_aload_n hx hb dL_law_341 rfl (lv_at hl 1 rfl) ?_
                refine lv_aload_n hx hb dL_law_342 rfl (lv_at hl 0 rfl) ?_
                refine lv_iload hx hb dL_law_343 (lv_at hl 4 rfl) ?_
                refine lv_iconst (v := 1) hx hb dL_law_345 (by decide) ?_
                refine lv_iadd hx hb dL_law_346 ?_
                obtain ⟨x26, hx26, hf⟩ := ob hf
                refine r_sld C hR hX hbl hbA hx26 dL_law_347 ?_
                refine lv_aload_n hx hb dL_law_348 rfl (lv_at hl 3 rfl) ?_
                obtain ⟨q27, hq27, hf⟩ := ob hf
                refine r_callSW (As := [.ref (kA K v1), .int x26, .ref (kA K v3)]) (rest := []) (st1 := [.int q27.1]) C hR (lv_sub hl [] rfl) (c_L_setSpecies hl9 hq27) ms_L_setSpecies ml_L_141 ⟨rfl, rfl, (Nat.le_of_ble_eq_true rfl), (Nat.le_of_ble_eq_true rfl)⟩ rfl rfl rfl (Nat.le_of_ble_eq_true rfl) ⟨by show _ ≤ 603072; omega, by show _ ≤ 7178346; omega⟩ dL_law_349 (fun H locs hR => ?_)
                refine lv_istore (lv' := [(5, .int q27.1), (0, .ref b), (1, .ref (kA K v1)), (2, .ref (kA K v2)), (3, .ref (kA K v3)), (4, .int v4)]) hx hb dL_law_352 hl (by decide) rfl (fun ls hl => ?_)
                refine lv_aload_n hx hb dL_law_354 rfl (lv_at hl 3 rfl) ?_
                refine lv_aload_n hx hb dL_law_355 rfl (lv_at hl 1 rfl) ?_
                refine lv_iload hx hb dL_law_356 (lv_at hl 5 rfl) ?_
                refine lv_iconst (v := 1) hx hb dL_law_358 (by decide) ?_
                refine lv_iadd hx hb dL_law_359 ?_
                obtain ⟨x28, hx28, hf⟩ := ob hf
                refine r_sld C hR hX hbl hbA hx28 dL_law_360 ?_
                obtain ⟨u29, hu29, hf⟩ := ob hf
                obtain ⟨q30, hq30, hf⟩ := ob hf
                refine r_callV (As := [.int x28]) (rest := []) (st1 := [.int q30.1]) C hR (lv_sub hl [] rfl) (c_X9_setSpecies hq30) mv_X9_setSpecies ml_L_143 ⟨rfl, rfl, (Nat.le_of_ble_eq_true rfl), (Nat.le_of_ble_eq_true rfl)⟩ (rv_obj C hR hu29 (q := (RX9, TX9, 17)) rfl) rfl rfl rfl (Nat.le_of_ble_eq_true rfl) ⟨by show _ ≤ 603072; omega, by show _ ≤ 7178346; omega⟩ dL_law_361 (fun H locs hR => ?_)
                refine lv_istore (lv' := [(6, .int q30.1), (5, .int q27.1), (0, .ref b), (1, .ref (kA K v1)), (2, .ref (kA K v2)), (3, .ref (kA K v3)), (4, .int v4)]) hx hb dL_law_364 hl (by decide) rfl (fun ls hl => ?_)
                refine lv_aload_n hx hb dL_law_366 rfl (lv_at hl 4 rfl) ?_
                obtain ⟨u31, hu31, hf⟩ := ob hf
                obtain ⟨x32, hx32, hf⟩ := ob hf
                refine r_callV (As := []) (rest := []) (st1 := [.int x32]) C hR (lv_sub hl [] rfl) (c_X9_thrown hx32) mv_X9_thrown ml_L_127 ⟨rfl, rfl, (Nat.le_of_ble_eq_true rfl), (Nat.le_of_ble_eq_true rfl)⟩ (rv_obj C hR hu31 (q := (RX9, TX9, 17)) rfl) rfl rfl rfl (Nat.le_of_ble_eq_true rfl) ⟨by show _ ≤ 603072; omega, by show _ ≤ 7178346; omega⟩ dL_law_367 (fun H locs hR => ?_)
                refine lv_iload hx hb dL_law_370 (lv_at hl 1 rfl) ?_
                refine lv_icmp_eq (tgt := 377) hx hb dL_law_372 (by decide) (fun c372 => ?_) (fun c372 => ?_)
                · have hf := ip hf c372
                  refine lv_iload hx hb dL_law_377 (lv_at hl 1 rfl) ?_
                  refine lv_if_ne (tgt := 394) hx hb dL_law_379 (by decide) (fun c379 => ?_) (fun c379 => ?_)
                  · have hf := iq hf c379
                    refine lv_goto (tgt := 1994) hx hb dL_law_394 (by decide) ?_
                    refine lv_iinc (v := v4 + 4) (lv' := [(4, .int (v4 + 4)), (6, .int q30.1), (5, .int q27.1), (0, .ref b), (1, .ref (kA K v1)), (2, .ref (kA K v2)), (3, .ref (kA K v3))]) hx hb dL_law_1994 hl (k := 6) rfl rfl (by decide) rfl (fun ls hl => ?_)
                    refine lv_goto (tgt := 23) hx hb dL_law_1997 (by decide) ?_
                    exact ih _ _ _ _ _ _ _ _ _ _ (by omega) (by omega) hf hR (lv_sub hl [3, 4, 5, 6, 0] rfl)
                  · have hf := ip hf c379
                    refine lv_aload_n hx hb dL_law_382 rfl (lv_at hl 5 rfl) ?_
                    refine lv_iconst (v := 0) hx hb dL_law_383 (by decide) ?_
                    obtain ⟨x33, hx33, hf⟩ := ob hf
                    refine r_lald C hR hx33 dL_law_384 ?_
                    refine lv_iload hx hb dL_law_385 (lv_at hl 0 rfl) ?_
                    refine lv_i2l (v := (Int32.toInt64 q30.1)) hx hb dL_law_387 rfl ?_
                    refine W.lcmp hx hb dL_law_388 ?_
                    refine lv_if_eq (tgt := 394) hx hb dL_law_389 (by decide) (fun c389 => ?_) (fun c389 => ?_)
                    · have hf := ip hf c389
                      refine lv_goto (tgt := 1994) hx hb dL_law_394 (by decide) ?_
                      refine lv_iinc (v := v4 + 4) (lv' := [(4, .int (v4 + 4)), (6, .int q30.1), (5, .int q27.1), (0, .ref b), (1, .ref (kA K v1)), (2, .ref (kA K v2)), (3, .ref (kA K v3))]) hx hb dL_law_1994 hl (k := 6) rfl rfl (by decide) rfl (fun ls hl => ?_)
                      refine lv_goto (tgt := 23) hx hb dL_law_1997 (by decide) ?_
                      exact ih _ _ _ _ _ _ _ _ _ _ (by omega) (by omega) hf hR (lv_sub hl [3, 4, 5, 6, 0] rfl)
                    · have hf := iq hf c389
                      refine lv_iconst (v := 0) hx hb dL_law_392 (by decide) ?_
                      exact absurd (Option.some.inj hf) (by decide)
                · have hf := iq hf c372
                  refine lv_iconst (v := 0) hx hb dL_law_375 (by decide) ?_
                  exact absurd (Option.some.inj hf) (by decide)
              · have hf := iq hf c39_4
                by_cases c39_5 : (x1 &&& 63) = 5
                · have hf := ip hf c39_5
                  refine lv_tableIn (tgt := 397) (off := 358) hx hb dL_law_39 (by rw [c39_5]; decide) (by rw [c39_5]; decide) (by rw [c39_5]; decide +kernel) (by decide) ?_
                  refine lv_aload_n hx hb dL_law_397 rfl (lv_at hl 1 rfl) ?_
                  refine lv_aload_n hx hb dL_law_398 rfl (lv_at hl 0 rfl) ?_
                  refine lv_iload hx hb dL_law_399 (lv_at hl 4 rfl) ?_
                  refine lv_iconst (v := 1) hx hb dL_law_401 (by decide) ?_
                  refine lv_iadd hx hb dL_law_402 ?_
                  obtain ⟨x34, hx34, hf⟩ := ob hf
                  refine r_sld C hR hX hbl hbA hx34 dL_law_403 ?_
                  refine lv_if_eq (tgt := 411) hx hb dL_law_404 (by decide) (fun c404 => ?_) (fun c404 => ?_)
                  · have hf := ip hf c404
                    refine lv_iconst (v := 0) hx hb dL_law_411 (by decide) ?_
                    obtain ⟨u35, hu35, hf⟩ := ob hf
                    obtain ⟨q36, hq36, hf⟩ := ob hf
                    refine r_callV (As := [.int 0]) (rest := []) (st1 := [.int q36.1]) C hR (lv_sub hl [] rfl) (c_X8_setPosition hq36) mv_X8_setPosition ml_L_144 ⟨rfl, rfl, (Nat.le_of_ble_eq_true rfl), (Nat.le_of_ble_eq_true rfl)⟩ (rv_obj C hR hu35 (q := (RX8, TX8, 11)) rfl) rfl rfl rfl (Nat.le_of_ble_eq_true rfl) ⟨by show _ ≤ 603072; omega, by show _ ≤ 7178346; omega⟩ dL_law_412 (fun H locs hR => ?_)
                    refine lv_aload_n hx hb dL_law_415 rfl (lv_at hl 2 rfl) ?_
                    refine lv_aload_n hx hb dL_law_416 rfl (lv_at hl 0 rfl) ?_
                    refine lv_iload hx hb dL_law_417 (lv_at hl 4 rfl) ?_
                    refine lv_iconst (v := 1) hx hb dL_law_419 (by decide) ?_
                    refine lv_iadd hx hb dL_law_420 ?_
                    obtain ⟨x37, hx37, hf⟩ := ob hf
                    refine r_sld C hR hX hbl hbA hx37 dL_law_421 ?_
                    refine lv_if_eq (tgt := 429) hx hb dL_law_422 (by decide) (fun c422 => ?_) (fun c422 => ?_)
                    · have hf := ip hf c422
                      refine lv_iconst (v := 0) hx hb dL_law_429 (by decide) ?_
                      obtain ⟨u38, hu38, hf⟩ := ob hf
                      obtain ⟨q39, hq39, hf⟩ := ob hf
                      refine r_callV (As := [.int 0]) (rest := [.int q36.1]) (st1 := [.int q39.1, .int q36.1]) C hR (lv_sub hl [] rfl) (c_X9_setPosition hq39) mv_X9_setPosition ml_L_148 ⟨rfl, rfl, (Nat.le_of_ble_eq_true rfl), (Nat.le_of_ble_eq_true rfl)⟩ (rv_obj C hR hu38 (q := (RX9, TX9, 17)) rfl) rfl rfl rfl (Nat.le_of_ble_eq_true rfl) ⟨by show _ ≤ 603072; omega, by show _ ≤ 7178346; omega⟩ dL_law_430 (fun H locs hR => ?_)
                      refine lv_icmp_eq (tgt := 1994) hx hb dL_law_433 (by decide) (fun c433 => ?_) (fun c433 => ?_)
                      · have hf := ip hf c433
                        refine lv_iinc (v := v4 + 4) (lv' := [(4, .int (v4 + 4)), (0, .ref b), (1, .ref (kA K v1)), (2, .ref (kA K v2)), (3, .ref (kA K v3))]) hx hb dL_law_1994 hl (k := 4) rfl rfl (by decide) rfl (fun ls hl => ?_)
                        refine lv_goto (tgt := 23) hx hb dL_law_1997 (by decide) ?_
                        exact ih _ _ _ _ _ _ _ _ _ _ (by omega) (by omega) hf hR (lv_sub hl [1, 2, 3, 4, 0] rfl)
                      · have hf := iq hf c433
                        refine lv_iconst (v := 0) hx hb dL_law_436 (by decide) ?_
                        exact absurd (Option.some.inj hf) (by decide)
                    · have hf := iq hf c422
                      refine lv_iconst (v := 1) hx hb dL_law_425 (by decide) ?_
                      refine lv_goto (tgt := 430) hx hb dL_law_426 (by decide) ?_
                      obtain ⟨u40, hu40, hf⟩ := ob hf
                      obtain ⟨q41, hq41, hf⟩ := ob hf
                      refine r_callV (As := [.int 1]) (rest := [.int q36.1]) (st1 := [.int q41.1, .int q36.1]) C hR (lv_sub hl [] rfl) (c_X9_setPosition hq41) mv_X9_setPosition ml_L_148 ⟨rfl, rfl, (Nat.le_of_ble_eq_true rfl), (Nat.le_of_ble_eq_true rfl)⟩ (rv_obj C hR hu40 (q := (RX9, TX9, 17)) rfl) rfl rfl rfl (Nat.le_of_ble_eq_true rfl) ⟨by show _ ≤ 603072; omega, by show _ ≤ 7178346; omega⟩ dL_law_430 (fun H locs hR => ?_)
                      refine lv_icmp_eq (tgt := 1994) hx hb dL_law_433 (by decide) (fun c433 => ?_) (fun c433 => ?_)
                      · have hf := ip hf c433
                        refine lv_iinc (v := v4 + 4) (lv' := [(4, .int (v4 + 4)), (0, .ref b), (1, .ref (kA K v1)), (2, .ref (kA K v2)), (3, .ref (kA K v3))]) hx hb dL_law_1994 hl (k := 4) rfl rfl (by decide) rfl (fun ls hl => ?_)
                        refine lv_goto (tgt := 23) hx hb dL_law_1997 (by decide) ?_
                        exact ih _ _ _ _ _ _ _ _ _ _ (by omega) (by omega) hf hR (lv_sub hl [1, 2, 3, 4, 0] rfl)
                      · have hf := iq hf c433
                        refine lv_iconst (v := 0) hx hb dL_law_436 (by decide) ?_
                        exact absurd (Option.some.inj hf) (by decide)
                  · have hf := iq hf c404
                    refine lv_iconst (v := 1) hx hb dL_law_407 (by decide) ?_
                    refine lv_goto (tgt := 412) hx hb dL_law_408 (by decide) ?_
                    obtain ⟨u42, hu42, hf⟩ := ob hf
                    obtain ⟨q43, hq43, hf⟩ := ob hf
                    refine r_callV (As := [.int 1]) (rest := []) (st1 := [.int q43.1]) C hR (lv_sub hl [] rfl) (c_X8_setPosition hq43) mv_X8_setPosition ml_L_144 ⟨rfl, rfl, (Nat.le_of_ble_eq_true rfl), (Nat.le_of_ble_eq_true rfl)⟩ (rv_obj C hR hu42 (q := (RX8, TX8, 11)) rfl) rfl rfl rfl (Nat.le_of_ble_eq_true rfl) ⟨by show _ ≤ 603072; omega, by show _ ≤ 7178346; omega⟩ dL_law_412 (fun H locs hR => ?_)
                    refine lv_aload_n hx hb dL_law_415 rfl (lv_at hl 2 rfl) ?_
                    refine lv_aload_n hx hb dL_law_416 rfl (lv_at hl 0 rfl) ?_
                    refine lv_iload hx hb dL_law_417 (lv_at hl 4 rfl) ?_
                    refine lv_iconst (v := 1) hx hb dL_law_419 (by decide) ?_
                    refine lv_iadd hx hb dL_law_420 ?_
                    obtain ⟨x44, hx44, hf⟩ := ob hf
                    refine r_sld C hR hX hbl hbA hx44 dL_law_421 ?_
                    refine lv_if_eq (tgt := 429) hx hb dL_law_422 (by decide) (fun c422 => ?_) (fun c422 => ?_)
                    · have hf := ip hf c422
                      refine lv_iconst (v := 0) hx hb dL_law_429 (by decide) ?_
                      obtain ⟨u45, hu45, hf⟩ := ob hf
                      obtain ⟨q46, hq46, hf⟩ := ob hf
                      refine r_callV (As := [.int 0]) (rest := [.int q43.1]) (st1 := [.int q46.1, .int q43.1]) C hR (lv_sub hl [] rfl) (c_X9_setPosition hq46) mv_X9_setPosition ml_L_148 ⟨rfl, rfl, (Nat.le_of_ble_eq_true rfl), (Nat.le_of_ble_eq_true rfl)⟩ (rv_obj C hR hu45 (q := (RX9, TX9, 17)) rfl) rfl rfl rfl (Nat.le_of_ble_eq_true rfl) ⟨by show _ ≤ 603072; omega, by show _ ≤ 7178346; omega⟩ dL_law_430 (fun H locs hR => ?_)
                      refine lv_icmp_eq (tgt := 1994) hx hb dL_law_433 (by decide) (fun c433 => ?_) (fun c433 => ?_)
                      · have hf := ip hf c433
                        refine lv_iinc (v := v4 + 4) (lv' := [(4, .int (v4 + 4)), (0, .ref b), (1, .ref (kA K v1)), (2, .ref (kA K v2)), (3, .ref (kA K v3))]) hx hb dL_law_1994 hl (k := 4) rfl rfl (by decide) rfl (fun ls hl => ?_)
                        refine lv_goto (tgt := 23) hx hb dL_law_1997 (by decide) ?_
                        exact ih _ _ _ _ _ _ _ _ _ _ (by omega) (by omega) hf hR (lv_sub hl [1, 2, 3, 4, 0] rfl)
                      · have hf := iq hf c433
                        refine lv_iconst (v := 0) hx hb dL_law_436 (by decide) ?_
                        exact absurd (Option.some.inj hf) (by decide)
                    · have hf := iq hf c422
                      refine lv_iconst (v := 1) hx hb dL_law_425 (by decide) ?_
                      refine lv_goto (tgt := 430) hx hb dL_law_426 (by decide) ?_
                      obtain ⟨u47, hu47, hf⟩ := ob hf
                      obtain ⟨q48, hq48, hf⟩ := ob hf
                      refine r_callV (As := [.int 1]) (rest := [.int q43.1]) (st1 := [.int q48.1, .int q43.1]) C hR (lv_sub hl [] rfl) (c_X9_setPosition hq48) mv_X9_setPosition ml_L_148 ⟨rfl, rfl, (Nat.le_of_ble_eq_true rfl), (Nat.le_of_ble_eq_true rfl)⟩ (rv_obj C hR hu47 (q := (RX9, TX9, 17)) rfl) rfl rfl rfl (Nat.le_of_ble_eq_true rfl) ⟨by show _ ≤ 603072; omega, by show _ ≤ 7178346; omega⟩ dL_law_430 (fun H locs hR => ?_)
                      refine lv_icmp_eq (tgt := 1994) hx hb dL_law_433 (by decide) (fun c433 => ?_) (fun c433 => ?_)
                      · have hf := ip hf c433
                        refine lv_iinc (v := v4 + 4) (lv' := [(4, .int (v4 + 4)), (0, .ref b), (1, .ref (kA K v1)), (2, .ref (kA K v2)), (3, .ref (kA K v3))]) hx hb dL_law_1994 hl (k := 4) rfl rfl (by decide) rfl (fun ls hl => ?_)
                        refine lv_goto (tgt := 23) hx hb dL_law_1997 (by decide) ?_
                        exact ih _ _ _ _ _ _ _ _ _ _ (by omega) (by omega) hf hR (lv_sub hl [1, 2, 3, 4, 0] rfl)
                      · have hf := iq hf c433
                        refine lv_iconst (v := 0) hx hb dL_law_436 (by decide) ?_
                        exact absurd (Option.some.inj hf) (by decide)
                · have hf := iq hf c39_5
                  by_cases c39_6 : (x1 &&& 63) = 6
                  · have hf := ip hf c39_6
                    refine lv_tableIn (tgt := 438) (off := 399) hx hb dL_law_39 (by rw [c39_6]; decide) (by rw [c39_6]; decide) (by rw [c39_6]; decide +kernel) (by decide) ?_
                    refine lv_aload_n hx hb dL_law_438 rfl (lv_at hl 1 rfl) ?_
                    refine lv_aload_n hx hb dL_law_439 rfl (lv_at hl 0 rfl) ?_
                    refine lv_iload hx hb dL_law_440 (lv_at hl 4 rfl) ?_
                    refine lv_iconst (v := 1) hx hb dL_law_442 (by decide) ?_
                    refine lv_iadd hx hb dL_law_443 ?_
                    obtain ⟨x49, hx49, hf⟩ := ob hf
                    refine r_sld C hR hX hbl hbA hx49 dL_law_444 ?_
                    refine lv_aload_n hx hb dL_law_445 rfl (lv_at hl 0 rfl) ?_
                    refine lv_iload hx hb dL_law_446 (lv_at hl 4 rfl) ?_
                    refine lv_iconst (v := 2) hx hb dL_law_448 (by decide) ?_
                    refine lv_iadd hx hb dL_law_449 ?_
                    obtain ⟨x50, hx50, hf⟩ := ob hf
                    refine r_sld C hR hX hbl hbA hx50 dL_law_450 ?_
                    refine lv_aload_n hx hb dL_law_451 rfl (lv_at hl 3 rfl) ?_
                    obtain ⟨q51, hq51, hf⟩ := ob hf
                    refine r_callSW (As := [.ref (kA K v1), .int x49, .int x50, .ref (kA K v3)]) (rest := []) (st1 := [.int q51.1]) C hR (lv_sub hl [] rfl) (c_L_set hl9 hq51) ms_L_set ml_L_149 ⟨rfl, rfl, (Nat.le_of_ble_eq_true rfl), (Nat.le_of_ble_eq_true rfl)⟩ rfl rfl rfl (Nat.le_of_ble_eq_true rfl) ⟨by show _ ≤ 603072; omega, by show _ ≤ 7178346; omega⟩ dL_law_452 (fun H locs hR => ?_)
                    refine lv_istore (lv' := [(5, .int q51.1), (0, .ref b), (1, .ref (kA K v1)), (2, .ref (kA K v2)), (3, .ref (kA K v3)), (4, .int v4)]) hx hb dL_law_455 hl (by decide) rfl (fun ls hl => ?_)
                    refine lv_aload_n hx hb dL_law_457 rfl (lv_at hl 3 rfl) ?_
                    refine lv_aload_n hx hb dL_law_458 rfl (lv_at hl 1 rfl) ?_
                    refine lv_iload hx hb dL_law_459 (lv_at hl 5 rfl) ?_
                    refine lv_iconst (v := 1) hx hb dL_law_461 (by decide) ?_
                    refine lv_iadd hx hb dL_law_462 ?_
                    obtain ⟨x52, hx52, hf⟩ := ob hf
                    refine r_sld C hR hX hbl hbA hx52 dL_law_463 ?_
                    refine lv_aload_n hx hb dL_law_464 rfl (lv_at hl 1 rfl) ?_
                    refine lv_iload hx hb dL_law_465 (lv_at hl 5 rfl) ?_
                    refine lv_iconst (v := 2) hx hb dL_law_467 (by decide) ?_
                    refine lv_iadd hx hb dL_law_468 ?_
                    obtain ⟨x53, hx53, hf⟩ := ob hf
                    refine r_sld C hR hX hbl hbA hx53 dL_law_469 ?_
                    obtain ⟨u54, hu54, hf⟩ := ob hf
                    obtain ⟨q55, hq55, hf⟩ := ob hf
                    refine r_callV (As := [.int x52, .int x53]) (rest := []) (st1 := [.int q55.1]) C hR (lv_sub hl [] rfl) (c_X9_set hq55) mv_X9_set ml_L_152 ⟨rfl, rfl, (Nat.le_of_ble_eq_true rfl), (Nat.le_of_ble_eq_true rfl)⟩ (rv_obj C hR hu54 (q := (RX9, TX9, 17)) rfl) rfl rfl rfl (Nat.le_of_ble_eq_true rfl) ⟨by show _ ≤ 603072; omega, by show _ ≤ 7178346; omega⟩ dL_law_470 (fun H locs hR => ?_)
                    refine lv_istore (lv' := [(6, .int q55.1), (5, .int q51.1), (0, .ref b), (1, .ref (kA K v1)), (2, .ref (kA K v2)), (3, .ref (kA K v3)), (4, .int v4)]) hx hb dL_law_473 hl (by decide) rfl (fun ls hl => ?_)
                    refine lv_aload_n hx hb dL_law_475 rfl (lv_at hl 4 rfl) ?_
                    obtain ⟨u56, hu56, hf⟩ := ob hf
                    obtain ⟨x57, hx57, hf⟩ := ob hf
                    refine r_callV (As := []) (rest := []) (st1 := [.int x57]) C hR (lv_sub hl [] rfl) (c_X9_thrown hx57) mv_X9_thrown ml_L_127 ⟨rfl, rfl, (Nat.le_of_ble_eq_true rfl), (Nat.le_of_ble_eq_true rfl)⟩ (rv_obj C hR hu56 (q := (RX9, TX9, 17)) rfl) rfl rfl rfl (Nat.le_of_ble_eq_true rfl) ⟨by show _ ≤ 603072; omega, by show _ ≤ 7178346; omega⟩ dL_law_476 (fun H locs hR => ?_)
                    refine lv_iload hx hb dL_law_479 (lv_at hl 1 rfl) ?_
                    refine lv_icmp_eq (tgt := 486) hx hb dL_law_481 (by decide) (fun c481 => ?_) (fun c481 => ?_)
                    · have hf := ip hf c481
                      refine lv_iload hx hb dL_law_486 (lv_at hl 1 rfl) ?_
                      refine lv_if_ne (tgt := 503) hx hb dL_law_488 (by decide) (fun c488 => ?_) (fun c488 => ?_)
                      · have hf := iq hf c488
                        refine lv_goto (tgt := 1994) hx hb dL_law_503 (by decide) ?_
                        refine lv_iinc (v := v4 + 4) (lv' := [(4, .int (v4 + 4)), (6, .int q55.1), (5, .int q51.1), (0, .ref b), (1, .ref (kA K v1)), (2, .ref (kA K v2)), (3, .ref (kA K v3))]) hx hb dL_law_1994 hl (k := 6) rfl rfl (by decide) rfl (fun ls hl => ?_)
                        refine lv_goto (tgt := 23) hx hb dL_law_1997 (by decide) ?_
                        exact ih _ _ _ _ _ _ _ _ _ _ (by omega) (by omega) hf hR (lv_sub hl [3, 4, 5, 6, 0] rfl)
                      · have hf := ip hf c488
                        refine lv_aload_n hx hb dL_law_491 rfl (lv_at hl 5 rfl) ?_
                        refine lv_iconst (v := 0) hx hb dL_law_492 (by decide) ?_
                        obtain ⟨x58, hx58, hf⟩ := ob hf
                        refine r_lald C hR hx58 dL_law_493 ?_
                        refine lv_iload hx hb dL_law_494 (lv_at hl 0 rfl) ?_
                        refine lv_i2l (v := (Int32.toInt64 q55.1)) hx hb dL_law_496 rfl ?_
                        refine W.lcmp hx hb dL_law_497 ?_
                        refine lv_if_eq (tgt := 503) hx hb dL_law_498 (by decide) (fun c498 => ?_) (fun c498 => ?_)
                        · have hf := ip hf c498
                          refine lv_goto (tgt := 1994) hx hb dL_law_503 (by decide) ?_
                          refine lv_iinc (v := v4 + 4) (lv' := [(4, .int (v4 + 4)), (6, .int q55.1), (5, .int q51.1), (0, .ref b), (1, .ref (kA K v1)), (2, .ref (kA K v2)), (3, .ref (kA K v3))]) hx hb dL_law_1994 hl (k := 6) rfl rfl (by decide) rfl (fun ls hl => ?_)
                          refine lv_goto (tgt := 23) hx hb dL_law_1997 (by decide) ?_
                          exact ih _ _ _ _ _ _ _ _ _ _ (by omega) (by omega) hf hR (lv_sub hl [3, 4, 5, 6, 0] rfl)
                        · have hf := iq hf c498
                          refine lv_iconst (v := 0) hx hb dL_law_501 (by decide) ?_
                          exact absurd (Option.some.inj hf) (by decide)
                    · have hf := iq hf c481
                      refine lv_iconst (v := 0) hx hb dL_law_484 (by decide) ?_
                      exact absurd (Option.some.inj hf) (by decide)
                  · have hf := iq hf c39_6
                    by_cases c39_7 : (x1 &&& 63) = 7
                    · have hf := ip hf c39_7
                      refine lv_tableIn (tgt := 506) (off := 467) hx hb dL_law_39 (by rw [c39_7]; decide) (by rw [c39_7]; decide) (by rw [c39_7]; decide +kernel) (by decide) ?_
                      refine lv_aload_n hx hb dL_law_506 rfl (lv_at hl 1 rfl) ?_
                      refine lv_aload_n hx hb dL_law_507 rfl (lv_at hl 0 rfl) ?_
                      refine lv_iload hx hb dL_law_508 (lv_at hl 4 rfl) ?_
                      refine lv_iconst (v := 1) hx hb dL_law_510 (by decide) ?_
                      refine lv_iadd hx hb dL_law_511 ?_
                      obtain ⟨x59, hx59, hf⟩ := ob hf
                      refine r_sld C hR hX hbl hbA hx59 dL_law_512 ?_
                      refine lv_aload_n hx hb dL_law_513 rfl (lv_at hl 0 rfl) ?_
                      refine lv_iload hx hb dL_law_514 (lv_at hl 4 rfl) ?_
                      refine lv_iconst (v := 2) hx hb dL_law_516 (by decide) ?_
                      refine lv_iadd hx hb dL_law_517 ?_
                      obtain ⟨x60, hx60, hf⟩ := ob hf
                      refine r_sld C hR hX hbl hbA hx60 dL_law_518 ?_
                      refine lv_aload_n hx hb dL_law_519 rfl (lv_at hl 0 rfl) ?_
                      refine lv_iload hx hb dL_law_520 (lv_at hl 4 rfl) ?_
                      refine lv_iconst (v := 3) hx hb dL_law_522 (by decide) ?_
                      refine lv_iadd hx hb dL_law_523 ?_
                      obtain ⟨x61, hx61, hf⟩ := ob hf
                      refine r_sld C hR hX hbl hbA hx61 dL_law_524 ?_
                      refine lv_aload_n hx hb dL_law_525 rfl (lv_at hl 3 rfl) ?_
                      obtain ⟨q62, hq62, hf⟩ := ob hf
                      refine r_callSW (As := [.ref (kA K v1), .int x59, .int x60, .int x61, .ref (kA K v3)]) (rest := []) (st1 := [.int q62.1]) C hR (lv_sub hl [] rfl) (c_L_setNote hl9 hq62) ms_L_setNote ml_L_153 ⟨rfl, rfl, (Nat.le_of_ble_eq_true rfl), (Nat.le_of_ble_eq_true rfl)⟩ rfl rfl rfl (Nat.le_of_ble_eq_true rfl) ⟨by show _ ≤ 603072; omega, by show _ ≤ 7178346; omega⟩ dL_law_526 (fun H locs hR => ?_)
                      refine lv_istore (lv' := [(5, .int q62.1), (0, .ref b), (1, .ref (kA K v1)), (2, .ref (kA K v2)), (3, .ref (kA K v3)), (4, .int v4)]) hx hb dL_law_529 hl (by decide) rfl (fun ls hl => ?_)
                      refine lv_aload_n hx hb dL_law_531 rfl (lv_at hl 3 rfl) ?_
                      refine lv_aload_n hx hb dL_law_532 rfl (lv_at hl 1 rfl) ?_
                      refine lv_iload hx hb dL_law_533 (lv_at hl 5 rfl) ?_
                      refine lv_iconst (v := 1) hx hb dL_law_535 (by decide) ?_
                      refine lv_iadd hx hb dL_law_536 ?_
                      obtain ⟨x63, hx63, hf⟩ := ob hf
                      refine r_sld C hR hX hbl hbA hx63 dL_law_537 ?_
                      refine lv_aload_n hx hb dL_law_538 rfl (lv_at hl 1 rfl) ?_
                      refine lv_iload hx hb dL_law_539 (lv_at hl 5 rfl) ?_
                      refine lv_iconst (v := 2) hx hb dL_law_541 (by decide) ?_
                      refine lv_iadd hx hb dL_law_542 ?_
                      obtain ⟨x64, hx64, hf⟩ := ob hf
                      refine r_sld C hR hX hbl hbA hx64 dL_law_543 ?_
                      refine lv_aload_n hx hb dL_law_544 rfl (lv_at hl 1 rfl) ?_
                      refine lv_iload hx hb dL_law_545 (lv_at hl 5 rfl) ?_
                      refine lv_iconst (v := 3) hx hb dL_law_547 (by decide) ?_
                      refine lv_iadd hx hb dL_law_548 ?_
                      obtain ⟨x65, hx65, hf⟩ := ob hf
                      refine r_sld C hR hX hbl hbA hx65 dL_law_549 ?_
                      obtain ⟨u66, hu66, hf⟩ := ob hf
                      obtain ⟨q67, hq67, hf⟩ := ob hf
                      refine r_callV (As := [.int x63, .int x64, .int x65]) (rest := []) (st1 := [.int q67.1]) C hR (lv_sub hl [] rfl) (c_X9_setNote hq67) mv_X9_setNote ml_L_156 ⟨rfl, rfl, (Nat.le_of_ble_eq_true rfl), (Nat.le_of_ble_eq_true rfl)⟩ (rv_obj C hR hu66 (q := (RX9, TX9, 17)) rfl) rfl rfl rfl (Nat.le_of_ble_eq_true rfl) ⟨by show _ ≤ 603072; omega, by show _ ≤ 7178346; omega⟩ dL_law_550 (fun H locs hR => ?_)
                      refine lv_istore (lv' := [(6, .int q67.1), (5, .int q62.1), (0, .ref b), (1, .ref (kA K v1)), (2, .ref (kA K v2)), (3, .ref (kA K v3)), (4, .int v4)]) hx hb dL_law_553 hl (by decide) rfl (fun ls hl => ?_)
                      refine lv_aload_n hx hb dL_law_555 rfl (lv_at hl 4 rfl) ?_
                      obtain ⟨u68, hu68, hf⟩ := ob hf
                      obtain ⟨x69, hx69, hf⟩ := ob hf
                      refine r_callV (As := []) (rest := []) (st1 := [.int x69]) C hR (lv_sub hl [] rfl) (c_X9_thrown hx69) mv_X9_thrown ml_L_127 ⟨rfl, rfl, (Nat.le_of_ble_eq_true rfl), (Nat.le_of_ble_eq_true rfl)⟩ (rv_obj C hR hu68 (q := (RX9, TX9, 17)) rfl) rfl rfl rfl (Nat.le_of_ble_eq_true rfl) ⟨by show _ ≤ 603072; omega, by show _ ≤ 7178346; omega⟩ dL_law_556 (fun H locs hR => ?_)
                      refine lv_iload hx hb dL_law_559 (lv_at hl 1 rfl) ?_
                      refine lv_icmp_eq (tgt := 566) hx hb dL_law_561 (by decide) (fun c561 => ?_) (fun c561 => ?_)
                      · have hf := ip hf c561
                        refine lv_iload hx hb dL_law_566 (lv_at hl 1 rfl) ?_
                        refine lv_if_ne (tgt := 583) hx hb dL_law_568 (by decide) (fun c568 => ?_) (fun c568 => ?_)
                        · have hf := iq hf c568
                          refine lv_goto (tgt := 1994) hx hb dL_law_583 (by decide) ?_
                          refine lv_iinc (v := v4 + 4) (lv' := [(4, .int (v4 + 4)), (6, .int q67.1), (5, .int q62.1), (0, .ref b), (1, .ref (kA K v1)), (2, .ref (kA K v2)), (3, .ref (kA K v3))]) hx hb dL_law_1994 hl (k := 6) rfl rfl (by decide) rfl (fun ls hl => ?_)
                          refine lv_goto (tgt := 23) hx hb dL_law_1997 (by decide) ?_
                          exact ih _ _ _ _ _ _ _ _ _ _ (by omega) (by omega) hf hR (lv_sub hl [3, 4, 5, 6, 0] rfl)
                        · have hf := ip hf c568
                          refine lv_aload_n hx hb dL_law_571 rfl (lv_at hl 5 rfl) ?_
                          refine lv_iconst (v := 0) hx hb dL_law_572 (by decide) ?_
                          obtain ⟨x70, hx70, hf⟩ := ob hf
                          refine r_lald C hR hx70 dL_law_573 ?_
                          refine lv_iload hx hb dL_law_574 (lv_at hl 0 rfl) ?_
                          refine lv_i2l (v := (Int32.toInt64 q67.1)) hx hb dL_law_576 rfl ?_
                          refine W.lcmp hx hb dL_law_577 ?_
                          refine lv_if_eq (tgt := 583) hx hb dL_law_578 (by decide) (fun c578 => ?_) (fun c578 => ?_)
                          · have hf := ip hf c578
                            refine lv_goto (tgt := 1994) hx hb dL_law_583 (by decide) ?_
                            refine lv_iinc (v := v4 + 4) (lv' := [(4, .int (v4 + 4)), (6, .int q67.1), (5, .int q62.1), (0, .ref b), (1, .ref (kA K v1)), (2, .ref (kA K v2)), (3, .ref (kA K v3))]) hx hb dL_law_1994 hl (k := 6) rfl rfl (by decide) rfl (fun ls hl => ?_)
                            refine lv_goto (tgt := 23) hx hb dL_law_1997 (by decide) ?_
                            exact ih _ _ _ _ _ _ _ _ _ _ (by omega) (by omega) hf hR (lv_sub hl [3, 4, 5, 6, 0] rfl)
                          · have hf := iq hf c578
                            refine lv_iconst (v := 0) hx hb dL_law_581 (by decide) ?_
                            exact absurd (Option.some.inj hf) (by decide)
                      · have hf := iq hf c561
                        refine lv_iconst (v := 0) hx hb dL_law_564 (by decide) ?_
                        exact absurd (Option.some.inj hf) (by decide)
                    · have hf := iq hf c39_7
                      by_cases c39_8 : (x1 &&& 63) = 8
                      · have hf := ip hf c39_8
                        refine lv_tableIn (tgt := 586) (off := 547) hx hb dL_law_39 (by rw [c39_8]; decide) (by rw [c39_8]; decide) (by rw [c39_8]; decide +kernel) (by decide) ?_
                        refine lv_aload_n hx hb dL_law_586 rfl (lv_at hl 1 rfl) ?_
                        refine lv_aload_n hx hb dL_law_587 rfl (lv_at hl 0 rfl) ?_
                        refine lv_iload hx hb dL_law_588 (lv_at hl 4 rfl) ?_
                        refine lv_iconst (v := 1) hx hb dL_law_590 (by decide) ?_
                        refine lv_iadd hx hb dL_law_591 ?_
                        obtain ⟨x71, hx71, hf⟩ := ob hf
                        refine r_sld C hR hX hbl hbA hx71 dL_law_592 ?_
                        refine lv_aload_n hx hb dL_law_593 rfl (lv_at hl 0 rfl) ?_
                        refine lv_iload hx hb dL_law_594 (lv_at hl 4 rfl) ?_
                        refine lv_iconst (v := 2) hx hb dL_law_596 (by decide) ?_
                        refine lv_iadd hx hb dL_law_597 ?_
                        obtain ⟨x72, hx72, hf⟩ := ob hf
                        refine r_sld C hR hX hbl hbA hx72 dL_law_598 ?_
                        refine lv_aload_n hx hb dL_law_599 rfl (lv_at hl 3 rfl) ?_
                        obtain ⟨q73, hq73, hf⟩ := ob hf
                        refine r_callSW (As := [.ref (kA K v1), .int x71, .int x72, .ref (kA K v3)]) (rest := []) (st1 := [.int q73.1]) C hR (lv_sub hl [] rfl) (c_L_note hl9 hq73) ms_L_note ml_L_157 ⟨rfl, rfl, (Nat.le_of_ble_eq_true rfl), (Nat.le_of_ble_eq_true rfl)⟩ rfl rfl rfl (Nat.le_of_ble_eq_true rfl) ⟨by show _ ≤ 603072; omega, by show _ ≤ 7178346; omega⟩ dL_law_600 (fun H locs hR => ?_)
                        refine lv_istore (lv' := [(5, .int q73.1), (0, .ref b), (1, .ref (kA K v1)), (2, .ref (kA K v2)), (3, .ref (kA K v3)), (4, .int v4)]) hx hb dL_law_603 hl (by decide) rfl (fun ls hl => ?_)
                        refine lv_aload_n hx hb dL_law_605 rfl (lv_at hl 3 rfl) ?_
                        refine lv_aload_n hx hb dL_law_606 rfl (lv_at hl 1 rfl) ?_
                        refine lv_iload hx hb dL_law_607 (lv_at hl 5 rfl) ?_
                        refine lv_iconst (v := 1) hx hb dL_law_609 (by decide) ?_
                        refine lv_iadd hx hb dL_law_610 ?_
                        obtain ⟨x74, hx74, hf⟩ := ob hf
                        refine r_sld C hR hX hbl hbA hx74 dL_law_611 ?_
                        refine lv_aload_n hx hb dL_law_612 rfl (lv_at hl 1 rfl) ?_
                        refine lv_iload hx hb dL_law_613 (lv_at hl 5 rfl) ?_
                        refine lv_iconst (v := 2) hx hb dL_law_615 (by decide) ?_
                        refine lv_iadd hx hb dL_law_616 ?_
                        obtain ⟨x75, hx75, hf⟩ := ob hf
                        refine r_sld C hR hX hbl hbA hx75 dL_law_617 ?_
                        obtain ⟨u76, hu76, hf⟩ := ob hf
                        obtain ⟨q77, hq77, hf⟩ := ob hf
                        refine r_callV (As := [.int x74, .int x75]) (rest := []) (st1 := [.int q77.1]) C hR (lv_sub hl [] rfl) (c_X9_note hq77) mv_X9_note ml_L_159 ⟨rfl, rfl, (Nat.le_of_ble_eq_true rfl), (Nat.le_of_ble_eq_true rfl)⟩ (rv_obj C hR hu76 (q := (RX9, TX9, 17)) rfl) rfl rfl rfl (Nat.le_of_ble_eq_true rfl) ⟨by show _ ≤ 603072; omega, by show _ ≤ 7178346; omega⟩ dL_law_618 (fun H locs hR => ?_)
                        refine lv_istore (lv' := [(6, .int q77.1), (5, .int q73.1), (0, .ref b), (1, .ref (kA K v1)), (2, .ref (kA K v2)), (3, .ref (kA K v3)), (4, .int v4)]) hx hb dL_law_621 hl (by decide) rfl (fun ls hl => ?_)
                        refine lv_aload_n hx hb dL_law_623 rfl (lv_at hl 4 rfl) ?_
                        obtain ⟨u78, hu78, hf⟩ := ob hf
                        obtain ⟨x79, hx79, hf⟩ := ob hf
                        refine r_callV (As := []) (rest := []) (st1 := [.int x79]) C hR (lv_sub hl [] rfl) (c_X9_thrown hx79) mv_X9_thrown ml_L_127 ⟨rfl, rfl, (Nat.le_of_ble_eq_true rfl), (Nat.le_of_ble_eq_true rfl)⟩ (rv_obj C hR hu78 (q := (RX9, TX9, 17)) rfl) rfl rfl rfl (Nat.le_of_ble_eq_true rfl) ⟨by show _ ≤ 603072; omega, by show _ ≤ 7178346; omega⟩ dL_law_624 (fun H locs hR => ?_)
                        refine lv_iload hx hb dL_law_627 (lv_at hl 1 rfl) ?_
                        refine lv_icmp_eq (tgt := 634) hx hb dL_law_629 (by decide) (fun c629 => ?_) (fun c629 => ?_)
                        · have hf := ip hf c629
                          refine lv_iload hx hb dL_law_634 (lv_at hl 1 rfl) ?_
                          refine lv_if_ne (tgt := 651) hx hb dL_law_636 (by decide) (fun c636 => ?_) (fun c636 => ?_)
                          · have hf := iq hf c636
                            refine lv_goto (tgt := 1994) hx hb dL_law_651 (by decide) ?_
                            refine lv_iinc (v := v4 + 4) (lv' := [(4, .int (v4 + 4)), (6, .int q77.1), (5, .int q73.1), (0, .ref b), (1, .ref (kA K v1)), (2, .ref (kA K v2)), (3, .ref (kA K v3))]) hx hb dL_law_1994 hl (k := 6) rfl rfl (by decide) rfl (fun ls hl => ?_)
                            refine lv_goto (tgt := 23) hx hb dL_law_1997 (by decide) ?_
                            exact ih _ _ _ _ _ _ _ _ _ _ (by omega) (by omega) hf hR (lv_sub hl [3, 4, 5, 6, 0] rfl)
                          · have hf := ip hf c636
                            refine lv_aload_n hx hb dL_law_639 rfl (lv_at hl 5 rfl) ?_
                            refine lv_iconst (v := 0) hx hb dL_law_640 (by decide) ?_
                            obtain ⟨x80, hx80, hf⟩ := ob hf
                            refine r_lald C hR hx80 dL_law_641 ?_
                            refine lv_iload hx hb dL_law_642 (lv_at hl 0 rfl) ?_
                            refine lv_i2l (v := (Int32.toInt64 q77.1)) hx hb dL_law_644 rfl ?_
                            refine W.lcmp hx hb dL_law_645 ?_
                            refine lv_if_eq (tgt := 651) hx hb dL_law_646 (by decide) (fun c646 => ?_) (fun c646 => ?_)
                            · have hf := ip hf c646
                              refine lv_goto (tgt := 1994) hx hb dL_law_651 (by decide) ?_
                              refine lv_iinc (v := v4 + 4) (lv' := [(4, .int (v4 + 4)), (6, .int q77.1), (5, .int q73.1), (0, .ref b), (1, .ref (kA K v1)), (2, .ref (kA K v2)), (3, .ref (kA K v3))]) hx hb dL_law_1994 hl (k := 6) rfl rfl (by decide) rfl (fun ls hl => ?_)
                              refine lv_goto (tgt := 23) hx hb dL_law_1997 (by decide) ?_
                              exact ih _ _ _ _ _ _ _ _ _ _ (by omega) (by omega) hf hR (lv_sub hl [3, 4, 5, 6, 0] rfl)
                            · have hf := iq hf c646
                              refine lv_iconst (v := 0) hx hb dL_law_649 (by decide) ?_
                              exact absurd (Option.some.inj hf) (by decide)
                        · have hf := iq hf c629
                          refine lv_iconst (v := 0) hx hb dL_law_632 (by decide) ?_
                          exact absurd (Option.some.inj hf) (by decide)
                      · have hf := iq hf c39_8
                        by_cases c39_9 : (x1 &&& 63) = 9
                        · have hf := ip hf c39_9
                          refine lv_tableIn (tgt := 654) (off := 615) hx hb dL_law_39 (by rw [c39_9]; decide) (by rw [c39_9]; decide) (by rw [c39_9]; decide +kernel) (by decide) ?_
                          refine lv_aload_n hx hb dL_law_654 rfl (lv_at hl 1 rfl) ?_
                          refine lv_aload_n hx hb dL_law_655 rfl (lv_at hl 0 rfl) ?_
                          refine lv_iload hx hb dL_law_656 (lv_at hl 4 rfl) ?_
                          refine lv_iconst (v := 1) hx hb dL_law_658 (by decide) ?_
                          refine lv_iadd hx hb dL_law_659 ?_
                          obtain ⟨x81, hx81, hf⟩ := ob hf
                          refine r_sld C hR hX hbl hbA hx81 dL_law_660 ?_
                          refine lv_aload_n hx hb dL_law_661 rfl (lv_at hl 0 rfl) ?_
                          refine lv_iload hx hb dL_law_662 (lv_at hl 4 rfl) ?_
                          refine lv_iconst (v := 2) hx hb dL_law_664 (by decide) ?_
                          refine lv_iadd hx hb dL_law_665 ?_
                          obtain ⟨x82, hx82, hf⟩ := ob hf
                          refine r_sld C hR hX hbl hbA hx82 dL_law_666 ?_
                          refine lv_aload_n hx hb dL_law_667 rfl (lv_at hl 3 rfl) ?_
                          obtain ⟨q83, hq83, hf⟩ := ob hf
                          refine r_callSW (As := [.ref (kA K v1), .int x81, .int x82, .ref (kA K v3)]) (rest := []) (st1 := [.int q83.1]) C hR (lv_sub hl [] rfl) (c_L_noteOf hl9 hq83) ms_L_noteOf ml_L_160 ⟨rfl, rfl, (Nat.le_of_ble_eq_true rfl), (Nat.le_of_ble_eq_true rfl)⟩ rfl rfl rfl (Nat.le_of_ble_eq_true rfl) ⟨by show _ ≤ 603072; omega, by show _ ≤ 7178346; omega⟩ dL_law_668 (fun H locs hR => ?_)
                          refine lv_istore (lv' := [(5, .int q83.1), (0, .ref b), (1, .ref (kA K v1)), (2, .ref (kA K v2)), (3, .ref (kA K v3)), (4, .int v4)]) hx hb dL_law_671 hl (by decide) rfl (fun ls hl => ?_)
                          refine lv_aload_n hx hb dL_law_673 rfl (lv_at hl 3 rfl) ?_
                          refine lv_aload_n hx hb dL_law_674 rfl (lv_at hl 1 rfl) ?_
                          refine lv_iload hx hb dL_law_675 (lv_at hl 5 rfl) ?_
                          refine lv_iconst (v := 1) hx hb dL_law_677 (by decide) ?_
                          refine lv_iadd hx hb dL_law_678 ?_
                          obtain ⟨x84, hx84, hf⟩ := ob hf
                          refine r_sld C hR hX hbl hbA hx84 dL_law_679 ?_
                          refine lv_aload_n hx hb dL_law_680 rfl (lv_at hl 1 rfl) ?_
                          refine lv_iload hx hb dL_law_681 (lv_at hl 5 rfl) ?_
                          refine lv_iconst (v := 2) hx hb dL_law_683 (by decide) ?_
                          refine lv_iadd hx hb dL_law_684 ?_
                          obtain ⟨x85, hx85, hf⟩ := ob hf
                          refine r_sld C hR hX hbl hbA hx85 dL_law_685 ?_
                          obtain ⟨u86, hu86, hf⟩ := ob hf
                          obtain ⟨q87, hq87, hf⟩ := ob hf
                          refine r_callV (As := [.int x84, .int x85]) (rest := []) (st1 := [.int q87.1]) C hR (lv_sub hl [] rfl) (c_X9_noteOf hq87) mv_X9_noteOf ml_L_162 ⟨rfl, rfl, (Nat.le_of_ble_eq_true rfl), (Nat.le_of_ble_eq_true rfl)⟩ (rv_obj C hR hu86 (q := (RX9, TX9, 17)) rfl) rfl rfl rfl (Nat.le_of_ble_eq_true rfl) ⟨by show _ ≤ 603072; omega, by show _ ≤ 7178346; omega⟩ dL_law_686 (fun H locs hR => ?_)
                          refine lv_istore (lv' := [(6, .int q87.1), (5, .int q83.1), (0, .ref b), (1, .ref (kA K v1)), (2, .ref (kA K v2)), (3, .ref (kA K v3)), (4, .int v4)]) hx hb dL_law_689 hl (by decide) rfl (fun ls hl => ?_)
                          refine lv_aload_n hx hb dL_law_691 rfl (lv_at hl 4 rfl) ?_
                          obtain ⟨u88, hu88, hf⟩ := ob hf
                          obtain ⟨x89, hx89, hf⟩ := ob hf
                          refine r_callV (As := []) (rest := []) (st1 := [.int x89]) C hR (lv_sub hl [] rfl) (c_X9_thrown hx89) mv_X9_thrown ml_L_127 ⟨rfl, rfl, (Nat.le_of_ble_eq_true rfl), (Nat.le_of_ble_eq_true rfl)⟩ (rv_obj C hR hu88 (q := (RX9, TX9, 17)) rfl) rfl rfl rfl (Nat.le_of_ble_eq_true rfl) ⟨by show _ ≤ 603072; omega, by show _ ≤ 7178346; omega⟩ dL_law_692 (fun H locs hR => ?_)
                          refine lv_iload hx hb dL_law_695 (lv_at hl 1 rfl) ?_
                          refine lv_icmp_eq (tgt := 702) hx hb dL_law_697 (by decide) (fun c697 => ?_) (fun c697 => ?_)
                          · have hf := ip hf c697
                            refine lv_iload hx hb dL_law_702 (lv_at hl 1 rfl) ?_
                            refine lv_if_ne (tgt := 719) hx hb dL_law_704 (by decide) (fun c704 => ?_) (fun c704 => ?_)
                            · have hf := iq hf c704
                              refine lv_goto (tgt := 1994) hx hb dL_law_719 (by decide) ?_
                              refine lv_iinc (v := v4 + 4) (lv' := [(4, .int (v4 + 4)), (6, .int q87.1), (5, .int q83.1), (0, .ref b), (1, .ref (kA K v1)), (2, .ref (kA K v2)), (3, .ref (kA K v3))]) hx hb dL_law_1994 hl (k := 6) rfl rfl (by decide) rfl (fun ls hl => ?_)
                              refine lv_goto (tgt := 23) hx hb dL_law_1997 (by decide) ?_
                              exact ih _ _ _ _ _ _ _ _ _ _ (by omega) (by omega) hf hR (lv_sub hl [3, 4, 5, 6, 0] rfl)
                            · have hf := ip hf c704
                              refine lv_aload_n hx hb dL_law_707 rfl (lv_at hl 5 rfl) ?_
                              refine lv_iconst (v := 0) hx hb dL_law_708 (by decide) ?_
                              obtain ⟨x90, hx90, hf⟩ := ob hf
                              refine r_lald C hR hx90 dL_law_709 ?_
                              refine lv_iload hx hb dL_law_710 (lv_at hl 0 rfl) ?_
                              refine lv_i2l (v := (Int32.toInt64 q87.1)) hx hb dL_law_712 rfl ?_
                              refine W.lcmp hx hb dL_law_713 ?_
                              refine lv_if_eq (tgt := 719) hx hb dL_law_714 (by decide) (fun c714 => ?_) (fun c714 => ?_)
                              · have hf := ip hf c714
                                refine lv_goto (tgt := 1994) hx hb dL_law_719 (by decide) ?_
                                refine lv_iinc (v := v4 + 4) (lv' := [(4, .int (v4 + 4)), (6, .int q87.1), (5, .int q83.1), (0, .ref b), (1, .ref (kA K v1)), (2, .ref (kA K v2)), (3, .ref (kA K v3))]) hx hb dL_law_1994 hl (k := 6) rfl rfl (by decide) rfl (fun ls hl => ?_)
                                refine lv_goto (tgt := 23) hx hb dL_law_1997 (by decide) ?_
                                exact ih _ _ _ _ _ _ _ _ _ _ (by omega) (by omega) hf hR (lv_sub hl [3, 4, 5, 6, 0] rfl)
                              · have hf := iq hf c714
                                refine lv_iconst (v := 0) hx hb dL_law_717 (by decide) ?_
                                exact absurd (Option.some.inj hf) (by decide)
                          · have hf := iq hf c697
                            refine lv_iconst (v := 0) hx hb dL_law_700 (by decide) ?_
                            exact absurd (Option.some.inj hf) (by decide)
                        · have hf := iq hf c39_9
                          by_cases c39_10 : (x1 &&& 63) = 10
                          · have hf := ip hf c39_10
                            refine lv_tableIn (tgt := 722) (off := 683) hx hb dL_law_39 (by rw [c39_10]; decide) (by rw [c39_10]; decide) (by rw [c39_10]; decide +kernel) (by decide) ?_
                            refine lv_aload_n hx hb dL_law_722 rfl (lv_at hl 1 rfl) ?_
                            refine lv_aload_n hx hb dL_law_723 rfl (lv_at hl 0 rfl) ?_
                            refine lv_iload hx hb dL_law_724 (lv_at hl 4 rfl) ?_
                            refine lv_iconst (v := 1) hx hb dL_law_726 (by decide) ?_
                            refine lv_iadd hx hb dL_law_727 ?_
                            obtain ⟨x91, hx91, hf⟩ := ob hf
                            refine r_sld C hR hX hbl hbA hx91 dL_law_728 ?_
                            refine lv_if_eq (tgt := 736) hx hb dL_law_729 (by decide) (fun c729 => ?_) (fun c729 => ?_)
                            · have hf := ip hf c729
                              refine lv_iconst (v := 0) hx hb dL_law_736 (by decide) ?_
                              refine lv_aload_n hx hb dL_law_737 rfl (lv_at hl 0 rfl) ?_
                              refine lv_iload hx hb dL_law_738 (lv_at hl 4 rfl) ?_
                              refine lv_iconst (v := 2) hx hb dL_law_740 (by decide) ?_
                              refine lv_iadd hx hb dL_law_741 ?_
                              obtain ⟨x92, hx92, hf⟩ := ob hf
                              refine r_sld C hR hX hbl hbA hx92 dL_law_742 ?_
                              refine lv_aload_n hx hb dL_law_743 rfl (lv_at hl 3 rfl) ?_
                              obtain ⟨q93, hq93, hf⟩ := ob hf
                              refine r_callSW (As := [.ref (kA K v1), .int 0, .int x92, .ref (kA K v3)]) (rest := []) (st1 := [.int q93.1]) C hR (lv_sub hl [] rfl) (c_L_text hl9 hq93) ms_L_text ml_L_163 ⟨rfl, rfl, (Nat.le_of_ble_eq_true rfl), (Nat.le_of_ble_eq_true rfl)⟩ rfl rfl rfl (Nat.le_of_ble_eq_true rfl) ⟨by show _ ≤ 603072; omega, by show _ ≤ 7178346; omega⟩ dL_law_744 (fun H locs hR => ?_)
                              refine lv_istore (lv' := [(5, .int q93.1), (0, .ref b), (1, .ref (kA K v1)), (2, .ref (kA K v2)), (3, .ref (kA K v3)), (4, .int v4)]) hx hb dL_law_747 hl (by decide) rfl (fun ls hl => ?_)
                              refine lv_aload_n hx hb dL_law_749 rfl (lv_at hl 3 rfl) ?_
                              refine lv_aload_n hx hb dL_law_750 rfl (lv_at hl 1 rfl) ?_
                              refine lv_iload hx hb dL_law_751 (lv_at hl 5 rfl) ?_
                              refine lv_iconst (v := 1) hx hb dL_law_753 (by decide) ?_
                              refine lv_iadd hx hb dL_law_754 ?_
                              obtain ⟨x94, hx94, hf⟩ := ob hf
                              refine r_sld C hR hX hbl hbA hx94 dL_law_755 ?_
                              refine lv_if_eq (tgt := 763) hx hb dL_law_756 (by decide) (fun c756 => ?_) (fun c756 => ?_)
                              · have hf := ip hf c756
                                refine lv_iconst (v := 0) hx hb dL_law_763 (by decide) ?_
                                refine lv_aload_n hx hb dL_law_764 rfl (lv_at hl 1 rfl) ?_
                                refine lv_iload hx hb dL_law_765 (lv_at hl 5 rfl) ?_
                                refine lv_iconst (v := 2) hx hb dL_law_767 (by decide) ?_
                                refine lv_iadd hx hb dL_law_768 ?_
                                obtain ⟨x95, hx95, hf⟩ := ob hf
                                refine r_sld C hR hX hbl hbA hx95 dL_law_769 ?_
                                obtain ⟨u96, hu96, hf⟩ := ob hf
                                obtain ⟨q97, hq97, hf⟩ := ob hf
                                refine r_callV (As := [.int 0, .int x95]) (rest := []) (st1 := [.int q97.1]) C hR (lv_sub hl [] rfl) (c_X9_text hq97) mv_X9_text ml_L_166 ⟨rfl, rfl, (Nat.le_of_ble_eq_true rfl), (Nat.le_of_ble_eq_true rfl)⟩ (rv_obj C hR hu96 (q := (RX9, TX9, 17)) rfl) rfl rfl rfl (Nat.le_of_ble_eq_true rfl) ⟨by show _ ≤ 603072; omega, by show _ ≤ 7178346; omega⟩ dL_law_770 (fun H locs hR => ?_)
                                refine lv_istore (lv' := [(6, .int q97.1), (5, .int q93.1), (0, .ref b), (1, .ref (kA K v1)), (2, .ref (kA K v2)), (3, .ref (kA K v3)), (4, .int v4)]) hx hb dL_law_773 hl (by decide) rfl (fun ls hl => ?_)
                                refine lv_aload_n hx hb dL_law_775 rfl (lv_at hl 4 rfl) ?_
                                obtain ⟨u98, hu98, hf⟩ := ob hf
                                obtain ⟨x99, hx99, hf⟩ := ob hf
                                refine r_callV (As := []) (rest := []) (st1 := [.int x99]) C hR (lv_sub hl [] rfl) (c_X9_thrown hx99) mv_X9_thrown ml_L_127 ⟨rfl, rfl, (Nat.le_of_ble_eq_true rfl), (Nat.le_of_ble_eq_true rfl)⟩ (rv_obj C hR hu98 (q := (RX9, TX9, 17)) rfl) rfl rfl rfl (Nat.le_of_ble_eq_true rfl) ⟨by show _ ≤ 603072; omega, by show _ ≤ 7178346; omega⟩ dL_law_776 (fun H locs hR => ?_)
                                refine lv_iload hx hb dL_law_779 (lv_at hl 1 rfl) ?_
                                refine lv_icmp_eq (tgt := 786) hx hb dL_law_781 (by decide) (fun c781 => ?_) (fun c781 => ?_)
                                · have hf := ip hf c781
                                  refine lv_iload hx hb dL_law_786 (lv_at hl 1 rfl) ?_
                                  refine lv_if_ne (tgt := 803) hx hb dL_law_788 (by decide) (fun c788 => ?_) (fun c788 => ?_)
                                  · have hf := iq hf c788
                                    refine lv_goto (tgt := 1994) hx hb dL_law_803 (by decide) ?_
                                    refine lv_iinc (v := v4 + 4) (lv' := [(4, .int (v4 + 4)), (6, .int q97.1), (5, .int q93.1), (0, .ref b), (1, .ref (kA K v1)), (2, .ref (kA K v2)), (3, .ref (kA K v3))]) hx hb dL_law_1994 hl (k := 6) rfl rfl (by decide) rfl (fun ls hl => ?_)
                                    refine lv_goto (tgt := 23) hx hb dL_law_1997 (by decide) ?_
                                    exact ih _ _ _ _ _ _ _ _ _ _ (by omega) (by omega) hf hR (lv_sub hl [3, 4, 5, 6, 0] rfl)
                                  · have hf := ip hf c788
                                    refine lv_aload_n hx hb dL_law_791 rfl (lv_at hl 5 rfl) ?_
                                    refine lv_iconst (v := 0) hx hb dL_law_792 (by decide) ?_
                                    obtain ⟨x100, hx100, hf⟩ := ob hf
                                    refine r_lald C hR hx100 dL_law_793 ?_
                                    refine lv_iload hx hb dL_law_794 (lv_at hl 0 rfl) ?_
                                    refine lv_i2l (v := (Int32.toInt64 q97.1)) hx hb dL_law_796 rfl ?_
                                    refine W.lcmp hx hb dL_law_797 ?_
                                    refine lv_if_eq (tgt := 803) hx hb dL_law_798 (by decide) (fun c798 => ?_) (fun c798 => ?_)
                                    · have hf := ip hf c798
                                      refine lv_goto (tgt := 1994) hx hb dL_law_803 (by decide) ?_
                                      refine lv_iinc (v := v4 + 4) (lv' := [(4, .int (v4 + 4)), (6, .int q97.1), (5, .int q93.1), (0, .ref b), (1, .ref (kA K v1)), (2, .ref (kA K v2)), (3, .ref (kA K v3))]) hx hb dL_law_1994 hl (k := 6) rfl rfl (by decide) rfl (fun ls hl => ?_)
                                      refine lv_goto (tgt := 23) hx hb dL_law_1997 (by decide) ?_
                                      exact ih _ _ _ _ _ _ _ _ _ _ (by omega) (by omega) hf hR (lv_sub hl [3, 4, 5, 6, 0] rfl)
                                    · have hf := iq hf c798
                                      refine lv_iconst (v := 0) hx hb dL_law_801 (by decide) ?_
                                      exact absurd (Option.some.inj hf) (by decide)
                                · have hf := iq hf c781
                                  refine lv_iconst (v := 0) hx hb dL_law_784 (by decide) ?_
                                  exact absurd (Option.some.inj hf) (by decide)
                              · have hf := iq hf c756
                                refine lv_iconst (v := 1) hx hb dL_law_759 (by decide) ?_
                                refine lv_goto (tgt := 764) hx hb dL_law_760 (by decide) ?_
                                refine lv_aload_n hx hb dL_law_764 rfl (lv_at hl 1 rfl) ?_
                                refine lv_iload hx hb dL_law_765 (lv_at hl 5 rfl) ?_
                                refine lv_iconst (v := 2) hx hb dL_law_767 (by decide) ?_
                                refine lv_iadd hx hb dL_law_768 ?_
                                obtain ⟨x101, hx101, hf⟩ := ob hf
                                refine r_sld C hR hX hbl hbA hx101 dL_law_769 ?_
                                obtain ⟨u102, hu102, hf⟩ := ob hf
                                obtain ⟨q103, hq103, hf⟩ := ob hf
                                refine r_callV (As := [.int 1, .int x101]) (rest := []) (st1 := [.int q103.1]) C hR (lv_sub hl [] rfl) (c_X9_text hq103) mv_X9_text ml_L_166 ⟨rfl, rfl, (Nat.le_of_ble_eq_true rfl), (Nat.le_of_ble_eq_true rfl)⟩ (rv_obj C hR hu102 (q := (RX9, TX9, 17)) rfl) rfl rfl rfl (Nat.le_of_ble_eq_true rfl) ⟨by show _ ≤ 603072; omega, by show _ ≤ 7178346; omega⟩ dL_law_770 (fun H locs hR => ?_)
                                refine lv_istore (lv' := [(6, .int q103.1), (5, .int q93.1), (0, .ref b), (1, .ref (kA K v1)), (2, .ref (kA K v2)), (3, .ref (kA K v3)), (4, .int v4)]) hx hb dL_law_773 hl (by decide) rfl (fun ls hl => ?_)
                                refine lv_aload_n hx hb dL_law_775 rfl (lv_at hl 4 rfl) ?_
                                obtain ⟨u104, hu104, hf⟩ := ob hf
                                obtain ⟨x105, hx105, hf⟩ := ob hf
                                refine r_callV (As := []) (rest := []) (st1 := [.int x105]) C hR (lv_sub hl [] rfl) (c_X9_thrown hx105) mv_X9_thrown ml_L_127 ⟨rfl, rfl, (Nat.le_of_ble_eq_true rfl), (Nat.le_of_ble_eq_true rfl)⟩ (rv_obj C hR hu104 (q := (RX9, TX9, 17)) rfl) rfl rfl rfl (Nat.le_of_ble_eq_true rfl) ⟨by show _ ≤ 603072; omega, by show _ ≤ 7178346; omega⟩ dL_law_776 (fun H locs hR => ?_)
                                refine lv_iload hx hb dL_law_779 (lv_at hl 1 rfl) ?_
                                refine lv_icmp_eq (tgt := 786) hx hb dL_law_781 (by decide) (fun c781 => ?_) (fun c781 => ?_)
                                · have hf := ip hf c781
                                  refine lv_iload hx hb dL_law_786 (lv_at hl 1 rfl) ?_
                                  refine lv_if_ne (tgt := 803) hx hb dL_law_788 (by decide) (fun c788 => ?_) (fun c788 => ?_)
                                  · have hf := iq hf c788
                                    refine lv_goto (tgt := 1994) hx hb dL_law_803 (by decide) ?_
                                    refine lv_iinc (v := v4 + 4) (lv' := [(4, .int (v4 + 4)), (6, .int q103.1), (5, .int q93.1), (0, .ref b), (1, .ref (kA K v1)), (2, .ref (kA K v2)), (3, .ref (kA K v3))]) hx hb dL_law_1994 hl (k := 6) rfl rfl (by decide) rfl (fun ls hl => ?_)
                                    refine lv_goto (tgt := 23) hx hb dL_law_1997 (by decide) ?_
                                    exact ih _ _ _ _ _ _ _ _ _ _ (by omega) (by omega) hf hR (lv_sub hl [3, 4, 5, 6, 0] rfl)
                                  · have hf := ip hf c788
                                    refine lv_aload_n hx hb dL_law_791 rfl (lv_at hl 5 rfl) ?_
                                    refine lv_iconst (v := 0) hx hb dL_law_792 (by decide) ?_
                                    obtain ⟨x106, hx106, hf⟩ := ob hf
                                    refine r_lald C hR hx106 dL_law_793 ?_
                                    refine lv_iload hx hb dL_law_794 (lv_at hl 0 rfl) ?_
                                    refine lv_i2l (v := (Int32.toInt64 q103.1)) hx hb dL_law_796 rfl ?_
                                    refine W.lcmp hx hb dL_law_797 ?_
                                    refine lv_if_eq (tgt := 803) hx hb dL_law_798 (by decide) (fun c798 => ?_) (fun c798 => ?_)
                                    · have hf := ip hf c798
                                      refine lv_goto (tgt := 1994) hx hb dL_law_803 (by decide) ?_
                                      refine lv_iinc (v := v4 + 4) (lv' := [(4, .int (v4 + 4)), (6, .int q103.1), (5, .int q93.1), (0, .ref b), (1, .ref (kA K v1)), (2, .ref (kA K v2)), (3, .ref (kA K v3))]) hx hb dL_law_1994 hl (k := 6) rfl rfl (by decide) rfl (fun ls hl => ?_)
                                      refine lv_goto (tgt := 23) hx hb dL_law_1997 (by decide) ?_
                                      exact ih _ _ _ _ _ _ _ _ _ _ (by omega) (by omega) hf hR (lv_sub hl [3, 4, 5, 6, 0] rfl)
                                    · have hf := iq hf c798
                                      refine lv_iconst (v := 0) hx hb dL_law_801 (by decide) ?_
                                      exact absurd (Option.some.inj hf) (by decide)
                                · have hf := iq hf c781
                                  refine lv_iconst (v := 0) hx hb dL_law_784 (by decide) ?_
                                  exact absurd (Option.some.inj hf) (by decide)
                            · have hf := iq hf c729
                              refine lv_iconst (v := 1) hx hb dL_law_732 (by decide) ?_
                              refine lv_goto (tgt := 737) hx hb dL_law_733 (by decide) ?_
                              refine lv_aload_n hx hb dL_law_737 rfl (lv_at hl 0 rfl) ?_
                              refine lv_iload hx hb dL_law_738 (lv_at hl 4 rfl) ?_
                              refine lv_iconst (v := 2) hx hb dL_law_740 (by decide) ?_
                              refine lv_iadd hx hb dL_law_741 ?_
                              obtain ⟨x107, hx107, hf⟩ := ob hf
                              refine r_sld C hR hX hbl hbA hx107 dL_law_742 ?_
                              refine lv_aload_n hx hb dL_law_743 rfl (lv_at hl 3 rfl) ?_
                              obtain ⟨q108, hq108, hf⟩ := ob hf
                              refine r_callSW (As := [.ref (kA K v1), .int 1, .int x107, .ref (kA K v3)]) (rest := []) (st1 := [.int q108.1]) C hR (lv_sub hl [] rfl) (c_L_text hl9 hq108) ms_L_text ml_L_163 ⟨rfl, rfl, (Nat.le_of_ble_eq_true rfl), (Nat.le_of_ble_eq_true rfl)⟩ rfl rfl rfl (Nat.le_of_ble_eq_true rfl) ⟨by show _ ≤ 603072; omega, by show _ ≤ 7178346; omega⟩ dL_law_744 (fun H locs hR => ?_)
                              refine lv_istore (lv' := [(5, .int q108.1), (0, .ref b), (1, .ref (kA K v1)), (2, .ref (kA K v2)), (3, .ref (kA K v3)), (4, .int v4)]) hx hb dL_law_747 hl (by decide) rfl (fun ls hl => ?_)
                              refine lv_aload_n hx hb dL_law_749 rfl (lv_at hl 3 rfl) ?_
                              refine lv_aload_n hx hb dL_law_750 rfl (lv_at hl 1 rfl) ?_
                              refine lv_iload hx hb dL_law_751 (lv_at hl 5 rfl) ?_
                              refine lv_iconst (v := 1) hx hb dL_law_753 (by decide) ?_
                              refine lv_iadd hx hb dL_law_754 ?_
                              obtain ⟨x109, hx109, hf⟩ := ob hf
                              refine r_sld C hR hX hbl hbA hx109 dL_law_755 ?_
                              refine lv_if_eq (tgt := 763) hx hb dL_law_756 (by decide) (fun c756 => ?_) (fun c756 => ?_)
                              · have hf := ip hf c756
                                refine lv_iconst (v := 0) hx hb dL_law_763 (by decide) ?_
                                refine lv_aload_n hx hb dL_law_764 rfl (lv_at hl 1 rfl) ?_
                                refine lv_iload hx hb dL_law_765 (lv_at hl 5 rfl) ?_
                                refine lv_iconst (v := 2) hx hb dL_law_767 (by decide) ?_
                                refine lv_iadd hx hb dL_law_768 ?_
                                obtain ⟨x110, hx110, hf⟩ := ob hf
                                refine r_sld C hR hX hbl hbA hx110 dL_law_769 ?_
                                obtain ⟨u111, hu111, hf⟩ := ob hf
                                obtain ⟨q112, hq112, hf⟩ := ob hf
                                refine r_callV (As := [.int 0, .int x110]) (rest := []) (st1 := [.int q112.1]) C hR (lv_sub hl [] rfl) (c_X9_text hq112) mv_X9_text ml_L_166 ⟨rfl, rfl, (Nat.le_of_ble_eq_true rfl), (Nat.le_of_ble_eq_true rfl)⟩ (rv_obj C hR hu111 (q := (RX9, TX9, 17)) rfl) rfl rfl rfl (Nat.le_of_ble_eq_true rfl) ⟨by show _ ≤ 603072; omega, by show _ ≤ 7178346; omega⟩ dL_law_770 (fun H locs hR => ?_)
                                refine lv_istore (lv' := [(6, .int q112.1), (5, .int q108.1), (0, .ref b), (1, .ref (kA K v1)), (2, .ref (kA K v2)), (3, .ref (kA K v3)), (4, .int v4)]) hx hb dL_law_773 hl (by decide) rfl (fun ls hl => ?_)
                                refine lv_aload_n hx hb dL_law_775 rfl (lv_at hl 4 rfl) ?_
                                obtain ⟨u113, hu113, hf⟩ := ob hf
                                obtain ⟨x114, hx114, hf⟩ := ob hf
                                refine r_callV (As := []) (rest := []) (st1 := [.int x114]) C hR (lv_sub hl [] rfl) (c_X9_thrown hx114) mv_X9_thrown ml_L_127 ⟨rfl, rfl, (Nat.le_of_ble_eq_true rfl), (Nat.le_of_ble_eq_true rfl)⟩ (rv_obj C hR hu113 (q := (RX9, TX9, 17)) rfl) rfl rfl rfl (Nat.le_of_ble_eq_true rfl) ⟨by show _ ≤ 603072; omega, by show _ ≤ 7178346; omega⟩ dL_law_776 (fun H locs hR => ?_)
                                refine lv_iload hx hb dL_law_779 (lv_at hl 1 rfl) ?_
                                refine lv_icmp_eq (tgt := 786) hx hb dL_law_781 (by decide) (fun c781 => ?_) (fun c781 => ?_)
                                · have hf := ip hf c781
                                  refine lv_iload hx hb dL_law_786 (lv_at hl 1 rfl) ?_
                                  refine lv_if_ne (tgt := 803) hx hb dL_law_788 (by decide) (fun c788 => ?_) (fun c788 => ?_)
                                  · have hf := iq hf c788
                                    refine lv_goto (tgt := 1994) hx hb dL_law_803 (by decide) ?_
                                    refine lv_iinc (v := v4 + 4) (lv' := [(4, .int (v4 + 4)), (6, .int q112.1), (5, .int q108.1), (0, .ref b), (1, .ref (kA K v1)), (2, .ref (kA K v2)), (3, .ref (kA K v3))]) hx hb dL_law_1994 hl (k := 6) rfl rfl (by decide) rfl (fun ls hl => ?_)
                                    refine lv_goto (tgt := 23) hx hb dL_law_1997 (by decide) ?_
                                    exact ih _ _ _ _ _ _ _ _ _ _ (by omega) (by omega) hf hR (lv_sub hl [3, 4, 5, 6, 0] rfl)
                                  · have hf := ip hf c788
                                    refine lv_aload_n hx hb dL_law_791 rfl (lv_at hl 5 rfl) ?_
                                    refine lv_iconst (v := 0) hx hb dL_law_792 (by decide) ?_
                                    obtain ⟨x115, hx115, hf⟩ := ob hf
                                    refine r_lald C hR hx115 dL_law_793 ?_
                                    refine lv_iload hx hb dL_law_794 (lv_at hl 0 rfl) ?_
                                    refine lv_i2l (v := (Int32.toInt64 q112.1)) hx hb dL_law_796 rfl ?_
                                    refine W.lcmp hx hb dL_law_797 ?_
                                    refine lv_if_eq (tgt := 803) hx hb dL_law_798 (by decide) (fun c798 => ?_) (fun c798 => ?_)
                                    · have hf := ip hf c798
                                      refine lv_goto (tgt := 1994) hx hb dL_law_803 (by decide) ?_
                                      refine lv_iinc (v := v4 + 4) (lv' := [(4, .int (v4 + 4)), (6, .int q112.1), (5, .int q108.1), (0, .ref b), (1, .ref (kA K v1)), (2, .ref (kA K v2)), (3, .ref (kA K v3))]) hx hb dL_law_1994 hl (k := 6) rfl rfl (by decide) rfl (fun ls hl => ?_)
                                      refine lv_goto (tgt := 23) hx hb dL_law_1997 (by decide) ?_
                                      exact ih _ _ _ _ _ _ _ _ _ _ (by omega) (by omega) hf hR (lv_sub hl [3, 4, 5, 6, 0] rfl)
                                    · have hf := iq hf c798
                                      refine lv_iconst (v := 0) hx hb dL_law_801 (by decide) ?_
                                      exact absurd (Option.some.inj hf) (by decide)
                                · have hf := iq hf c781
                                  refine lv_iconst (v := 0) hx hb dL_law_784 (by decide) ?_
                                  exact absurd (Option.some.inj hf) (by decide)
                              · have hf := iq hf c756
                                refine lv_iconst (v := 1) hx hb dL_law_759 (by decide) ?_
                                refine lv_goto (tgt := 764) hx hb dL_law_760 (by decide) ?_
                                refine lv_aload_n hx hb dL_law_764 rfl (lv_at hl 1 rfl) ?_
                                refine lv_iload hx hb dL_law_765 (lv_at hl 5 rfl) ?_
                                refine lv_iconst (v := 2) hx hb dL_law_767 (by decide) ?_
                                refine lv_iadd hx hb dL_law_768 ?_
                                obtain ⟨x116, hx116, hf⟩ := ob hf
                                refine r_sld C hR hX hbl hbA hx116 dL_law_769 ?_
                                obtain ⟨u117, hu117, hf⟩ := ob hf
                                obtain ⟨q118, hq118, hf⟩ := ob hf
                                refine r_callV (As := [.int 1, .int x116]) (rest := []) (st1 := [.int q118.1]) C hR (lv_sub hl [] rfl) (c_X9_text hq118) mv_X9_text ml_L_166 ⟨rfl, rfl, (Nat.le_of_ble_eq_true rfl), (Nat.le_of_ble_eq_true rfl)⟩ (rv_obj C hR hu117 (q := (RX9, TX9, 17)) rfl) rfl rfl rfl (Nat.le_of_ble_eq_true rfl) ⟨by show _ ≤ 603072; omega, by show _ ≤ 7178346; omega⟩ dL_law_770 (fun H locs hR => ?_)
                                refine lv_istore (lv' := [(6, .int q118.1), (5, .int q108.1), (0, .ref b), (1, .ref (kA K v1)), (2, .ref (kA K v2)), (3, .ref (kA K v3)), (4, .int v4)]) hx hb dL_law_773 hl (by decide) rfl (fun ls hl => ?_)
                                refine lv_aload_n hx hb dL_law_775 rfl (lv_at hl 4 rfl) ?_
                                obtain ⟨u119, hu119, hf⟩ := ob hf
                                obtain ⟨x120, hx120, hf⟩ := ob hf
                                refine r_callV (As := []) (rest := []) (st1 := [.int x120]) C hR (lv_sub hl [] rfl) (c_X9_thrown hx120) mv_X9_thrown ml_L_127 ⟨rfl, rfl, (Nat.le_of_ble_eq_true rfl), (Nat.le_of_ble_eq_true rfl)⟩ (rv_obj C hR hu119 (q := (RX9, TX9, 17)) rfl) rfl rfl rfl (Nat.le_of_ble_eq_true rfl) ⟨by show _ ≤ 603072; omega, by show _ ≤ 7178346; omega⟩ dL_law_776 (fun H locs hR => ?_)
                                refine lv_iload hx hb dL_law_779 (lv_at hl 1 rfl) ?_
                                refine lv_icmp_eq (tgt := 786) hx hb dL_law_781 (by decide) (fun c781 => ?_) (fun c781 => ?_)
                                · have hf := ip hf c781
                                  refine lv_iload hx hb dL_law_786 (lv_at hl 1 rfl) ?_
                                  refine lv_if_ne (tgt := 803) hx hb dL_law_788 (by decide) (fun c788 => ?_) (fun c788 => ?_)
                                  · have hf := iq hf c788
                                    refine lv_goto (tgt := 1994) hx hb dL_law_803 (by decide) ?_
                                    refine lv_iinc (v := v4 + 4) (lv' := [(4, .int (v4 + 4)), (6, .int q118.1), (5, .int q108.1), (0, .ref b), (1, .ref (kA K v1)), (2, .ref (kA K v2)), (3, .ref (kA K v3))]) hx hb dL_law_1994 hl (k := 6) rfl rfl (by decide) rfl (fun ls hl => ?_)
                                    refine lv_goto (tgt := 23) hx hb dL_law_1997 (by decide) ?_
                                    exact ih _ _ _ _ _ _ _ _ _ _ (by omega) (by omega) hf hR (lv_sub hl [3, 4, 5, 6, 0] rfl)
                                  · have hf := ip hf c788
                                    refine lv_aload_n hx hb dL_law_791 rfl (lv_at hl 5 rfl) ?_
                                    refine lv_iconst (v := 0) hx hb dL_law_792 (by decide) ?_
                                    obtain ⟨x121, hx121, hf⟩ := ob hf
                                    refine r_lald C hR hx121 dL_law_793 ?_
                                    refine lv_iload hx hb dL_law_794 (lv_at hl 0 rfl) ?_
                                    refine lv_i2l (v := (Int32.toInt64 q118.1)) hx hb dL_law_796 rfl ?_
                                    refine W.lcmp hx hb dL_law_797 ?_
                                    refine lv_if_eq (tgt := 803) hx hb dL_law_798 (by decide) (fun c798 => ?_) (fun c798 => ?_)
                                    · have hf := ip hf c798
                                      refine lv_goto (tgt := 1994) hx hb dL_law_803 (by decide) ?_
                                      refine lv_iinc (v := v4 + 4) (lv' := [(4, .int (v4 + 4)), (6, .int q118.1), (5, .int q108.1), (0, .ref b), (1, .ref (kA K v1)), (2, .ref (kA K v2)), (3, .ref (kA K v3))]) hx hb dL_law_1994 hl (k := 6) rfl rfl (by decide) rfl (fun ls hl => ?_)
                                      refine lv_goto (tgt := 23) hx hb dL_law_1997 (by decide) ?_
                                      exact ih _ _ _ _ _ _ _ _ _ _ (by omega) (by omega) hf hR (lv_sub hl [3, 4, 5, 6, 0] rfl)
                                    · have hf := iq hf c798
                                      refine lv_iconst (v := 0) hx hb dL_law_801 (by decide) ?_
                                      exact absurd (Option.some.inj hf) (by decide)
                                · have hf := iq hf c781
                                  refine lv_iconst (v := 0) hx hb dL_law_784 (by decide) ?_
                                  exact absurd (Option.some.inj hf) (by decide)
                          · have hf := iq hf c39_10
                            by_cases c39_11 : (x1 &&& 63) = 11
                            · have hf := ip hf c39_11
                              refine lv_tableIn (tgt := 806) (off := 767) hx hb dL_law_39 (by rw [c39_11]; decide) (by rw [c39_11]; decide) (by rw [c39_11]; decide +kernel) (by decide) ?_
                              refine lv_aload_n hx hb dL_law_806 rfl (lv_at hl 1 rfl) ?_
                              refine lv_aload_n hx hb dL_law_807 rfl (lv_at hl 0 rfl) ?_
                              refine lv_iload hx hb dL_law_808 (lv_at hl 4 rfl) ?_
                              refine lv_iconst (v := 1) hx hb dL_law_810 (by decide) ?_
                              refine lv_iadd hx hb dL_law_811 ?_
                              obtain ⟨x122, hx122, hf⟩ := ob hf
                              refine r_sld C hR hX hbl hbA hx122 dL_law_812 ?_
                              refine lv_aload_n hx hb dL_law_813 rfl (lv_at hl 0 rfl) ?_
                              refine lv_iload hx hb dL_law_814 (lv_at hl 4 rfl) ?_
                              refine lv_iconst (v := 2) hx hb dL_law_816 (by decide) ?_
                              refine lv_iadd hx hb dL_law_817 ?_
                              obtain ⟨x123, hx123, hf⟩ := ob hf
                              refine r_sld C hR hX hbl hbA hx123 dL_law_818 ?_
                              refine lv_aload_n hx hb dL_law_819 rfl (lv_at hl 0 rfl) ?_
                              refine lv_iload hx hb dL_law_820 (lv_at hl 4 rfl) ?_
                              refine lv_iconst (v := 3) hx hb dL_law_822 (by decide) ?_
                              refine lv_iadd hx hb dL_law_823 ?_
                              obtain ⟨x124, hx124, hf⟩ := ob hf
                              refine r_sld C hR hX hbl hbA hx124 dL_law_824 ?_
                              refine lv_aload_n hx hb dL_law_825 rfl (lv_at hl 3 rfl) ?_
                              obtain ⟨q125, hq125, hf⟩ := ob hf
                              refine r_callSW (As := [.ref (kA K v1), .int x122, .int x123, .int x124, .ref (kA K v3)]) (rest := []) (st1 := [.int q125.1]) C hR (lv_sub hl [] rfl) (c_L_interval hl9 hq125) ms_L_interval ml_L_167 ⟨rfl, rfl, (Nat.le_of_ble_eq_true rfl), (Nat.le_of_ble_eq_true rfl)⟩ rfl rfl rfl (Nat.le_of_ble_eq_true rfl) ⟨by show _ ≤ 603072; omega, by show _ ≤ 7178346; omega⟩ dL_law_826 (fun H locs hR => ?_)
                              refine lv_istore (lv' := [(5, .int q125.1), (0, .ref b), (1, .ref (kA K v1)), (2, .ref (kA K v2)), (3, .ref (kA K v3)), (4, .int v4)]) hx hb dL_law_829 hl (by decide) rfl (fun ls hl => ?_)
                              refine lv_aload_n hx hb dL_law_831 rfl (lv_at hl 3 rfl) ?_
                              refine lv_aload_n hx hb dL_law_832 rfl (lv_at hl 1 rfl) ?_
                              refine lv_iload hx hb dL_law_833 (lv_at hl 5 rfl) ?_
                              refine lv_iconst (v := 1) hx hb dL_law_835 (by decide) ?_
                              refine lv_iadd hx hb dL_law_836 ?_
                              obtain ⟨x126, hx126, hf⟩ := ob hf
                              refine r_sld C hR hX hbl hbA hx126 dL_law_837 ?_
                              refine lv_aload_n hx hb dL_law_838 rfl (lv_at hl 1 rfl) ?_
                              refine lv_iload hx hb dL_law_839 (lv_at hl 5 rfl) ?_
                              refine lv_iconst (v := 2) hx hb dL_law_841 (by decide) ?_
                              refine lv_iadd hx hb dL_law_842 ?_
                              obtain ⟨x127, hx127, hf⟩ := ob hf
                              refine r_sld C hR hX hbl hbA hx127 dL_law_843 ?_
                              refine lv_aload_n hx hb dL_law_844 rfl (lv_at hl 1 rfl) ?_
                              refine lv_iload hx hb dL_law_845 (lv_at hl 5 rfl) ?_
                              refine lv_iconst (v := 3) hx hb dL_law_847 (by decide) ?_
                              refine lv_iadd hx hb dL_law_848 ?_
                              obtain ⟨x128, hx128, hf⟩ := ob hf
                              refine r_sld C hR hX hbl hbA hx128 dL_law_849 ?_
                              obtain ⟨u129, hu129, hf⟩ := ob hf
                              obtain ⟨q130, hq130, hf⟩ := ob hf
                              refine r_callV (As := [.int x126, .int x127, .int x128]) (rest := []) (st1 := [.int q130.1]) C hR (lv_sub hl [] rfl) (c_X9_interval hq130) mv_X9_interval ml_L_169 ⟨rfl, rfl, (Nat.le_of_ble_eq_true rfl), (Nat.le_of_ble_eq_true rfl)⟩ (rv_obj C hR hu129 (q := (RX9, TX9, 17)) rfl) rfl rfl rfl (Nat.le_of_ble_eq_true rfl) ⟨by show _ ≤ 603072; omega, by show _ ≤ 7178346; omega⟩ dL_law_850 (fun H locs hR => ?_)
                              refine lv_istore (lv' := [(6, .int q130.1), (5, .int q125.1), (0, .ref b), (1, .ref (kA K v1)), (2, .ref (kA K v2)), (3, .ref (kA K v3)), (4, .int v4)]) hx hb dL_law_853 hl (by decide) rfl (fun ls hl => ?_)
                              refine lv_aload_n hx hb dL_law_855 rfl (lv_at hl 4 rfl) ?_
                              obtain ⟨u131, hu131, hf⟩ := ob hf
                              obtain ⟨x132, hx132, hf⟩ := ob hf
                              refine r_callV (As := []) (rest := []) (st1 := [.int x132]) C hR (lv_sub hl [] rfl) (c_X9_thrown hx132) mv_X9_thrown ml_L_127 ⟨rfl, rfl, (Nat.le_of_ble_eq_true rfl), (Nat.le_of_ble_eq_true rfl)⟩ (rv_obj C hR hu131 (q := (RX9, TX9, 17)) rfl) rfl rfl rfl (Nat.le_of_ble_eq_true rfl) ⟨by show _ ≤ 603072; omega, by show _ ≤ 7178346; omega⟩ dL_law_856 (fun H locs hR => ?_)
                              refine lv_iload hx hb dL_law_859 (lv_at hl 1 rfl) ?_
                              refine lv_icmp_eq (tgt := 866) hx hb dL_law_861 (by decide) (fun c861 => ?_) (fun c861 => ?_)
                              · have hf := ip hf c861
                                refine lv_iload hx hb dL_law_866 (lv_at hl 1 rfl) ?_
                                refine lv_if_ne (tgt := 883) hx hb dL_law_868 (by decide) (fun c868 => ?_) (fun c868 => ?_)
                                · have hf := iq hf c868
                                  refine lv_goto (tgt := 1994) hx hb dL_law_883 (by decide) ?_
                                  refine lv_iinc (v := v4 + 4) (lv' := [(4, .int (v4 + 4)), (6, .int q130.1), (5, .int q125.1), (0, .ref b), (1, .ref (kA K v1)), (2, .ref (kA K v2)), (3, .ref (kA K v3))]) hx hb dL_law_1994 hl (k := 6) rfl rfl (by decide) rfl (fun ls hl => ?_)
                                  refine lv_goto (tgt := 23) hx hb dL_law_1997 (by decide) ?_
                                  exact ih _ _ _ _ _ _ _ _ _ _ (by omega) (by omega) hf hR (lv_sub hl [3, 4, 5, 6, 0] rfl)
                                · have hf := ip hf c868
                                  refine lv_aload_n hx hb dL_law_871 rfl (lv_at hl 5 rfl) ?_
                                  refine lv_iconst (v := 0) hx hb dL_law_872 (by decide) ?_
                                  obtain ⟨x133, hx133, hf⟩ := ob hf
                                  refine r_lald C hR hx133 dL_law_873 ?_
                                  refine lv_iload hx hb dL_law_874 (lv_at hl 0 rfl) ?_
                                  refine lv_i2l (v := (Int32.toInt64 q130.1)) hx hb dL_law_876 rfl ?_
                                  refine W.lcmp hx hb dL_law_877 ?_
                                  refine lv_if_eq (tgt := 883) hx hb dL_law_878 (by decide) (fun c878 => ?_) (fun c878 => ?_)
                                  · have hf := ip hf c878
                                    refine lv_goto (tgt := 1994) hx hb dL_law_883 (by decide) ?_
                                    refine lv_iinc (v := v4 + 4) (lv' := [(4, .int (v4 + 4)), (6, .int q130.1), (5, .int q125.1), (0, .ref b), (1, .ref (kA K v1)), (2, .ref (kA K v2)), (3, .ref (kA K v3))]) hx hb dL_law_1994 hl (k := 6) rfl rfl (by decide) rfl (fun ls hl => ?_)
                                    refine lv_goto (tgt := 23) hx hb dL_law_1997 (by decide) ?_
                                    exact ih _ _ _ _ _ _ _ _ _ _ (by omega) (by omega) hf hR (lv_sub hl [3, 4, 5, 6, 0] rfl)
                                  · have hf := iq hf c878
                                    refine lv_iconst (v := 0) hx hb dL_law_881 (by decide) ?_
                                    exact absurd (Option.some.inj hf) (by decide)
                              · have hf := iq hf c861
                                refine lv_iconst (v := 0) hx hb dL_law_864 (by decide) ?_
                                exact absurd (Option.some.inj hf) (by decide)
                            · have hf := iq hf c39_11
                              by_cases c39_12 : (x1 &&& 63) = 12
                              · have hf := ip hf c39_12
                                refine lv_tableIn (tgt := 886) (off := 847) hx hb dL_law_39 (by rw [c39_12]; decide) (by rw [c39_12]; decide) (by rw [c39_12]; decide +kernel) (by decide) ?_
                                refine lv_aload_n hx hb dL_law_886 rfl (lv_at hl 1 rfl) ?_
                                refine lv_aload_n hx hb dL_law_887 rfl (lv_at hl 0 rfl) ?_
                                refine lv_iload hx hb dL_law_888 (lv_at hl 4 rfl) ?_
                                refine lv_iconst (v := 1) hx hb dL_law_890 (by decide) ?_
                                refine lv_iadd hx hb dL_law_891 ?_
                                obtain ⟨x134, hx134, hf⟩ := ob hf
                                refine r_sld C hR hX hbl hbA hx134 dL_law_892 ?_
                                refine lv_aload_n hx hb dL_law_893 rfl (lv_at hl 3 rfl) ?_
                                obtain ⟨q135, hq135, hf⟩ := ob hf
                                refine r_callSW (As := [.ref (kA K v1), .int x134, .ref (kA K v3)]) (rest := []) (st1 := [.int q135.1]) C hR (lv_sub hl [] rfl) (c_L_motion hl9 hq135) ms_L_motion ml_L_170 ⟨rfl, rfl, (Nat.le_of_ble_eq_true rfl), (Nat.le_of_ble_eq_true rfl)⟩ rfl rfl rfl (Nat.le_of_ble_eq_true rfl) ⟨by show _ ≤ 603072; omega, by show _ ≤ 7178346; omega⟩ dL_law_894 (fun H locs hR => ?_)
                                refine lv_istore (lv' := [(5, .int q135.1), (0, .ref b), (1, .ref (kA K v1)), (2, .ref (kA K v2)), (3, .ref (kA K v3)), (4, .int v4)]) hx hb dL_law_897 hl (by decide) rfl (fun ls hl => ?_)
                                refine lv_aload_n hx hb dL_law_899 rfl (lv_at hl 3 rfl) ?_
                                refine lv_aload_n hx hb dL_law_900 rfl (lv_at hl 1 rfl) ?_
                                refine lv_iload hx hb dL_law_901 (lv_at hl 5 rfl) ?_
                                refine lv_iconst (v := 1) hx hb dL_law_903 (by decide) ?_
                                refine lv_iadd hx hb dL_law_904 ?_
                                obtain ⟨x136, hx136, hf⟩ := ob hf
                                refine r_sld C hR hX hbl hbA hx136 dL_law_905 ?_
                                obtain ⟨u137, hu137, hf⟩ := ob hf
                                obtain ⟨q138, hq138, hf⟩ := ob hf
                                refine r_callV (As := [.int x136]) (rest := []) (st1 := [.int q138.1]) C hR (lv_sub hl [] rfl) (c_X9_motion hq138) mv_X9_motion ml_L_172 ⟨rfl, rfl, (Nat.le_of_ble_eq_true rfl), (Nat.le_of_ble_eq_true rfl)⟩ (rv_obj C hR hu137 (q := (RX9, TX9, 17)) rfl) rfl rfl rfl (Nat.le_of_ble_eq_true rfl) ⟨by show _ ≤ 603072; omega, by show _ ≤ 7178346; omega⟩ dL_law_906 (fun H locs hR => ?_)
                                refine lv_istore (lv' := [(6, .int q138.1), (5, .int q135.1), (0, .ref b), (1, .ref (kA K v1)), (2, .ref (kA K v2)), (3, .ref (kA K v3)), (4, .int v4)]) hx hb dL_law_909 hl (by decide) rfl (fun ls hl => ?_)
                                refine lv_aload_n hx hb dL_law_911 rfl (lv_at hl 4 rfl) ?_
                                obtain ⟨u139, hu139, hf⟩ := ob hf
                                obtain ⟨x140, hx140, hf⟩ := ob hf
                                refine r_callV (As := []) (rest := []) (st1 := [.int x140]) C hR (lv_sub hl [] rfl) (c_X9_thrown hx140) mv_X9_thrown ml_L_127 ⟨rfl, rfl, (Nat.le_of_ble_eq_true rfl), (Nat.le_of_ble_eq_true rfl)⟩ (rv_obj C hR hu139 (q := (RX9, TX9, 17)) rfl) rfl rfl rfl (Nat.le_of_ble_eq_true rfl) ⟨by show _ ≤ 603072; omega, by show _ ≤ 7178346; omega⟩ dL_law_912 (fun H locs hR => ?_)
                                refine lv_iload hx hb dL_law_915 (lv_at hl 1 rfl) ?_
                                refine lv_icmp_eq (tgt := 922) hx hb dL_law_917 (by decide) (fun c917 => ?_) (fun c917 => ?_)
                                · have hf := ip hf c917
                                  refine lv_iload hx hb dL_law_922 (lv_at hl 1 rfl) ?_
                                  refine lv_if_ne (tgt := 939) hx hb dL_law_924 (by decide) (fun c924 => ?_) (fun c924 => ?_)
                                  · have hf := iq hf c924
                                    refine lv_goto (tgt := 1994) hx hb dL_law_939 (by decide) ?_
                                    refine lv_iinc (v := v4 + 4) (lv' := [(4, .int (v4 + 4)), (6, .int q138.1), (5, .int q135.1), (0, .ref b), (1, .ref (kA K v1)), (2, .ref (kA K v2)), (3, .ref (kA K v3))]) hx hb dL_law_1994 hl (k := 6) rfl rfl (by decide) rfl (fun ls hl => ?_)
                                    refine lv_goto (tgt := 23) hx hb dL_law_1997 (by decide) ?_
                                    exact ih _ _ _ _ _ _ _ _ _ _ (by omega) (by omega) hf hR (lv_sub hl [3, 4, 5, 6, 0] rfl)
                                  · have hf := ip hf c924
                                    refine lv_aload_n hx hb dL_law_927 rfl (lv_at hl 5 rfl) ?_
                                    refine lv_iconst (v := 0) hx hb dL_law_928 (by decide) ?_
                                    obtain ⟨x141, hx141, hf⟩ := ob hf
                                    refine r_lald C hR hx141 dL_law_929 ?_
                                    refine lv_iload hx hb dL_law_930 (lv_at hl 0 rfl) ?_
                                    refine lv_i2l (v := (Int32.toInt64 q138.1)) hx hb dL_law_932 rfl ?_
                                    refine W.lcmp hx hb dL_law_933 ?_
                                    refine lv_if_eq (tgt := 939) hx hb dL_law_934 (by decide) (fun c934 => ?_) (fun c934 => ?_)
                                    · have hf := ip hf c934
                                      refine lv_goto (tgt := 1994) hx hb dL_law_939 (by decide) ?_
                                      refine lv_iinc (v := v4 + 4) (lv' := [(4, .int (v4 + 4)), (6, .int q138.1), (5, .int q135.1), (0, .ref b), (1, .ref (kA K v1)), (2, .ref (kA K v2)), (3, .ref (kA K v3))]) hx hb dL_law_1994 hl (k := 6) rfl rfl (by decide) rfl (fun ls hl => ?_)
                                      refine lv_goto (tgt := 23) hx hb dL_law_1997 (by decide) ?_
                                      exact ih _ _ _ _ _ _ _ _ _ _ (by omega) (by omega) hf hR (lv_sub hl [3, 4, 5, 6, 0] rfl)
                                    · have hf := iq hf c934
                                      refine lv_iconst (v := 0) hx hb dL_law_937 (by decide) ?_
                                      exact absurd (Option.some.inj hf) (by decide)
                                · have hf := iq hf c917
                                  refine lv_iconst (v := 0) hx hb dL_law_920 (by decide) ?_
                                  exact absurd (Option.some.inj hf) (by decide)
                              · have hf := iq hf c39_12
                                by_cases c39_13 : (x1 &&& 63) = 13
                                · have hf := ip hf c39_13
                                  refine lv_tableIn (tgt := 942) (off := 903) hx hb dL_law_39 (by rw [c39_13]; decide) (by rw [c39_13]; decide) (by rw [c39_13]; decide +kernel) (by decide) ?_
                                  refine lv_aload_n hx hb dL_law_942 rfl (lv_at hl 1 rfl) ?_
                                  refine lv_aload_n hx hb dL_law_943 rfl (lv_at hl 0 rfl) ?_
                                  refine lv_iload hx hb dL_law_944 (lv_at hl 4 rfl) ?_
                                  refine lv_iconst (v := 1) hx hb dL_law_946 (by decide) ?_
                                  refine lv_iadd hx hb dL_law_947 ?_
                                  obtain ⟨x142, hx142, hf⟩ := ob hf
                                  refine r_sld C hR hX hbl hbA hx142 dL_law_948 ?_
                                  refine lv_aload_n hx hb dL_law_949 rfl (lv_at hl 3 rfl) ?_
                                  obtain ⟨q143, hq143, hf⟩ := ob hf
                                  refine r_callSW (As := [.ref (kA K v1), .int x142, .ref (kA K v3)]) (rest := []) (st1 := [.int q143.1]) C hR (lv_sub hl [] rfl) (c_L_motions hl9 hq143) ms_L_motions ml_L_173 ⟨rfl, rfl, (Nat.le_of_ble_eq_true rfl), (Nat.le_of_ble_eq_true rfl)⟩ rfl rfl rfl (Nat.le_of_ble_eq_true rfl) ⟨by show _ ≤ 603072; omega, by show _ ≤ 7178346; omega⟩ dL_law_950 (fun H locs hR => ?_)
                                  refine lv_istore (lv' := [(5, .int q143.1), (0, .ref b), (1, .ref (kA K v1)), (2, .ref (kA K v2)), (3, .ref (kA K v3)), (4, .int v4)]) hx hb dL_law_953 hl (by decide) rfl (fun ls hl => ?_)
                                  refine lv_aload_n hx hb dL_law_955 rfl (lv_at hl 3 rfl) ?_
                                  refine lv_aload_n hx hb dL_law_956 rfl (lv_at hl 1 rfl) ?_
                                  refine lv_iload hx hb dL_law_957 (lv_at hl 5 rfl) ?_
                                  refine lv_iconst (v := 1) hx hb dL_law_959 (by decide) ?_
                                  refine lv_iadd hx hb dL_law_960 ?_
                                  obtain ⟨x144, hx144, hf⟩ := ob hf
                                  refine r_sld C hR hX hbl hbA hx144 dL_law_961 ?_
                                  obtain ⟨u145, hu145, hf⟩ := ob hf
                                  obtain ⟨q146, hq146, hf⟩ := ob hf
                                  refine r_callV (As := [.int x144]) (rest := []) (st1 := [.int q146.1]) C hR (lv_sub hl [] rfl) (c_X9_motions hq146) mv_X9_motions ml_L_175 ⟨rfl, rfl, (Nat.le_of_ble_eq_true rfl), (Nat.le_of_ble_eq_true rfl)⟩ (rv_obj C hR hu145 (q := (RX9, TX9, 17)) rfl) rfl rfl rfl (Nat.le_of_ble_eq_true rfl) ⟨by show _ ≤ 603072; omega, by show _ ≤ 7178346; omega⟩ dL_law_962 (fun H locs hR => ?_)
                                  refine lv_istore (lv' := [(6, .int q146.1), (5, .int q143.1), (0, .ref b), (1, .ref (kA K v1)), (2, .ref (kA K v2)), (3, .ref (kA K v3)), (4, .int v4)]) hx hb dL_law_965 hl (by decide) rfl (fun ls hl => ?_)
                                  refine lv_aload_n hx hb dL_law_967 rfl (lv_at hl 4 rfl) ?_
                                  obtain ⟨u147, hu147, hf⟩ := ob hf
                                  obtain ⟨x148, hx148, hf⟩ := ob hf
                                  refine r_callV (As := []) (rest := []) (st1 := [.int x148]) C hR (lv_sub hl [] rfl) (c_X9_thrown hx148) mv_X9_thrown ml_L_127 ⟨rfl, rfl, (Nat.le_of_ble_eq_true rfl), (Nat.le_of_ble_eq_true rfl)⟩ (rv_obj C hR hu147 (q := (RX9, TX9, 17)) rfl) rfl rfl rfl (Nat.le_of_ble_eq_true rfl) ⟨by show _ ≤ 603072; omega, by show _ ≤ 7178346; omega⟩ dL_law_968 (fun H locs hR => ?_)
                                  refine lv_iload hx hb dL_law_971 (lv_at hl 1 rfl) ?_
                                  refine lv_icmp_eq (tgt := 978) hx hb dL_law_973 (by decide) (fun c973 => ?_) (fun c973 => ?_)
                                  · have hf := ip hf c973
                                    refine lv_iload hx hb dL_law_978 (lv_at hl 1 rfl) ?_
                                    refine lv_if_ne (tgt := 995) hx hb dL_law_980 (by decide) (fun c980 => ?_) (fun c980 => ?_)
                                    · have hf := iq hf c980
                                      refine lv_goto (tgt := 1994) hx hb dL_law_995 (by decide) ?_
                                      refine lv_iinc (v := v4 + 4) (lv' := [(4, .int (v4 + 4)), (6, .int q146.1), (5, .int q143.1), (0, .ref b), (1, .ref (kA K v1)), (2, .ref (kA K v2)), (3, .ref (kA K v3))]) hx hb dL_law_1994 hl (k := 6) rfl rfl (by decide) rfl (fun ls hl => ?_)
                                      refine lv_goto (tgt := 23) hx hb dL_law_1997 (by decide) ?_
                                      exact ih _ _ _ _ _ _ _ _ _ _ (by omega) (by omega) hf hR (lv_sub hl [3, 4, 5, 6, 0] rfl)
                                    · have hf := ip hf c980
                                      refine lv_aload_n hx hb dL_law_983 rfl (lv_at hl 5 rfl) ?_
                                      refine lv_iconst (v := 0) hx hb dL_law_984 (by decide) ?_
                                      obtain ⟨x149, hx149, hf⟩ := ob hf
                                      refine r_lald C hR hx149 dL_law_985 ?_
                                      refine lv_iload hx hb dL_law_986 (lv_at hl 0 rfl) ?_
                                      refine lv_i2l (v := (Int32.toInt64 q146.1)) hx hb dL_law_988 rfl ?_
                                      refine W.lcmp hx hb dL_law_989 ?_
                                      refine lv_if_eq (tgt := 995) hx hb dL_law_990 (by decide) (fun c990 => ?_) (fun c990 => ?_)
                                      · have hf := ip hf c990
                                        refine lv_goto (tgt := 1994) hx hb dL_law_995 (by decide) ?_
                                        refine lv_iinc (v := v4 + 4) (lv' := [(4, .int (v4 + 4)), (6, .int q146.1), (5, .int q143.1), (0, .ref b), (1, .ref (kA K v1)), (2, .ref (kA K v2)), (3, .ref (kA K v3))]) hx hb dL_law_1994 hl (k := 6) rfl rfl (by decide) rfl (fun ls hl => ?_)
                                        refine lv_goto (tgt := 23) hx hb dL_law_1997 (by decide) ?_
                                        exact ih _ _ _ _ _ _ _ _ _ _ (by omega) (by omega) hf hR (lv_sub hl [3, 4, 5, 6, 0] rfl)
                                      · have hf := iq hf c990
                                        refine lv_iconst (v := 0) hx hb dL_law_993 (by decide) ?_
                                        exact absurd (Option.some.inj hf) (by decide)
                                  · have hf := iq hf c973
                                    refine lv_iconst (v := 0) hx hb dL_law_976 (by decide) ?_
                                    exact absurd (Option.some.inj hf) (by decide)
                                · have hf := iq hf c39_13
                                  by_cases c39_14 : (x1 &&& 63) = 14
                                  · have hf := ip hf c39_14
                                    refine lv_tableIn (tgt := 998) (off := 959) hx hb dL_law_39 (by rw [c39_14]; decide) (by rw [c39_14]; decide) (by rw [c39_14]; decide +kernel) (by decide) ?_
                                    refine lv_aload_n hx hb dL_law_998 rfl (lv_at hl 1 rfl) ?_
                                    refine lv_aload_n hx hb dL_law_999 rfl (lv_at hl 3 rfl) ?_
                                    obtain ⟨q150, hq150, hf⟩ := ob hf
                                    refine r_callSW (As := [.ref (kA K v1), .ref (kA K v3)]) (rest := []) (st1 := [.int q150.1]) C hR (lv_sub hl [] rfl) (c_L_contraryBits hl9 hq150) ms_L_contraryBits ml_L_176 ⟨rfl, rfl, (Nat.le_of_ble_eq_true rfl), (Nat.le_of_ble_eq_true rfl)⟩ rfl rfl rfl (Nat.le_of_ble_eq_true rfl) ⟨by show _ ≤ 603072; omega, by show _ ≤ 7178346; omega⟩ dL_law_1000 (fun H locs hR => ?_)
                                    refine lv_istore (lv' := [(5, .int q150.1), (0, .ref b), (1, .ref (kA K v1)), (2, .ref (kA K v2)), (3, .ref (kA K v3)), (4, .int v4)]) hx hb dL_law_1003 hl (by decide) rfl (fun ls hl => ?_)
                                    refine lv_aload_n hx hb dL_law_1005 rfl (lv_at hl 3 rfl) ?_
                                    obtain ⟨u151, hu151, hf⟩ := ob hf
                                    obtain ⟨q152, hq152, hf⟩ := ob hf
                                    refine r_callV (As := []) (rest := []) (st1 := [.int q152.1]) C hR (lv_sub hl [] rfl) (c_X9_contraryBits hq152) mv_X9_contraryBits ml_L_178 ⟨rfl, rfl, (Nat.le_of_ble_eq_true rfl), (Nat.le_of_ble_eq_true rfl)⟩ (rv_obj C hR hu151 (q := (RX9, TX9, 17)) rfl) rfl rfl rfl (Nat.le_of_ble_eq_true rfl) ⟨by show _ ≤ 603072; omega, by show _ ≤ 7178346; omega⟩ dL_law_1006 (fun H locs hR => ?_)
                                    refine lv_istore (lv' := [(6, .int q152.1), (5, .int q150.1), (0, .ref b), (1, .ref (kA K v1)), (2, .ref (kA K v2)), (3, .ref (kA K v3)), (4, .int v4)]) hx hb dL_law_1009 hl (by decide) rfl (fun ls hl => ?_)
                                    refine lv_aload_n hx hb dL_law_1011 rfl (lv_at hl 4 rfl) ?_
                                    obtain ⟨u153, hu153, hf⟩ := ob hf
                                    obtain ⟨x154, hx154, hf⟩ := ob hf
                                    refine r_callV (As := []) (rest := []) (st1 := [.int x154]) C hR (lv_sub hl [] rfl) (c_X9_thrown hx154) mv_X9_thrown ml_L_127 ⟨rfl, rfl, (Nat.le_of_ble_eq_true rfl), (Nat.le_of_ble_eq_true rfl)⟩ (rv_obj C hR hu153 (q := (RX9, TX9, 17)) rfl) rfl rfl rfl (Nat.le_of_ble_eq_true rfl) ⟨by show _ ≤ 603072; omega, by show _ ≤ 7178346; omega⟩ dL_law_1012 (fun H locs hR => ?_)
                                    refine lv_iload hx hb dL_law_1015 (lv_at hl 1 rfl) ?_
                                    refine lv_icmp_eq (tgt := 1022) hx hb dL_law_1017 (by decide) (fun c1017 => ?_) (fun c1017 => ?_)
                                    · have hf := ip hf c1017
                                      refine lv_iload hx hb dL_law_1022 (lv_at hl 1 rfl) ?_
                                      refine lv_if_ne (tgt := 1039) hx hb dL_law_1024 (by decide) (fun c1024 => ?_) (fun c1024 => ?_)
                                      · have hf := iq hf c1024
                                        refine lv_goto (tgt := 1994) hx hb dL_law_1039 (by decide) ?_
                                        refine lv_iinc (v := v4 + 4) (lv' := [(4, .int (v4 + 4)), (6, .int q152.1), (5, .int q150.1), (0, .ref b), (1, .ref (kA K v1)), (2, .ref (kA K v2)), (3, .ref (kA K v3))]) hx hb dL_law_1994 hl (k := 6) rfl rfl (by decide) rfl (fun ls hl => ?_)
                                        refine lv_goto (tgt := 23) hx hb dL_law_1997 (by decide) ?_
                                        exact ih _ _ _ _ _ _ _ _ _ _ (by omega) (by omega) hf hR (lv_sub hl [3, 4, 5, 6, 0] rfl)
                                      · have hf := ip hf c1024
                                        refine lv_aload_n hx hb dL_law_1027 rfl (lv_at hl 5 rfl) ?_
                                        refine lv_iconst (v := 0) hx hb dL_law_1028 (by decide) ?_
                                        obtain ⟨x155, hx155, hf⟩ := ob hf
                                        refine r_lald C hR hx155 dL_law_1029 ?_
                                        refine lv_iload hx hb dL_law_1030 (lv_at hl 0 rfl) ?_
                                        refine lv_i2l (v := (Int32.toInt64 q152.1)) hx hb dL_law_1032 rfl ?_
                                        refine W.lcmp hx hb dL_law_1033 ?_
                                        refine lv_if_eq (tgt := 1039) hx hb dL_law_1034 (by decide) (fun c1034 => ?_) (fun c1034 => ?_)
                                        · have hf := ip hf c1034
                                          refine lv_goto (tgt := 1994) hx hb dL_law_1039 (by decide) ?_
                                          refine lv_iinc (v := v4 + 4) (lv' := [(4, .int (v4 + 4)), (6, .int q152.1), (5, .int q150.1), (0, .ref b), (1, .ref (kA K v1)), (2, .ref (kA K v2)), (3, .ref (kA K v3))]) hx hb dL_law_1994 hl (k := 6) rfl rfl (by decide) rfl (fun ls hl => ?_)
                                          refine lv_goto (tgt := 23) hx hb dL_law_1997 (by decide) ?_
                                          exact ih _ _ _ _ _ _ _ _ _ _ (by omega) (by omega) hf hR (lv_sub hl [3, 4, 5, 6, 0] rfl)
                                        · have hf := iq hf c1034
                                          refine lv_iconst (v := 0) hx hb dL_law_1037 (by decide) ?_
                                          exact absurd (Option.some.inj hf) (by decide)
                                    · have hf := iq hf c1017
                                      refine lv_iconst (v := 0) hx hb dL_law_1020 (by decide) ?_
                                      exact absurd (Option.some.inj hf) (by decide)
                                  · have hf := iq hf c39_14
                                    by_cases c39_15 : (x1 &&& 63) = 15
                                    · have hf := ip hf c39_15
                                      refine lv_tableIn (tgt := 1042) (off := 1003) hx hb dL_law_39 (by rw [c39_15]; decide) (by rw [c39_15]; decide) (by rw [c39_15]; decide +kernel) (by decide) ?_
                                      refine lv_aload_n hx hb dL_law_1042 rfl (lv_at hl 1 rfl) ?_
                                      refine lv_aload_n hx hb dL_law_1043 rfl (lv_at hl 3 rfl) ?_
                                      obtain ⟨q156, hq156, hf⟩ := ob hf
                                      refine r_callSW (As := [.ref (kA K v1), .ref (kA K v3)]) (rest := []) (st1 := [.int q156.1]) C hR (lv_sub hl [] rfl) (c_L_meanBits hl9 hq156) ms_L_meanBits ml_L_179 ⟨rfl, rfl, (Nat.le_of_ble_eq_true rfl), (Nat.le_of_ble_eq_true rfl)⟩ rfl rfl rfl (Nat.le_of_ble_eq_true rfl) ⟨by show _ ≤ 603072; omega, by show _ ≤ 7178346; omega⟩ dL_law_1044 (fun H locs hR => ?_)
                                      refine lv_istore (lv' := [(5, .int q156.1), (0, .ref b), (1, .ref (kA K v1)), (2, .ref (kA K v2)), (3, .ref (kA K v3)), (4, .int v4)]) hx hb dL_law_1047 hl (by decide) rfl (fun ls hl => ?_)
                                      refine lv_aload_n hx hb dL_law_1049 rfl (lv_at hl 3 rfl) ?_
                                      obtain ⟨u157, hu157, hf⟩ := ob hf
                                      obtain ⟨q158, hq158, hf⟩ := ob hf
                                      refine r_callV (As := []) (rest := []) (st1 := [.long q158.1]) C hR (lv_sub hl [] rfl) (c_X9_meanBits hq158) mv_X9_meanBits ml_L_181 ⟨rfl, rfl, (Nat.le_of_ble_eq_true rfl), (Nat.le_of_ble_eq_true rfl)⟩ (rv_obj C hR hu157 (q := (RX9, TX9, 17)) rfl) rfl rfl rfl (Nat.le_of_ble_eq_true rfl) ⟨by show _ ≤ 603072; omega, by show _ ≤ 7178346; omega⟩ dL_law_1050 (fun H locs hR => ?_)
                                      refine lv_lstore (lv' := [(6, .long q158.1), (5, .int q156.1), (0, .ref b), (1, .ref (kA K v1)), (2, .ref (kA K v2)), (3, .ref (kA K v3)), (4, .int v4)]) hx hb dL_law_1053 hl (by decide) rfl (fun ls hl => ?_)
                                      refine lv_aload_n hx hb dL_law_1055 rfl (lv_at hl 4 rfl) ?_
                                      obtain ⟨u159, hu159, hf⟩ := ob hf
                                      obtain ⟨x160, hx160, hf⟩ := ob hf
                                      refine r_callV (As := []) (rest := []) (st1 := [.int x160]) C hR (lv_sub hl [] rfl) (c_X9_thrown hx160) mv_X9_thrown ml_L_127 ⟨rfl, rfl, (Nat.le_of_ble_eq_true rfl), (Nat.le_of_ble_eq_true rfl)⟩ (rv_obj C hR hu159 (q := (RX9, TX9, 17)) rfl) rfl rfl rfl (Nat.le_of_ble_eq_true rfl) ⟨by show _ ≤ 603072; omega, by show _ ≤ 7178346; omega⟩ dL_law_1056 (fun H locs hR => ?_)
                                      refine lv_iload hx hb dL_law_1059 (lv_at hl 1 rfl) ?_
                                      refine lv_icmp_eq (tgt := 1066) hx hb dL_law_1061 (by decide) (fun c1061 => ?_) (fun c1061 => ?_)
                                      · have hf := ip hf c1061
                                        refine lv_iload hx hb dL_law_1066 (lv_at hl 1 rfl) ?_
                                        refine lv_if_ne (tgt := 1082) hx hb dL_law_1068 (by decide) (fun c1068 => ?_) (fun c1068 => ?_)
                                        · have hf := iq hf c1068
                                          refine lv_goto (tgt := 1994) hx hb dL_law_1082 (by decide) ?_
                                          refine lv_iinc (v := v4 + 4) (lv' := [(4, .int (v4 + 4)), (6, .long q158.1), (5, .int q156.1), (0, .ref b), (1, .ref (kA K v1)), (2, .ref (kA K v2)), (3, .ref (kA K v3))]) hx hb dL_law_1994 hl (k := 6) rfl rfl (by decide) rfl (fun ls hl => ?_)
                                          refine lv_goto (tgt := 23) hx hb dL_law_1997 (by decide) ?_
                                          exact ih _ _ _ _ _ _ _ _ _ _ (by omega) (by omega) hf hR (lv_sub hl [3, 4, 5, 6, 0] rfl)
                                        · have hf := ip hf c1068
                                          refine lv_aload_n hx hb dL_law_1071 rfl (lv_at hl 5 rfl) ?_
                                          refine lv_iconst (v := 0) hx hb dL_law_1072 (by decide) ?_
                                          obtain ⟨x161, hx161, hf⟩ := ob hf
                                          refine r_lald C hR hx161 dL_law_1073 ?_
                                          refine lv_lload hx hb dL_law_1074 (lv_at hl 0 rfl) ?_
                                          refine W.lcmp hx hb dL_law_1076 ?_
                                          refine lv_if_eq (tgt := 1082) hx hb dL_law_1077 (by decide) (fun c1077 => ?_) (fun c1077 => ?_)
                                          · have hf := ip hf c1077
                                            refine lv_goto (tgt := 1994) hx hb dL_law_1082 (by decide) ?_
                                            refine lv_iinc (v := v4 + 4) (lv' := [(4, .int (v4 + 4)), (6, .long q158.1), (5, .int q156.1), (0, .ref b), (1, .ref (kA K v1)), (2, .ref (kA K v2)), (3, .ref (kA K v3))]) hx hb dL_law_1994 hl (k := 6) rfl rfl (by decide) rfl (fun ls hl => ?_)
                                            refine lv_goto (tgt := 23) hx hb dL_law_1997 (by decide) ?_
                                            exact ih _ _ _ _ _ _ _ _ _ _ (by omega) (by omega) hf hR (lv_sub hl [3, 4, 5, 6, 0] rfl)
                                          · have hf := iq hf c1077
                                            refine lv_iconst (v := 0) hx hb dL_law_1080 (by decide) ?_
                                            exact absurd (Option.some.inj hf) (by decide)
                                      · have hf := iq hf c1061
                                        refine lv_iconst (v := 0) hx hb dL_law_1064 (by decide) ?_
                                        exact absurd (Option.some.inj hf) (by decide)
                                    · have hf := iq hf c39_15
                                      by_cases c39_16 : (x1 &&& 63) = 16
                                      · have hf := ip hf c39_16
                                        refine lv_tableIn (tgt := 1085) (off := 1046) hx hb dL_law_39 (by rw [c39_16]; decide) (by rw [c39_16]; decide) (by rw [c39_16]; decide +kernel) (by decide) ?_
                                        refine lv_aload_n hx hb dL_law_1085 rfl (lv_at hl 1 rfl) ?_
                                        refine lv_aload_n hx hb dL_law_1086 rfl (lv_at hl 0 rfl) ?_
                                        refine lv_iload hx hb dL_law_1087 (lv_at hl 4 rfl) ?_
                                        refine lv_iconst (v := 1) hx hb dL_law_1089 (by decide) ?_
                                        refine lv_iadd hx hb dL_law_1090 ?_
                                        obtain ⟨x162, hx162, hf⟩ := ob hf
                                        refine r_sld C hR hX hbl hbA hx162 dL_law_1091 ?_
                                        refine lv_aload_n hx hb dL_law_1092 rfl (lv_at hl 0 rfl) ?_
                                        refine lv_iload hx hb dL_law_1093 (lv_at hl 4 rfl) ?_
                                        refine lv_iconst (v := 2) hx hb dL_law_1095 (by decide) ?_
                                        refine lv_iadd hx hb dL_law_1096 ?_
                                        obtain ⟨x163, hx163, hf⟩ := ob hf
                                        refine r_sld C hR hX hbl hbA hx163 dL_law_1097 ?_
                                        refine lv_aload_n hx hb dL_law_1098 rfl (lv_at hl 3 rfl) ?_
                                        obtain ⟨q164, hq164, hf⟩ := ob hf
                                        refine r_callSW (As := [.ref (kA K v1), .int x162, .int x163, .ref (kA K v3)]) (rest := []) (st1 := [.int q164.1]) C hR (lv_sub hl [] rfl) (c_L_setWeight hl9 hq164) ms_L_setWeight ml_L_182 ⟨rfl, rfl, (Nat.le_of_ble_eq_true rfl), (Nat.le_of_ble_eq_true rfl)⟩ rfl rfl rfl (Nat.le_of_ble_eq_true rfl) ⟨by show _ ≤ 603072; omega, by show _ ≤ 7178346; omega⟩ dL_law_1099 (fun H locs hR => ?_)
                                        refine lv_istore (lv' := [(5, .int q164.1), (0, .ref b), (1, .ref (kA K v1)), (2, .ref (kA K v2)), (3, .ref (kA K v3)), (4, .int v4)]) hx hb dL_law_1102 hl (by decide) rfl (fun ls hl => ?_)
                                        refine lv_aload_n hx hb dL_law_1104 rfl (lv_at hl 3 rfl) ?_
                                        refine lv_aload_n hx hb dL_law_1105 rfl (lv_at hl 1 rfl) ?_
                                        refine lv_iload hx hb dL_law_1106 (lv_at hl 5 rfl) ?_
                                        refine lv_iconst (v := 1) hx hb dL_law_1108 (by decide) ?_
                                        refine lv_iadd hx hb dL_law_1109 ?_
                                        obtain ⟨x165, hx165, hf⟩ := ob hf
                                        refine r_sld C hR hX hbl hbA hx165 dL_law_1110 ?_
                                        refine lv_aload_n hx hb dL_law_1111 rfl (lv_at hl 1 rfl) ?_
                                        refine lv_iload hx hb dL_law_1112 (lv_at hl 5 rfl) ?_
                                        refine lv_iconst (v := 2) hx hb dL_law_1114 (by decide) ?_
                                        refine lv_iadd hx hb dL_law_1115 ?_
                                        obtain ⟨x166, hx166, hf⟩ := ob hf
                                        refine r_sld C hR hX hbl hbA hx166 dL_law_1116 ?_
                                        obtain ⟨u167, hu167, hf⟩ := ob hf
                                        obtain ⟨q168, hq168, hf⟩ := ob hf
                                        refine r_callV (As := [.int x165, .int x166]) (rest := []) (st1 := [.int q168.1]) C hR (lv_sub hl [] rfl) (c_X9_setWeight hq168) mv_X9_setWeight ml_L_184 ⟨rfl, rfl, (Nat.le_of_ble_eq_true rfl), (Nat.le_of_ble_eq_true rfl)⟩ (rv_obj C hR hu167 (q := (RX9, TX9, 17)) rfl) rfl rfl rfl (Nat.le_of_ble_eq_true rfl) ⟨by show _ ≤ 603072; omega, by show _ ≤ 7178346; omega⟩ dL_law_1117 (fun H locs hR => ?_)
                                        refine lv_istore (lv' := [(6, .int q168.1), (5, .int q164.1), (0, .ref b), (1, .ref (kA K v1)), (2, .ref (kA K v2)), (3, .ref (kA K v3)), (4, .int v4)]) hx hb dL_law_1120 hl (by decide) rfl (fun ls hl => ?_)
                                        refine lv_aload_n hx hb dL_law_1122 rfl (lv_at hl 4 rfl) ?_
                                        obtain ⟨u169, hu169, hf⟩ := ob hf
                                        obtain ⟨x170, hx170, hf⟩ := ob hf
                                        refine r_callV (As := []) (rest := []) (st1 := [.int x170]) C hR (lv_sub hl [] rfl) (c_X9_thrown hx170) mv_X9_thrown ml_L_127 ⟨rfl, rfl, (Nat.le_of_ble_eq_true rfl), (Nat.le_of_ble_eq_true rfl)⟩ (rv_obj C hR hu169 (q := (RX9, TX9, 17)) rfl) rfl rfl rfl (Nat.le_of_ble_eq_true rfl) ⟨by show _ ≤ 603072; omega, by show _ ≤ 7178346; omega⟩ dL_law_1123 (fun H locs hR => ?_)
                                        refine lv_iload hx hb dL_law_1126 (lv_at hl 1 rfl) ?_
                                        refine lv_icmp_eq (tgt := 1133) hx hb dL_law_1128 (by decide) (fun c1128 => ?_) (fun c1128 => ?_)
                                        · have hf := ip hf c1128
                                          refine lv_iload hx hb dL_law_1133 (lv_at hl 1 rfl) ?_
                                          refine lv_if_ne (tgt := 1150) hx hb dL_law_1135 (by decide) (fun c1135 => ?_) (fun c1135 => ?_)
                                          · have hf := iq hf c1135
                                            refine lv_goto (tgt := 1994) hx hb dL_law_1150 (by decide) ?_
                                            refine lv_iinc (v := v4 + 4) (lv' := [(4, .int (v4 + 4)), (6, .int q168.1), (5, .int q164.1), (0, .ref b), (1, .ref (kA K v1)), (2, .ref (kA K v2)), (3, .ref (kA K v3))]) hx hb dL_law_1994 hl (k := 6) rfl rfl (by decide) rfl (fun ls hl => ?_)
                                            refine lv_goto (tgt := 23) hx hb dL_law_1997 (by decide) ?_
                                            exact ih _ _ _ _ _ _ _ _ _ _ (by omega) (by omega) hf hR (lv_sub hl [3, 4, 5, 6, 0] rfl)
                                          · have hf := ip hf c1135
                                            refine lv_aload_n hx hb dL_law_1138 rfl (lv_at hl 5 rfl) ?_
                                            refine lv_iconst (v := 0) hx hb dL_law_1139 (by decide) ?_
                                            obtain ⟨x171, hx171, hf⟩ := ob hf
                                            refine r_lald C hR hx171 dL_law_1140 ?_
                                            refine lv_iload hx hb dL_law_1141 (lv_at hl 0 rfl) ?_
                                            refine lv_i2l (v := (Int32.toInt64 q168.1)) hx hb dL_law_1143 rfl ?_
                                            refine W.lcmp hx hb dL_law_1144 ?_
                                            refine lv_if_eq (tgt := 1150) hx hb dL_law_1145 (by decide) (fun c1145 => ?_) (fun c1145 => ?_)
                                            · have hf := ip hf c1145
                                              refine lv_goto (tgt := 1994) hx hb dL_law_1150 (by decide) ?_
                                              refine lv_iinc (v := v4 + 4) (lv' := [(4, .int (v4 + 4)), (6, .int q168.1), (5, .int q164.1), (0, .ref b), (1, .ref (kA K v1)), (2, .ref (kA K v2)), (3, .ref (kA K v3))]) hx hb dL_law_1994 hl (k := 6) rfl rfl (by decide) rfl (fun ls hl => ?_)
                                              refine lv_goto (tgt := 23) hx hb dL_law_1997 (by decide) ?_
                                              exact ih _ _ _ _ _ _ _ _ _ _ (by omega) (by omega) hf hR (lv_sub hl [3, 4, 5, 6, 0] rfl)
                                            · have hf := iq hf c1145
                                              refine lv_iconst (v := 0) hx hb dL_law_1148 (by decide) ?_
                                              exact absurd (Option.some.inj hf) (by decide)
                                        · have hf := iq hf c1128
                                          refine lv_iconst (v := 0) hx hb dL_law_1131 (by decide) ?_
                                          exact absurd (Option.some.inj hf) (by decide)
                                      · have hf := iq hf c39_16
                                        by_cases c39_17 : (x1 &&& 63) = 17
                                        · have hf := ip hf c39_17
                                          refine lv_tableIn (tgt := 1153) (off := 1114) hx hb dL_law_39 (by rw [c39_17]; decide) (by rw [c39_17]; decide) (by rw [c39_17]; decide +kernel) (by decide) ?_
                                          refine lv_aload_n hx hb dL_law_1153 rfl (lv_at hl 1 rfl) ?_
                                          refine lv_aload_n hx hb dL_law_1154 rfl (lv_at hl 3 rfl) ?_
                                          obtain ⟨q172, hq172, hf⟩ := ob hf
                                          refine r_callSW (As := [.ref (kA K v1), .ref (kA K v3)]) (rest := []) (st1 := [.int q172.1]) C hR (lv_sub hl [] rfl) (c_L_weights hl9 hq172) ms_L_weights ml_L_185 ⟨rfl, rfl, (Nat.le_of_ble_eq_true rfl), (Nat.le_of_ble_eq_true rfl)⟩ rfl rfl rfl (Nat.le_of_ble_eq_true rfl) ⟨by show _ ≤ 603072; omega, by show _ ≤ 7178346; omega⟩ dL_law_1155 (fun H locs hR => ?_)
                                          refine lv_istore (lv' := [(5, .int q172.1), (0, .ref b), (1, .ref (kA K v1)), (2, .ref (kA K v2)), (3, .ref (kA K v3)), (4, .int v4)]) hx hb dL_law_1158 hl (by decide) rfl (fun ls hl => ?_)
                                          refine lv_aload_n hx hb dL_law_1160 rfl (lv_at hl 3 rfl) ?_
                                          obtain ⟨u173, hu173, hf⟩ := ob hf
                                          obtain ⟨q174, hq174, hf⟩ := ob hf
                                          refine r_callV (As := []) (rest := []) (st1 := [.int q174.1]) C hR (lv_sub hl [] rfl) (c_X9_weights hq174) mv_X9_weights ml_L_187 ⟨rfl, rfl, (Nat.le_of_ble_eq_true rfl), (Nat.le_of_ble_eq_true rfl)⟩ (rv_obj C hR hu173 (q := (RX9, TX9, 17)) rfl) rfl rfl rfl (Nat.le_of_ble_eq_true rfl) ⟨by show _ ≤ 603072; omega, by show _ ≤ 7178346; omega⟩ dL_law_1161 (fun H locs hR => ?_)
                                          refine lv_istore (lv' := [(6, .int q174.1), (5, .int q172.1), (0, .ref b), (1, .ref (kA K v1)), (2, .ref (kA K v2)), (3, .ref (kA K v3)), (4, .int v4)]) hx hb dL_law_1164 hl (by decide) rfl (fun ls hl => ?_)
                                          refine lv_aload_n hx hb dL_law_1166 rfl (lv_at hl 4 rfl) ?_
                                          obtain ⟨u175, hu175, hf⟩ := ob hf
                                          obtain ⟨x176, hx176, hf⟩ := ob hf
                                          refine r_callV (As := []) (rest := []) (st1 := [.int x176]) C hR (lv_sub hl [] rfl) (c_X9_thrown hx176) mv_X9_thrown ml_L_127 ⟨rfl, rfl, (Nat.le_of_ble_eq_true rfl), (Nat.le_of_ble_eq_true rfl)⟩ (rv_obj C hR hu175 (q := (RX9, TX9, 17)) rfl) rfl rfl rfl (Nat.le_of_ble_eq_true rfl) ⟨by show _ ≤ 603072; omega, by show _ ≤ 7178346; omega⟩ dL_law_1167 (fun H locs hR => ?_)
                                          refine lv_iload hx hb dL_law_1170 (lv_at hl 1 rfl) ?_
                                          refine lv_icmp_eq (tgt := 1177) hx hb dL_law_1172 (by decide) (fun c1172 => ?_) (fun c1172 => ?_)
                                          · have hf := ip hf c1172
                                            refine lv_iload hx hb dL_law_1177 (lv_at hl 1 rfl) ?_
                                            refine lv_if_ne (tgt := 1194) hx hb dL_law_1179 (by decide) (fun c1179 => ?_) (fun c1179 => ?_)
                                            · have hf := iq hf c1179
                                              refine lv_goto (tgt := 1994) hx hb dL_law_1194 (by decide) ?_
                                              refine lv_iinc (v := v4 + 4) (lv' := [(4, .int (v4 + 4)), (6, .int q174.1), (5, .int q172.1), (0, .ref b), (1, .ref (kA K v1)), (2, .ref (kA K v2)), (3, .ref (kA K v3))]) hx hb dL_law_1994 hl (k := 6) rfl rfl (by decide) rfl (fun ls hl => ?_)
                                              refine lv_goto (tgt := 23) hx hb dL_law_1997 (by decide) ?_
                                              exact ih _ _ _ _ _ _ _ _ _ _ (by omega) (by omega) hf hR (lv_sub hl [3, 4, 5, 6, 0] rfl)
                                            · have hf := ip hf c1179
                                              refine lv_aload_n hx hb dL_law_1182 rfl (lv_at hl 5 rfl) ?_
                                              refine lv_iconst (v := 0) hx hb dL_law_1183 (by decide) ?_
                                              obtain ⟨x177, hx177, hf⟩ := ob hf
                                              refine r_lald C hR hx177 dL_law_1184 ?_
                                              refine lv_iload hx hb dL_law_1185 (lv_at hl 0 rfl) ?_
                                              refine lv_i2l (v := (Int32.toInt64 q174.1)) hx hb dL_law_1187 rfl ?_
                                              refine W.lcmp hx hb dL_law_1188 ?_
                                              refine lv_if_eq (tgt := 1194) hx hb dL_law_1189 (by decide) (fun c1189 => ?_) (fun c1189 => ?_)
                                              · have hf := ip hf c1189
                                                refine lv_goto (tgt := 1994) hx hb dL_law_1194 (by decide) ?_
                                                refine lv_iinc (v := v4 + 4) (lv' := [(4, .int (v4 + 4)), (6, .int q174.1), (5, .int q172.1), (0, .ref b), (1, .ref (kA K v1)), (2, .ref (kA K v2)), (3, .ref (kA K v3))]) hx hb dL_law_1994 hl (k := 6) rfl rfl (by decide) rfl (fun ls hl => ?_)
                                                refine lv_goto (tgt := 23) hx hb dL_law_1997 (by decide) ?_
                                                exact ih _ _ _ _ _ _ _ _ _ _ (by omega) (by omega) hf hR (lv_sub hl [3, 4, 5, 6, 0] rfl)
                                              · have hf := iq hf c1189
                                                refine lv_iconst (v := 0) hx hb dL_law_1192 (by decide) ?_
                                                exact absurd (Option.some.inj hf) (by decide)
                                          · have hf := iq hf c1172
                                            refine lv_iconst (v := 0) hx hb dL_law_1175 (by decide) ?_
                                            exact absurd (Option.some.inj hf) (by decide)
                                        · have hf := iq hf c39_17
                                          by_cases c39_18 : (x1 &&& 63) = 18
                                          · have hf := ip hf c39_18
                                            refine lv_tableIn (tgt := 1197) (off := 1158) hx hb dL_law_39 (by rw [c39_18]; decide) (by rw [c39_18]; decide) (by rw [c39_18]; decide +kernel) (by decide) ?_
                                            refine lv_aload_n hx hb dL_law_1197 rfl (lv_at hl 1 rfl) ?_
                                            refine lv_aload_n hx hb dL_law_1198 rfl (lv_at hl 0 rfl) ?_
                                            refine lv_iload hx hb dL_law_1199 (lv_at hl 4 rfl) ?_
                                            refine lv_iconst (v := 1) hx hb dL_law_1201 (by decide) ?_
                                            refine lv_iadd hx hb dL_law_1202 ?_
                                            obtain ⟨x178, hx178, hf⟩ := ob hf
                                            refine r_sld C hR hX hbl hbA hx178 dL_law_1203 ?_
                                            refine lv_aload_n hx hb dL_law_1204 rfl (lv_at hl 3 rfl) ?_
                                            obtain ⟨q179, hq179, hf⟩ := ob hf
                                            refine r_callSW (As := [.ref (kA K v1), .int x178, .ref (kA K v3)]) (rest := []) (st1 := [.int q179.1]) C hR (lv_sub hl [] rfl) (c_L_weight hl9 hq179) ms_L_weight ml_L_188 ⟨rfl, rfl, (Nat.le_of_ble_eq_true rfl), (Nat.le_of_ble_eq_true rfl)⟩ rfl rfl rfl (Nat.le_of_ble_eq_true rfl) ⟨by show _ ≤ 603072; omega, by show _ ≤ 7178346; omega⟩ dL_law_1205 (fun H locs hR => ?_)
                                            refine lv_istore (lv' := [(5, .int q179.1), (0, .ref b), (1, .ref (kA K v1)), (2, .ref (kA K v2)), (3, .ref (kA K v3)), (4, .int v4)]) hx hb dL_law_1208 hl (by decide) rfl (fun ls hl => ?_)
                                            refine lv_aload_n hx hb dL_law_1210 rfl (lv_at hl 3 rfl) ?_
                                            refine lv_aload_n hx hb dL_law_1211 rfl (lv_at hl 1 rfl) ?_
                                            refine lv_iload hx hb dL_law_1212 (lv_at hl 5 rfl) ?_
                                            refine lv_iconst (v := 1) hx hb dL_law_1214 (by decide) ?_
                                            refine lv_iadd hx hb dL_law_1215 ?_
                                            obtain ⟨x180, hx180, hf⟩ := ob hf
                                            refine r_sld C hR hX hbl hbA hx180 dL_law_1216 ?_
                                            obtain ⟨u181, hu181, hf⟩ := ob hf
                                            obtain ⟨q182, hq182, hf⟩ := ob hf
                                            refine r_callV (As := [.int x180]) (rest := []) (st1 := [.int q182.1]) C hR (lv_sub hl [] rfl) (c_X9_weight hq182) mv_X9_weight ml_L_190 ⟨rfl, rfl, (Nat.le_of_ble_eq_true rfl), (Nat.le_of_ble_eq_true rfl)⟩ (rv_obj C hR hu181 (q := (RX9, TX9, 17)) rfl) rfl rfl rfl (Nat.le_of_ble_eq_true rfl) ⟨by show _ ≤ 603072; omega, by show _ ≤ 7178346; omega⟩ dL_law_1217 (fun H locs hR => ?_)
                                            refine lv_istore (lv' := [(6, .int q182.1), (5, .int q179.1), (0, .ref b), (1, .ref (kA K v1)), (2, .ref (kA K v2)), (3, .ref (kA K v3)), (4, .int v4)]) hx hb dL_law_1220 hl (by decide) rfl (fun ls hl => ?_)
                                            refine lv_aload_n hx hb dL_law_1222 rfl (lv_at hl 4 rfl) ?_
                                            obtain ⟨u183, hu183, hf⟩ := ob hf
                                            obtain ⟨x184, hx184, hf⟩ := ob hf
                                            refine r_callV (As := []) (rest := []) (st1 := [.int x184]) C hR (lv_sub hl [] rfl) (c_X9_thrown hx184) mv_X9_thrown ml_L_127 ⟨rfl, rfl, (Nat.le_of_ble_eq_true rfl), (Nat.le_of_ble_eq_true rfl)⟩ (rv_obj C hR hu183 (q := (RX9, TX9, 17)) rfl) rfl rfl rfl (Nat.le_of_ble_eq_true rfl) ⟨by show _ ≤ 603072; omega, by show _ ≤ 7178346; omega⟩ dL_law_1223 (fun H locs hR => ?_)
                                            refine lv_iload hx hb dL_law_1226 (lv_at hl 1 rfl) ?_
                                            refine lv_icmp_eq (tgt := 1233) hx hb dL_law_1228 (by decide) (fun c1228 => ?_) (fun c1228 => ?_)
                                            · have hf := ip hf c1228
                                              refine lv_iload hx hb dL_law_1233 (lv_at hl 1 rfl) ?_
                                              refine lv_if_ne (tgt := 1250) hx hb dL_law_1235 (by decide) (fun c1235 => ?_) (fun c1235 => ?_)
                                              · have hf := iq hf c1235
                                                refine lv_goto (tgt := 1994) hx hb dL_law_1250 (by decide) ?_
                                                refine lv_iinc (v := v4 + 4) (lv' := [(4, .int (v4 + 4)), (6, .int q182.1), (5, .int q179.1), (0, .ref b), (1, .ref (kA K v1)), (2, .ref (kA K v2)), (3, .ref (kA K v3))]) hx hb dL_law_1994 hl (k := 6) rfl rfl (by decide) rfl (fun ls hl => ?_)
                                                refine lv_goto (tgt := 23) hx hb dL_law_1997 (by decide) ?_
                                                exact ih _ _ _ _ _ _ _ _ _ _ (by omega) (by omega) hf hR (lv_sub hl [3, 4, 5, 6, 0] rfl)
                                              · have hf := ip hf c1235
                                                refine lv_aload_n hx hb dL_law_1238 rfl (lv_at hl 5 rfl) ?_
                                                refine lv_iconst (v := 0) hx hb dL_law_1239 (by decide) ?_
                                                obtain ⟨x185, hx185, hf⟩ := ob hf
                                                refine r_lald C hR hx185 dL_law_1240 ?_
                                                refine lv_iload hx hb dL_law_1241 (lv_at hl 0 rfl) ?_
                                                refine lv_i2l (v := (Int32.toInt64 q182.1)) hx hb dL_law_1243 rfl ?_
                                                refine W.lcmp hx hb dL_law_1244 ?_
                                                refine lv_if_eq (tgt := 1250) hx hb dL_law_1245 (by decide) (fun c1245 => ?_) (fun c1245 => ?_)
                                                · have hf := ip hf c1245
                                                  refine lv_goto (tgt := 1994) hx hb dL_law_1250 (by decide) ?_
                                                  refine lv_iinc (v := v4 + 4) (lv' := [(4, .int (v4 + 4)), (6, .int q182.1), (5, .int q179.1), (0, .ref b), (1, .ref (kA K v1)), (2, .ref (kA K v2)), (3, .ref (kA K v3))]) hx hb dL_law_1994 hl (k := 6) rfl rfl (by decide) rfl (fun ls hl => ?_)
                                                  refine lv_goto (tgt := 23) hx hb dL_law_1997 (by decide) ?_
                                                  exact ih _ _ _ _ _ _ _ _ _ _ (by omega) (by omega) hf hR (lv_sub hl [3, 4, 5, 6, 0] rfl)
                                                · have hf := iq hf c1245
                                                  refine lv_iconst (v := 0) hx hb dL_law_1248 (by decide) ?_
                                                  exact absurd (Option.some.inj hf) (by decide)
                                            · have hf := iq hf c1228
                                              refine lv_iconst (v := 0) hx hb dL_law_1231 (by decide) ?_
                                              exact absurd (Option.some.inj hf) (by decide)
                                          · have hf := iq hf c39_18
                                            by_cases c39_19 : (x1 &&& 63) = 19
                                            · have hf := ip hf c39_19
                                              refine lv_tableIn (tgt := 1253) (off := 1214) hx hb dL_law_39 (by rw [c39_19]; decide) (by rw [c39_19]; decide) (by rw [c39_19]; decide +kernel) (by decide) ?_
                                              refine lv_aload_n hx hb dL_law_1253 rfl (lv_at hl 1 rfl) ?_
                                              refine lv_aload_n hx hb dL_law_1254 rfl (lv_at hl 0 rfl) ?_
                                              refine lv_iload hx hb dL_law_1255 (lv_at hl 4 rfl) ?_
                                              refine lv_iconst (v := 1) hx hb dL_law_1257 (by decide) ?_
                                              refine lv_iadd hx hb dL_law_1258 ?_
                                              obtain ⟨x186, hx186, hf⟩ := ob hf
                                              refine r_sld C hR hX hbl hbA hx186 dL_law_1259 ?_
                                              refine lv_aload_n hx hb dL_law_1260 rfl (lv_at hl 0 rfl) ?_
                                              refine lv_iload hx hb dL_law_1261 (lv_at hl 4 rfl) ?_
                                              refine lv_iconst (v := 2) hx hb dL_law_1263 (by decide) ?_
                                              refine lv_iadd hx hb dL_law_1264 ?_
                                              obtain ⟨x187, hx187, hf⟩ := ob hf
                                              refine r_sld C hR hX hbl hbA hx187 dL_law_1265 ?_
                                              refine lv_aload_n hx hb dL_law_1266 rfl (lv_at hl 3 rfl) ?_
                                              obtain ⟨q188, hq188, hf⟩ := ob hf
                                              refine r_callSW (As := [.ref (kA K v1), .int x186, .int x187, .ref (kA K v3)]) (rest := []) (st1 := [.int q188.1]) C hR (lv_sub hl [] rfl) (c_L_fault hl9 hq188) ms_L_fault ml_L_191 ⟨rfl, rfl, (Nat.le_of_ble_eq_true rfl), (Nat.le_of_ble_eq_true rfl)⟩ rfl rfl rfl (Nat.le_of_ble_eq_true rfl) ⟨by show _ ≤ 603072; omega, by show _ ≤ 7178346; omega⟩ dL_law_1267 (fun H locs hR => ?_)
                                              refine lv_istore (lv' := [(5, .int q188.1), (0, .ref b), (1, .ref (kA K v1)), (2, .ref (kA K v2)), (3, .ref (kA K v3)), (4, .int v4)]) hx hb dL_law_1270 hl (by decide) rfl (fun ls hl => ?_)
                                              refine lv_aload_n hx hb dL_law_1272 rfl (lv_at hl 3 rfl) ?_
                                              refine lv_aload_n hx hb dL_law_1273 rfl (lv_at hl 1 rfl) ?_
                                              refine lv_iload hx hb dL_law_1274 (lv_at hl 5 rfl) ?_
                                              refine lv_iconst (v := 1) hx hb dL_law_1276 (by decide) ?_
                                              refine lv_iadd hx hb dL_law_1277 ?_
                                              obtain ⟨x189, hx189, hf⟩ := ob hf
                                              refine r_sld C hR hX hbl hbA hx189 dL_law_1278 ?_
                                              refine lv_aload_n hx hb dL_law_1279 rfl (lv_at hl 1 rfl) ?_
                                              refine lv_iload hx hb dL_law_1280 (lv_at hl 5 rfl) ?_
                                              refine lv_iconst (v := 2) hx hb dL_law_1282 (by decide) ?_
                                              refine lv_iadd hx hb dL_law_1283 ?_
                                              obtain ⟨x190, hx190, hf⟩ := ob hf
                                              refine r_sld C hR hX hbl hbA hx190 dL_law_1284 ?_
                                              obtain ⟨u191, hu191, hf⟩ := ob hf
                                              obtain ⟨q192, hq192, hf⟩ := ob hf
                                              refine r_callV (As := [.int x189, .int x190]) (rest := []) (st1 := [.int q192.1]) C hR (lv_sub hl [] rfl) (c_X9_fault hq192) mv_X9_fault ml_L_193 ⟨rfl, rfl, (Nat.le_of_ble_eq_true rfl), (Nat.le_of_ble_eq_true rfl)⟩ (rv_obj C hR hu191 (q := (RX9, TX9, 17)) rfl) rfl rfl rfl (Nat.le_of_ble_eq_true rfl) ⟨by show _ ≤ 603072; omega, by show _ ≤ 7178346; omega⟩ dL_law_1285 (fun H locs hR => ?_)
                                              refine lv_istore (lv' := [(6, .int q192.1), (5, .int q188.1), (0, .ref b), (1, .ref (kA K v1)), (2, .ref (kA K v2)), (3, .ref (kA K v3)), (4, .int v4)]) hx hb dL_law_1288 hl (by decide) rfl (fun ls hl => ?_)
                                              refine lv_aload_n hx hb dL_law_1290 rfl (lv_at hl 4 rfl) ?_
                                              obtain ⟨u193, hu193, hf⟩ := ob hf
                                              obtain ⟨x194, hx194, hf⟩ := ob hf
                                              refine r_callV (As := []) (rest := []) (st1 := [.int x194]) C hR (lv_sub hl [] rfl) (c_X9_thrown hx194) mv_X9_thrown ml_L_127 ⟨rfl, rfl, (Nat.le_of_ble_eq_true rfl), (Nat.le_of_ble_eq_true rfl)⟩ (rv_obj C hR hu193 (q := (RX9, TX9, 17)) rfl) rfl rfl rfl (Nat.le_of_ble_eq_true rfl) ⟨by show _ ≤ 603072; omega, by show _ ≤ 7178346; omega⟩ dL_law_1291 (fun H locs hR => ?_)
                                              refine lv_iload hx hb dL_law_1294 (lv_at hl 1 rfl) ?_
                                              refine lv_icmp_eq (tgt := 1301) hx hb dL_law_1296 (by decide) (fun c1296 => ?_) (fun c1296 => ?_)
                                              · have hf := ip hf c1296
                                                refine lv_iload hx hb dL_law_1301 (lv_at hl 1 rfl) ?_
                                                refine lv_if_ne (tgt := 1318) hx hb dL_law_1303 (by decide) (fun c1303 => ?_) (fun c1303 => ?_)
                                                · have hf := iq hf c1303
                                                  refine lv_goto (tgt := 1994) hx hb dL_law_1318 (by decide) ?_
                                                  refine lv_iinc (v := v4 + 4) (lv' := [(4, .int (v4 + 4)), (6, .int q192.1), (5, .int q188.1), (0, .ref b), (1, .ref (kA K v1)), (2, .ref (kA K v2)), (3, .ref (kA K v3))]) hx hb dL_law_1994 hl (k := 6) rfl rfl (by decide) rfl (fun ls hl => ?_)
                                                  refine lv_goto (tgt := 23) hx hb dL_law_1997 (by decide) ?_
                                                  exact ih _ _ _ _ _ _ _ _ _ _ (by omega) (by omega) hf hR (lv_sub hl [3, 4, 5, 6, 0] rfl)
                                                · have hf := ip hf c1303
                                                  refine lv_aload_n hx hb dL_law_1306 rfl (lv_at hl 5 rfl) ?_
                                                  refine lv_iconst (v := 0) hx hb dL_law_1307 (by decide) ?_
                                                  obtain ⟨x195, hx195, hf⟩ := ob hf
                                                  refine r_lald C hR hx195 dL_law_1308 ?_
                                                  refine lv_iload hx hb dL_law_1309 (lv_at hl 0 rfl) ?_
                                                  refine lv_i2l (v := (Int32.toInt64 q192.1)) hx hb dL_law_1311 rfl ?_
                                                  refine W.lcmp hx hb dL_law_1312 ?_
                                                  refine lv_if_eq (tgt := 1318) hx hb dL_law_1313 (by decide) (fun c1313 => ?_) (fun c1313 => ?_)
                                                  · have hf := ip hf c1313
                                                    refine lv_goto (tgt := 1994) hx hb dL_law_1318 (by decide) ?_
                                                    refine lv_iinc (v := v4 + 4) (lv' := [(4, .int (v4 + 4)), (6, .int q192.1), (5, .int q188.1), (0, .ref b), (1, .ref (kA K v1)), (2, .ref (kA K v2)), (3, .ref (kA K v3))]) hx hb dL_law_1994 hl (k := 6) rfl rfl (by decide) rfl (fun ls hl => ?_)
                                                    refine lv_goto (tgt := 23) hx hb dL_law_1997 (by decide) ?_
                                                    exact ih _ _ _ _ _ _ _ _ _ _ (by omega) (by omega) hf hR (lv_sub hl [3, 4, 5, 6, 0] rfl)
                                                  · have hf := iq hf c1313
                                                    refine lv_iconst (v := 0) hx hb dL_law_1316 (by decide) ?_
                                                    exact absurd (Option.some.inj hf) (by decide)
                                              · have hf := iq hf c1296
                                                refine lv_iconst (v := 0) hx hb dL_law_1299 (by decide) ?_
                                                exact absurd (Option.some.inj hf) (by decide)
                                            · have hf := iq hf c39_19
                                              by_cases c39_20 : (x1 &&& 63) = 20
                                              · have hf := ip hf c39_20
                                                refine lv_tableIn (tgt := 1321) (off := 1282) hx hb dL_law_39 (by rw [c39_20]; decide) (by rw [c39_20]; decide) (by rw [c39_20]; decide +kernel) (by decide) ?_
                                                refine lv_aload_n hx hb dL_law_1321 rfl (lv_at hl 1 rfl) ?_
                                                refine lv_aload_n hx hb dL_law_1322 rfl (lv_at hl 0 rfl) ?_
                                                refine lv_iload hx hb dL_law_1323 (lv_at hl 4 rfl) ?_
                                                refine lv_iconst (v := 1) hx hb dL_law_1325 (by decide) ?_
                                                refine lv_iadd hx hb dL_law_1326 ?_
                                                obtain ⟨x196, hx196, hf⟩ := ob hf
                                                refine r_sld C hR hX hbl hbA hx196 dL_law_1327 ?_
                                                refine lv_aload_n hx hb dL_law_1328 rfl (lv_at hl 0 rfl) ?_
                                                refine lv_iload hx hb dL_law_1329 (lv_at hl 4 rfl) ?_
                                                refine lv_iconst (v := 2) hx hb dL_law_1331 (by decide) ?_
                                                refine lv_iadd hx hb dL_law_1332 ?_
                                                obtain ⟨x197, hx197, hf⟩ := ob hf
                                                refine r_sld C hR hX hbl hbA hx197 dL_law_1333 ?_
                                                refine lv_aload_n hx hb dL_law_1334 rfl (lv_at hl 3 rfl) ?_
                                                obtain ⟨q198, hq198, hf⟩ := ob hf
                                                refine r_callSW (As := [.ref (kA K v1), .int x196, .int x197, .ref (kA K v3)]) (rest := []) (st1 := [.int q198.1]) C hR (lv_sub hl [] rfl) (c_L_explain hl9 hq198) ms_L_explain ml_L_194 ⟨rfl, rfl, (Nat.le_of_ble_eq_true rfl), (Nat.le_of_ble_eq_true rfl)⟩ rfl rfl rfl (Nat.le_of_ble_eq_true rfl) ⟨by show _ ≤ 603072; omega, by show _ ≤ 7178346; omega⟩ dL_law_1335 (fun H locs hR => ?_)
                                                refine lv_istore (lv' := [(5, .int q198.1), (0, .ref b), (1, .ref (kA K v1)), (2, .ref (kA K v2)), (3, .ref (kA K v3)), (4, .int v4)]) hx hb dL_law_1338 hl (by decide) rfl (fun ls hl => ?_)
                                                refine lv_aload_n hx hb dL_law_1340 rfl (lv_at hl 3 rfl) ?_
                                                refine lv_aload_n hx hb dL_law_1341 rfl (lv_at hl 1 rfl) ?_
                                                refine lv_iload hx hb dL_law_1342 (lv_at hl 5 rfl) ?_
                                                refine lv_iconst (v := 1) hx hb dL_law_1344 (by decide) ?_
                                                refine lv_iadd hx hb dL_law_1345 ?_
                                                obtain ⟨x199, hx199, hf⟩ := ob hf
                                                refine r_sld C hR hX hbl hbA hx199 dL_law_1346 ?_
                                                refine lv_aload_n hx hb dL_law_1347 rfl (lv_at hl 1 rfl) ?_
                                                refine lv_iload hx hb dL_law_1348 (lv_at hl 5 rfl) ?_
                                                refine lv_iconst (v := 2) hx hb dL_law_1350 (by decide) ?_
                                                refine lv_iadd hx hb dL_law_1351 ?_
                                                obtain ⟨x200, hx200, hf⟩ := ob hf
                                                refine r_sld C hR hX hbl hbA hx200 dL_law_1352 ?_
                                                obtain ⟨u201, hu201, hf⟩ := ob hf
                                                obtain ⟨q202, hq202, hf⟩ := ob hf
                                                refine r_callV (As := [.int x199, .int x200]) (rest := []) (st1 := [.int q202.1]) C hR (lv_sub hl [] rfl) (c_X9_explain hq202) mv_X9_explain ml_L_196 ⟨rfl, rfl, (Nat.le_of_ble_eq_true rfl), (Nat.le_of_ble_eq_true rfl)⟩ (rv_obj C hR hu201 (q := (RX9, TX9, 17)) rfl) rfl rfl rfl (Nat.le_of_ble_eq_true rfl) ⟨by show _ ≤ 603072; omega, by show _ ≤ 7178346; omega⟩ dL_law_1353 (fun H locs hR => ?_)
                                                refine lv_istore (lv' := [(6, .int q202.1), (5, .int q198.1), (0, .ref b), (1, .ref (kA K v1)), (2, .ref (kA K v2)), (3, .ref (kA K v3)), (4, .int v4)]) hx hb dL_law_1356 hl (by decide) rfl (fun ls hl => ?_)
                                                refine lv_aload_n hx hb dL_law_1358 rfl (lv_at hl 4 rfl) ?_
                                                obtain ⟨u203, hu203, hf⟩ := ob hf
                                                obtain ⟨x204, hx204, hf⟩ := ob hf
                                                refine r_callV (As := []) (rest := []) (st1 := [.int x204]) C hR (lv_sub hl [] rfl) (c_X9_thrown hx204) mv_X9_thrown ml_L_127 ⟨rfl, rfl, (Nat.le_of_ble_eq_true rfl), (Nat.le_of_ble_eq_true rfl)⟩ (rv_obj C hR hu203 (q := (RX9, TX9, 17)) rfl) rfl rfl rfl (Nat.le_of_ble_eq_true rfl) ⟨by show _ ≤ 603072; omega, by show _ ≤ 7178346; omega⟩ dL_law_1359 (fun H locs hR => ?_)
                                                refine lv_iload hx hb dL_law_1362 (lv_at hl 1 rfl) ?_
                                                refine lv_icmp_eq (tgt := 1369) hx hb dL_law_1364 (by decide) (fun c1364 => ?_) (fun c1364 => ?_)
                                                · have hf := ip hf c1364
                                                  refine lv_iload hx hb dL_law_1369 (lv_at hl 1 rfl) ?_
                                                  refine lv_if_ne (tgt := 1386) hx hb dL_law_1371 (by decide) (fun c1371 => ?_) (fun c1371 => ?_)
                                                  · have hf := iq hf c1371
                                                    refine lv_goto (tgt := 1994) hx hb dL_law_1386 (by decide) ?_
                                                    refine lv_iinc (v := v4 + 4) (lv' := [(4, .int (v4 + 4)), (6, .int q202.1), (5, .int q198.1), (0, .ref b), (1, .ref (kA K v1)), (2, .ref (kA K v2)), (3, .ref (kA K v3))]) hx hb dL_law_1994 hl (k := 6) rfl rfl (by decide) rfl (fun ls hl => ?_)
                                                    refine lv_goto (tgt := 23) hx hb dL_law_1997 (by decide) ?_
                                                    exact ih _ _ _ _ _ _ _ _ _ _ (by omega) (by omega) hf hR (lv_sub hl [3, 4, 5, 6, 0] rfl)
                                                  · have hf := ip hf c1371
                                                    refine lv_aload_n hx hb dL_law_1374 rfl (lv_at hl 5 rfl) ?_
                                                    refine lv_iconst (v := 0) hx hb dL_law_1375 (by decide) ?_
                                                    obtain ⟨x205, hx205, hf⟩ := ob hf
                                                    refine r_lald C hR hx205 dL_law_1376 ?_
                                                    refine lv_iload hx hb dL_law_1377 (lv_at hl 0 rfl) ?_
                                                    refine lv_i2l (v := (Int32.toInt64 q202.1)) hx hb dL_law_1379 rfl ?_
                                                    refine W.lcmp hx hb dL_law_1380 ?_
                                                    refine lv_if_eq (tgt := 1386) hx hb dL_law_1381 (by decide) (fun c1381 => ?_) (fun c1381 => ?_)
                                                    · have hf := ip hf c1381
                                                      refine lv_goto (tgt := 1994) hx hb dL_law_1386 (by decide) ?_
                                                      refine lv_iinc (v := v4 + 4) (lv' := [(4, .int (v4 + 4)), (6, .int q202.1), (5, .int q198.1), (0, .ref b), (1, .ref (kA K v1)), (2, .ref (kA K v2)), (3, .ref (kA K v3))]) hx hb dL_law_1994 hl (k := 6) rfl rfl (by decide) rfl (fun ls hl => ?_)
                                                      refine lv_goto (tgt := 23) hx hb dL_law_1997 (by decide) ?_
                                                      exact ih _ _ _ _ _ _ _ _ _ _ (by omega) (by omega) hf hR (lv_sub hl [3, 4, 5, 6, 0] rfl)
                                                    · have hf := iq hf c1381
                                                      refine lv_iconst (v := 0) hx hb dL_law_1384 (by decide) ?_
                                                      exact absurd (Option.some.inj hf) (by decide)
                                                · have hf := iq hf c1364
                                                  refine lv_iconst (v := 0) hx hb dL_law_1367 (by decide) ?_
                                                  exact absurd (Option.some.inj hf) (by decide)
                                              · have hf := iq hf c39_20
                                                by_cases c39_21 : (x1 &&& 63) = 21
                                                · have hf := ip hf c39_21
                                                  refine lv_tableIn (tgt := 1389) (off := 1350) hx hb dL_law_39 (by rw [c39_21]; decide) (by rw [c39_21]; decide) (by rw [c39_21]; decide +kernel) (by decide) ?_
                                                  refine lv_aload_n hx hb dL_law_1389 rfl (lv_at hl 1 rfl) ?_
                                                  refine lv_aload_n hx hb dL_law_1390 rfl (lv_at hl 0 rfl) ?_
                                                  refine lv_iload hx hb dL_law_1391 (lv_at hl 4 rfl) ?_
                                                  refine lv_iconst (v := 1) hx hb dL_law_1393 (by decide) ?_
                                                  refine lv_iadd hx hb dL_law_1394 ?_
                                                  obtain ⟨x206, hx206, hf⟩ := ob hf
                                                  refine r_sld C hR hX hbl hbA hx206 dL_law_1395 ?_
                                                  refine lv_aload_n hx hb dL_law_1396 rfl (lv_at hl 3 rfl) ?_
                                                  obtain ⟨q207, hq207, hf⟩ := ob hf
                                                  refine r_callSW (As := [.ref (kA K v1), .int x206, .ref (kA K v3)]) (rest := []) (st1 := [.int q207.1]) C hR (lv_sub hl [] rfl) (c_L_faults hl9 hq207) ms_L_faults ml_L_197 ⟨rfl, rfl, (Nat.le_of_ble_eq_true rfl), (Nat.le_of_ble_eq_true rfl)⟩ rfl rfl rfl (Nat.le_of_ble_eq_true rfl) ⟨by show _ ≤ 603072; omega, by show _ ≤ 7178346; omega⟩ dL_law_1397 (fun H locs hR => ?_)
                                                  refine lv_istore (lv' := [(5, .int q207.1), (0, .ref b), (1, .ref (kA K v1)), (2, .ref (kA K v2)), (3, .ref (kA K v3)), (4, .int v4)]) hx hb dL_law_1400 hl (by decide) rfl (fun ls hl => ?_)
                                                  refine lv_aload_n hx hb dL_law_1402 rfl (lv_at hl 3 rfl) ?_
                                                  refine lv_aload_n hx hb dL_law_1403 rfl (lv_at hl 1 rfl) ?_
                                                  refine lv_iload hx hb dL_law_1404 (lv_at hl 5 rfl) ?_
                                                  refine lv_iconst (v := 1) hx hb dL_law_1406 (by decide) ?_
                                                  refine lv_iadd hx hb dL_law_1407 ?_
                                                  obtain ⟨x208, hx208, hf⟩ := ob hf
                                                  refine r_sld C hR hX hbl hbA hx208 dL_law_1408 ?_
                                                  obtain ⟨u209, hu209, hf⟩ := ob hf
                                                  obtain ⟨q210, hq210, hf⟩ := ob hf
                                                  refine r_callV (As := [.int x208]) (rest := []) (st1 := [.int q210.1]) C hR (lv_sub hl [] rfl) (c_X9_faults hq210) mv_X9_faults ml_L_199 ⟨rfl, rfl, (Nat.le_of_ble_eq_true rfl), (Nat.le_of_ble_eq_true rfl)⟩ (rv_obj C hR hu209 (q := (RX9, TX9, 17)) rfl) rfl rfl rfl (Nat.le_of_ble_eq_true rfl) ⟨by show _ ≤ 603072; omega, by show _ ≤ 7178346; omega⟩ dL_law_1409 (fun H locs hR => ?_)
                                                  refine lv_istore (lv' := [(6, .int q210.1), (5, .int q207.1), (0, .ref b), (1, .ref (kA K v1)), (2, .ref (kA K v2)), (3, .ref (kA K v3)), (4, .int v4)]) hx hb dL_law_1412 hl (by decide) rfl (fun ls hl => ?_)
                                                  refine lv_aload_n hx hb dL_law_1414 rfl (lv_at hl 4 rfl) ?_
                                                  obtain ⟨u211, hu211, hf⟩ := ob hf
                                                  obtain ⟨x212, hx212, hf⟩ := ob hf
                                                  refine r_callV (As := []) (rest := []) (st1 := [.int x212]) C hR (lv_sub hl [] rfl) (c_X9_thrown hx212) mv_X9_thrown ml_L_127 ⟨rfl, rfl, (Nat.le_of_ble_eq_true rfl), (Nat.le_of_ble_eq_true rfl)⟩ (rv_obj C hR hu211 (q := (RX9, TX9, 17)) rfl) rfl rfl rfl (Nat.le_of_ble_eq_true rfl) ⟨by show _ ≤ 603072; omega, by show _ ≤ 7178346; omega⟩ dL_law_1415 (fun H locs hR => ?_)
                                                  refine lv_iload hx hb dL_law_1418 (lv_at hl 1 rfl) ?_
                                                  refine lv_icmp_eq (tgt := 1425) hx hb dL_law_1420 (by decide) (fun c1420 => ?_) (fun c1420 => ?_)
                                                  · have hf := ip hf c1420
                                                    refine lv_iload hx hb dL_law_1425 (lv_at hl 1 rfl) ?_
                                                    refine lv_if_ne (tgt := 1442) hx hb dL_law_1427 (by decide) (fun c1427 => ?_) (fun c1427 => ?_)
                                                    · have hf := iq hf c1427
                                                      refine lv_goto (tgt := 1994) hx hb dL_law_1442 (by decide) ?_
                                                      refine lv_iinc (v := v4 + 4) (lv' := [(4, .int (v4 + 4)), (6, .int q210.1), (5, .int q207.1), (0, .ref b), (1, .ref (kA K v1)), (2, .ref (kA K v2)), (3, .ref (kA K v3))]) hx hb dL_law_1994 hl (k := 6) rfl rfl (by decide) rfl (fun ls hl => ?_)
                                                      refine lv_goto (tgt := 23) hx hb dL_law_1997 (by decide) ?_
                                                      exact ih _ _ _ _ _ _ _ _ _ _ (by omega) (by omega) hf hR (lv_sub hl [3, 4, 5, 6, 0] rfl)
                                                    · have hf := ip hf c1427
                                                      refine lv_aload_n hx hb dL_law_1430 rfl (lv_at hl 5 rfl) ?_
                                                      refine lv_iconst (v := 0) hx hb dL_law_1431 (by decide) ?_
                                                      obtain ⟨x213, hx213, hf⟩ := ob hf
                                                      refine r_lald C hR hx213 dL_law_1432 ?_
                                                      refine lv_iload hx hb dL_law_1433 (lv_at hl 0 rfl) ?_
                                                      refine lv_i2l (v := (Int32.toInt64 q210.1)) hx hb dL_law_1435 rfl ?_
                                                      refine W.lcmp hx hb dL_law_1436 ?_
                                                      refine lv_if_eq (tgt := 1442) hx hb dL_law_1437 (by decide) (fun c1437 => ?_) (fun c1437 => ?_)
                                                      · have hf := ip hf c1437
                                                        refine lv_goto (tgt := 1994) hx hb dL_law_1442 (by decide) ?_
                                                        refine lv_iinc (v := v4 + 4) (lv' := [(4, .int (v4 + 4)), (6, .int q210.1), (5, .int q207.1), (0, .ref b), (1, .ref (kA K v1)), (2, .ref (kA K v2)), (3, .ref (kA K v3))]) hx hb dL_law_1994 hl (k := 6) rfl rfl (by decide) rfl (fun ls hl => ?_)
                                                        refine lv_goto (tgt := 23) hx hb dL_law_1997 (by decide) ?_
                                                        exact ih _ _ _ _ _ _ _ _ _ _ (by omega) (by omega) hf hR (lv_sub hl [3, 4, 5, 6, 0] rfl)
                                                      · have hf := iq hf c1437
                                                        refine lv_iconst (v := 0) hx hb dL_law_1440 (by decide) ?_
                                                        exact absurd (Option.some.inj hf) (by decide)
                                                  · have hf := iq hf c1420
                                                    refine lv_iconst (v := 0) hx hb dL_law_1423 (by decide) ?_
                                                    exact absurd (Option.some.inj hf) (by decide)
                                                · have hf := iq hf c39_21
                                                  by_cases c39_22 : (x1 &&& 63) = 22
                                                  · have hf := ip hf c39_22
                                                    refine lv_tableIn (tgt := 1445) (off := 1406) hx hb dL_law_39 (by rw [c39_22]; decide) (by rw [c39_22]; decide) (by rw [c39_22]; decide +kernel) (by decide) ?_
                                                    refine lv_aload_n hx hb dL_law_1445 rfl (lv_at hl 1 rfl) ?_
                                                    refine lv_aload_n hx hb dL_law_1446 rfl (lv_at hl 0 rfl) ?_
                                                    refine lv_iload hx hb dL_law_1447 (lv_at hl 4 rfl) ?_
                                                    refine lv_iconst (v := 1) hx hb dL_law_1449 (by decide) ?_
                                                    refine lv_iadd hx hb dL_law_1450 ?_
                                                    obtain ⟨x214, hx214, hf⟩ := ob hf
                                                    refine r_sld C hR hX hbl hbA hx214 dL_law_1451 ?_
                                                    refine lv_aload_n hx hb dL_law_1452 rfl (lv_at hl 3 rfl) ?_
                                                    obtain ⟨q215, hq215, hf⟩ := ob hf
                                                    refine r_callSW (As := [.ref (kA K v1), .int x214, .ref (kA K v3)]) (rest := []) (st1 := [.int q215.1]) C hR (lv_sub hl [] rfl) (c_L_faultsIn hl9 hq215) ms_L_faultsIn ml_L_200 ⟨rfl, rfl, (Nat.le_of_ble_eq_true rfl), (Nat.le_of_ble_eq_true rfl)⟩ rfl rfl rfl (Nat.le_of_ble_eq_true rfl) ⟨by show _ ≤ 603072; omega, by show _ ≤ 7178346; omega⟩ dL_law_1453 (fun H locs hR => ?_)
                                                    refine lv_istore (lv' := [(5, .int q215.1), (0, .ref b), (1, .ref (kA K v1)), (2, .ref (kA K v2)), (3, .ref (kA K v3)), (4, .int v4)]) hx hb dL_law_1456 hl (by decide) rfl (fun ls hl => ?_)
                                                    refine lv_aload_n hx hb dL_law_1458 rfl (lv_at hl 3 rfl) ?_
                                                    refine lv_aload_n hx hb dL_law_1459 rfl (lv_at hl 1 rfl) ?_
                                                    refine lv_iload hx hb dL_law_1460 (lv_at hl 5 rfl) ?_
                                                    refine lv_iconst (v := 1) hx hb dL_law_1462 (by decide) ?_
                                                    refine lv_iadd hx hb dL_law_1463 ?_
                                                    obtain ⟨x216, hx216, hf⟩ := ob hf
                                                    refine r_sld C hR hX hbl hbA hx216 dL_law_1464 ?_
                                                    obtain ⟨u217, hu217, hf⟩ := ob hf
                                                    obtain ⟨q218, hq218, hf⟩ := ob hf
                                                    refine r_callV (As := [.int x216]) (rest := []) (st1 := [.int q218.1]) C hR (lv_sub hl [] rfl) (c_X9_faultsIn hq218) mv_X9_faultsIn ml_L_202 ⟨rfl, rfl, (Nat.le_of_ble_eq_true rfl), (Nat.le_of_ble_eq_true rfl)⟩ (rv_obj C hR hu217 (q := (RX9, TX9, 17)) rfl) rfl rfl rfl (Nat.le_of_ble_eq_true rfl) ⟨by show _ ≤ 603072; omega, by show _ ≤ 7178346; omega⟩ dL_law_1465 (fun H locs hR => ?_)
                                                    refine lv_istore (lv' := [(6, .int q218.1), (5, .int q215.1), (0, .ref b), (1, .ref (kA K v1)), (2, .ref (kA K v2)), (3, .ref (kA K v3)), (4, .int v4)]) hx hb dL_law_1468 hl (by decide) rfl (fun ls hl => ?_)
                                                    refine lv_aload_n hx hb dL_law_1470 rfl (lv_at hl 4 rfl) ?_
                                                    obtain ⟨u219, hu219, hf⟩ := ob hf
                                                    obtain ⟨x220, hx220, hf⟩ := ob hf
                                                    refine r_callV (As := []) (rest := []) (st1 := [.int x220]) C hR (lv_sub hl [] rfl) (c_X9_thrown hx220) mv_X9_thrown ml_L_127 ⟨rfl, rfl, (Nat.le_of_ble_eq_true rfl), (Nat.le_of_ble_eq_true rfl)⟩ (rv_obj C hR hu219 (q := (RX9, TX9, 17)) rfl) rfl rfl rfl (Nat.le_of_ble_eq_true rfl) ⟨by show _ ≤ 603072; omega, by show _ ≤ 7178346; omega⟩ dL_law_1471 (fun H locs hR => ?_)
                                                    refine lv_iload hx hb dL_law_1474 (lv_at hl 1 rfl) ?_
                                                    refine lv_icmp_eq (tgt := 1481) hx hb dL_law_1476 (by decide) (fun c1476 => ?_) (fun c1476 => ?_)
                                                    · have hf := ip hf c1476
                                                      refine lv_iload hx hb dL_law_1481 (lv_at hl 1 rfl) ?_
                                                      refine lv_if_ne (tgt := 1498) hx hb dL_law_1483 (by decide) (fun c1483 => ?_) (fun c1483 => ?_)
                                                      · have hf := iq hf c1483
                                                        refine lv_goto (tgt := 1994) hx hb dL_law_1498 (by decide) ?_
                                                        refine lv_iinc (v := v4 + 4) (lv' := [(4, .int (v4 + 4)), (6, .int q218.1), (5, .int q215.1), (0, .ref b), (1, .ref (kA K v1)), (2, .ref (kA K v2)), (3, .ref (kA K v3))]) hx hb dL_law_1994 hl (k := 6) rfl rfl (by decide) rfl (fun ls hl => ?_)
                                                        refine lv_goto (tgt := 23) hx hb dL_law_1997 (by decide) ?_
                                                        exact ih _ _ _ _ _ _ _ _ _ _ (by omega) (by omega) hf hR (lv_sub hl [3, 4, 5, 6, 0] rfl)
                                                      · have hf := ip hf c1483
                                                        refine lv_aload_n hx hb dL_law_1486 rfl (lv_at hl 5 rfl) ?_
                                                        refine lv_iconst (v := 0) hx hb dL_law_1487 (by decide) ?_
                                                        obtain ⟨x221, hx221, hf⟩ := ob hf
                                                        refine r_lald C hR hx221 dL_law_1488 ?_
                                                        refine lv_iload hx hb dL_law_1489 (lv_at hl 0 rfl) ?_
                                                        refine lv_i2l (v := (Int32.toInt64 q218.1)) hx hb dL_law_1491 rfl ?_
                                                        refine W.lcmp hx hb dL_law_1492 ?_
                                                        refine lv_if_eq (tgt := 1498) hx hb dL_law_1493 (by decide) (fun c1493 => ?_) (fun c1493 => ?_)
                                                        · have hf := ip hf c1493
                                                          refine lv_goto (tgt := 1994) hx hb dL_law_1498 (by decide) ?_
                                                          refine lv_iinc (v := v4 + 4) (lv' := [(4, .int (v4 + 4)), (6, .int q218.1), (5, .int q215.1), (0, .ref b), (1, .ref (kA K v1)), (2, .ref (kA K v2)), (3, .ref (kA K v3))]) hx hb dL_law_1994 hl (k := 6) rfl rfl (by decide) rfl (fun ls hl => ?_)
                                                          refine lv_goto (tgt := 23) hx hb dL_law_1997 (by decide) ?_
                                                          exact ih _ _ _ _ _ _ _ _ _ _ (by omega) (by omega) hf hR (lv_sub hl [3, 4, 5, 6, 0] rfl)
                                                        · have hf := iq hf c1493
                                                          refine lv_iconst (v := 0) hx hb dL_law_1496 (by decide) ?_
                                                          exact absurd (Option.some.inj hf) (by decide)
                                                    · have hf := iq hf c1476
                                                      refine lv_iconst (v := 0) hx hb dL_law_1479 (by decide) ?_
                                                      exact absurd (Option.some.inj hf) (by decide)
                                                  · have hf := iq hf c39_22
                                                    by_cases c39_23 : (x1 &&& 63) = 23
                                                    · have hf := ip hf c39_23
                                                      refine lv_tableIn (tgt := 1501) (off := 1462) hx hb dL_law_39 (by rw [c39_23]; decide) (by rw [c39_23]; decide) (by rw [c39_23]; decide +kernel) (by decide) ?_
                                                      refine lv_aload_n hx hb dL_law_1501 rfl (lv_at hl 1 rfl) ?_
                                                      refine lv_aload_n hx hb dL_law_1502 rfl (lv_at hl 3 rfl) ?_
                                                      obtain ⟨q222, hq222, hf⟩ := ob hf
                                                      refine r_callSW (As := [.ref (kA K v1), .ref (kA K v3)]) (rest := []) (st1 := [.int q222.1]) C hR (lv_sub hl [] rfl) (c_L_cost hl9 hq222) ms_L_cost ml_L_203 ⟨rfl, rfl, (Nat.le_of_ble_eq_true rfl), (Nat.le_of_ble_eq_true rfl)⟩ rfl rfl rfl (Nat.le_of_ble_eq_true rfl) ⟨by show _ ≤ 603072; omega, by show _ ≤ 7178346; omega⟩ dL_law_1503 (fun H locs hR => ?_)
                                                      refine lv_istore (lv' := [(5, .int q222.1), (0, .ref b), (1, .ref (kA K v1)), (2, .ref (kA K v2)), (3, .ref (kA K v3)), (4, .int v4)]) hx hb dL_law_1506 hl (by decide) rfl (fun ls hl => ?_)
                                                      refine lv_aload_n hx hb dL_law_1508 rfl (lv_at hl 3 rfl) ?_
                                                      obtain ⟨u223, hu223, hf⟩ := ob hf
                                                      obtain ⟨q224, hq224, hf⟩ := ob hf
                                                      refine r_callV (As := []) (rest := []) (st1 := [.int q224.1]) C hR (lv_sub hl [] rfl) (c_X9_cost hq224) mv_X9_cost ml_L_205 ⟨rfl, rfl, (Nat.le_of_ble_eq_true rfl), (Nat.le_of_ble_eq_true rfl)⟩ (rv_obj C hR hu223 (q := (RX9, TX9, 17)) rfl) rfl rfl rfl (Nat.le_of_ble_eq_true rfl) ⟨by show _ ≤ 603072; omega, by show _ ≤ 7178346; omega⟩ dL_law_1509 (fun H locs hR => ?_)
                                                      refine lv_istore (lv' := [(6, .int q224.1), (5, .int q222.1), (0, .ref b), (1, .ref (kA K v1)), (2, .ref (kA K v2)), (3, .ref (kA K v3)), (4, .int v4)]) hx hb dL_law_1512 hl (by decide) rfl (fun ls hl => ?_)
                                                      refine lv_aload_n hx hb dL_law_1514 rfl (lv_at hl 4 rfl) ?_
                                                      obtain ⟨u225, hu225, hf⟩ := ob hf
                                                      obtain ⟨x226, hx226, hf⟩ := ob hf
                                                      refine r_callV (As := []) (rest := []) (st1 := [.int x226]) C hR (lv_sub hl [] rfl) (c_X9_thrown hx226) mv_X9_thrown ml_L_127 ⟨rfl, rfl, (Nat.le_of_ble_eq_true rfl), (Nat.le_of_ble_eq_true rfl)⟩ (rv_obj C hR hu225 (q := (RX9, TX9, 17)) rfl) rfl rfl rfl (Nat.le_of_ble_eq_true rfl) ⟨by show _ ≤ 603072; omega, by show _ ≤ 7178346; omega⟩ dL_law_1515 (fun H locs hR => ?_)
                                                      refine lv_iload hx hb dL_law_1518 (lv_at hl 1 rfl) ?_
                                                      refine lv_icmp_eq (tgt := 1525) hx hb dL_law_1520 (by decide) (fun c1520 => ?_) (fun c1520 => ?_)
                                                      · have hf := ip hf c1520
                                                        refine lv_iload hx hb dL_law_1525 (lv_at hl 1 rfl) ?_
                                                        refine lv_if_ne (tgt := 1542) hx hb dL_law_1527 (by decide) (fun c1527 => ?_) (fun c1527 => ?_)
                                                        · have hf := iq hf c1527
                                                          refine lv_goto (tgt := 1994) hx hb dL_law_1542 (by decide) ?_
                                                          refine lv_iinc (v := v4 + 4) (lv' := [(4, .int (v4 + 4)), (6, .int q224.1), (5, .int q222.1), (0, .ref b), (1, .ref (kA K v1)), (2, .ref (kA K v2)), (3, .ref (kA K v3))]) hx hb dL_law_1994 hl (k := 6) rfl rfl (by decide) rfl (fun ls hl => ?_)
                                                          refine lv_goto (tgt := 23) hx hb dL_law_1997 (by decide) ?_
                                                          exact ih _ _ _ _ _ _ _ _ _ _ (by omega) (by omega) hf hR (lv_sub hl [3, 4, 5, 6, 0] rfl)
                                                        · have hf := ip hf c1527
                                                          refine lv_aload_n hx hb dL_law_1530 rfl (lv_at hl 5 rfl) ?_
                                                          refine lv_iconst (v := 0) hx hb dL_law_1531 (by decide) ?_
                                                          obtain ⟨x227, hx227, hf⟩ := ob hf
                                                          refine r_lald C hR hx227 dL_law_1532 ?_
                                                          refine lv_iload hx hb dL_law_1533 (lv_at hl 0 rfl) ?_
                                                          refine lv_i2l (v := (Int32.toInt64 q224.1)) hx hb dL_law_1535 rfl ?_
                                                          refine W.lcmp hx hb dL_law_1536 ?_
                                                          refine lv_if_eq (tgt := 1542) hx hb dL_law_1537 (by decide) (fun c1537 => ?_) (fun c1537 => ?_)
                                                          · have hf := ip hf c1537
                                                            refine lv_goto (tgt := 1994) hx hb dL_law_1542 (by decide) ?_
                                                            refine lv_iinc (v := v4 + 4) (lv' := [(4, .int (v4 + 4)), (6, .int q224.1), (5, .int q222.1), (0, .ref b), (1, .ref (kA K v1)), (2, .ref (kA K v2)), (3, .ref (kA K v3))]) hx hb dL_law_1994 hl (k := 6) rfl rfl (by decide) rfl (fun ls hl => ?_)
                                                            refine lv_goto (tgt := 23) hx hb dL_law_1997 (by decide) ?_
                                                            exact ih _ _ _ _ _ _ _ _ _ _ (by omega) (by omega) hf hR (lv_sub hl [3, 4, 5, 6, 0] rfl)
                                                          · have hf := iq hf c1537
                                                            refine lv_iconst (v := 0) hx hb dL_law_1540 (by decide) ?_
                                                            exact absurd (Option.some.inj hf) (by decide)
                                                      · have hf := iq hf c1520
                                                        refine lv_iconst (v := 0) hx hb dL_law_1523 (by decide) ?_
                                                        exact absurd (Option.some.inj hf) (by decide)
                                                    · have hf := iq hf c39_23
                                                      by_cases c39_24 : (x1 &&& 63) = 24
                                                      · have hf := ip hf c39_24
                                                        refine lv_tableIn (tgt := 1545) (off := 1506) hx hb dL_law_39 (by rw [c39_24]; decide) (by rw [c39_24]; decide) (by rw [c39_24]; decide +kernel) (by decide) ?_
                                                        refine lv_aload_n hx hb dL_law_1545 rfl (lv_at hl 1 rfl) ?_
                                                        refine lv_aload_n hx hb dL_law_1546 rfl (lv_at hl 0 rfl) ?_
                                                        refine lv_iload hx hb dL_law_1547 (lv_at hl 4 rfl) ?_
                                                        refine lv_iconst (v := 1) hx hb dL_law_1549 (by decide) ?_
                                                        refine lv_iadd hx hb dL_law_1550 ?_
                                                        obtain ⟨x228, hx228, hf⟩ := ob hf
                                                        refine r_sld C hR hX hbl hbA hx228 dL_law_1551 ?_
                                                        refine lv_aload_n hx hb dL_law_1552 rfl (lv_at hl 0 rfl) ?_
                                                        refine lv_iload hx hb dL_law_1553 (lv_at hl 4 rfl) ?_
                                                        refine lv_iconst (v := 2) hx hb dL_law_1555 (by decide) ?_
                                                        refine lv_iadd hx hb dL_law_1556 ?_
                                                        obtain ⟨x229, hx229, hf⟩ := ob hf
                                                        refine r_sld C hR hX hbl hbA hx229 dL_law_1557 ?_
                                                        refine lv_aload_n hx hb dL_law_1558 rfl (lv_at hl 3 rfl) ?_
                                                        obtain ⟨q230, hq230, hf⟩ := ob hf
                                                        refine r_callSW (As := [.ref (kA K v1), .int x228, .int x229, .ref (kA K v3)]) (rest := []) (st1 := [.int q230.1]) C hR (lv_sub hl [] rfl) (c_L_better hl9 hq230) ms_L_better ml_L_206 ⟨rfl, rfl, (Nat.le_of_ble_eq_true rfl), (Nat.le_of_ble_eq_true rfl)⟩ rfl rfl rfl (Nat.le_of_ble_eq_true rfl) ⟨by show _ ≤ 603072; omega, by show _ ≤ 7178346; omega⟩ dL_law_1559 (fun H locs hR => ?_)
                                                        refine lv_istore (lv' := [(5, .int q230.1), (0, .ref b), (1, .ref (kA K v1)), (2, .ref (kA K v2)), (3, .ref (kA K v3)), (4, .int v4)]) hx hb dL_law_1562 hl (by decide) rfl (fun ls hl => ?_)
                                                        refine lv_aload_n hx hb dL_law_1564 rfl (lv_at hl 3 rfl) ?_
                                                        refine lv_aload_n hx hb dL_law_1565 rfl (lv_at hl 1 rfl) ?_
                                                        refine lv_iload hx hb dL_law_1566 (lv_at hl 5 rfl) ?_
                                                        refine lv_iconst (v := 1) hx hb dL_law_1568 (by decide) ?_
                                                        refine lv_iadd hx hb dL_law_1569 ?_
                                                        obtain ⟨x231, hx231, hf⟩ := ob hf
                                                        refine r_sld C hR hX hbl hbA hx231 dL_law_1570 ?_
                                                        refine lv_aload_n hx hb dL_law_1571 rfl (lv_at hl 1 rfl) ?_
                                                        refine lv_iload hx hb dL_law_1572 (lv_at hl 5 rfl) ?_
                                                        refine lv_iconst (v := 2) hx hb dL_law_1574 (by decide) ?_
                                                        refine lv_iadd hx hb dL_law_1575 ?_
                                                        obtain ⟨x232, hx232, hf⟩ := ob hf
                                                        refine r_sld C hR hX hbl hbA hx232 dL_law_1576 ?_
                                                        obtain ⟨u233, hu233, hf⟩ := ob hf
                                                        obtain ⟨q234, hq234, hf⟩ := ob hf
                                                        refine r_callV (As := [.int x231, .int x232]) (rest := []) (st1 := [.int q234.1]) C hR (lv_sub hl [] rfl) (c_X9_better hq234) mv_X9_better ml_L_208 ⟨rfl, rfl, (Nat.le_of_ble_eq_true rfl), (Nat.le_of_ble_eq_true rfl)⟩ (rv_obj C hR hu233 (q := (RX9, TX9, 17)) rfl) rfl rfl rfl (Nat.le_of_ble_eq_true rfl) ⟨by show _ ≤ 603072; omega, by show _ ≤ 7178346; omega⟩ dL_law_1577 (fun H locs hR => ?_)
                                                        refine lv_istore (lv' := [(6, .int q234.1), (5, .int q230.1), (0, .ref b), (1, .ref (kA K v1)), (2, .ref (kA K v2)), (3, .ref (kA K v3)), (4, .int v4)]) hx hb dL_law_1580 hl (by decide) rfl (fun ls hl => ?_)
                                                        refine lv_aload_n hx hb dL_law_1582 rfl (lv_at hl 4 rfl) ?_
                                                        obtain ⟨u235, hu235, hf⟩ := ob hf
                                                        obtain ⟨x236, hx236, hf⟩ := ob hf
                                                        refine r_callV (As := []) (rest := []) (st1 := [.int x236]) C hR (lv_sub hl [] rfl) (c_X9_thrown hx236) mv_X9_thrown ml_L_127 ⟨rfl, rfl, (Nat.le_of_ble_eq_true rfl), (Nat.le_of_ble_eq_true rfl)⟩ (rv_obj C hR hu235 (q := (RX9, TX9, 17)) rfl) rfl rfl rfl (Nat.le_of_ble_eq_true rfl) ⟨by show _ ≤ 603072; omega, by show _ ≤ 7178346; omega⟩ dL_law_1583 (fun H locs hR => ?_)
                                                        refine lv_iload hx hb dL_law_1586 (lv_at hl 1 rfl) ?_
                                                        refine lv_icmp_eq (tgt := 1593) hx hb dL_law_1588 (by decide) (fun c1588 => ?_) (fun c1588 => ?_)
                                                        · have hf := ip hf c1588
                                                          refine lv_iload hx hb dL_law_1593 (lv_at hl 1 rfl) ?_
                                                          refine lv_if_ne (tgt := 1610) hx hb dL_law_1595 (by decide) (fun c1595 => ?_) (fun c1595 => ?_)
                                                          · have hf := iq hf c1595
                                                            refine lv_goto (tgt := 1994) hx hb dL_law_1610 (by decide) ?_
                                                            refine lv_iinc (v := v4 + 4) (lv' := [(4, .int (v4 + 4)), (6, .int q234.1), (5, .int q230.1), (0, .ref b), (1, .ref (kA K v1)), (2, .ref (kA K v2)), (3, .ref (kA K v3))]) hx hb dL_law_1994 hl (k := 6) rfl rfl (by decide) rfl (fun ls hl => ?_)
                                                            refine lv_goto (tgt := 23) hx hb dL_law_1997 (by decide) ?_
                                                            exact ih _ _ _ _ _ _ _ _ _ _ (by omega) (by omega) hf hR (lv_sub hl [3, 4, 5, 6, 0] rfl)
                                                          · have hf := ip hf c1595
                                                            refine lv_aload_n hx hb dL_law_1598 rfl (lv_at hl 5 rfl) ?_
                                                            refine lv_iconst (v := 0) hx hb dL_law_1599 (by decide) ?_
                                                            obtain ⟨x237, hx237, hf⟩ := ob hf
                                                            refine r_lald C hR hx237 dL_law_1600 ?_
                                                            refine lv_iload hx hb dL_law_1601 (lv_at hl 0 rfl) ?_
                                                            refine lv_i2l (v := (Int32.toInt64 q234.1)) hx hb dL_law_1603 rfl ?_
                                                            refine W.lcmp hx hb dL_law_1604 ?_
                                                            refine lv_if_eq (tgt := 1610) hx hb dL_law_1605 (by decide) (fun c1605 => ?_) (fun c1605 => ?_)
                                                            · have hf := ip hf c1605
                                                              refine lv_goto (tgt := 1994) hx hb dL_law_1610 (by decide) ?_
                                                              refine lv_iinc (v := v4 + 4) (lv' := [(4, .int (v4 + 4)), (6, .int q234.1), (5, .int q230.1), (0, .ref b), (1, .ref (kA K v1)), (2, .ref (kA K v2)), (3, .ref (kA K v3))]) hx hb dL_law_1994 hl (k := 6) rfl rfl (by decide) rfl (fun ls hl => ?_)
                                                              refine lv_goto (tgt := 23) hx hb dL_law_1997 (by decide) ?_
                                                              exact ih _ _ _ _ _ _ _ _ _ _ (by omega) (by omega) hf hR (lv_sub hl [3, 4, 5, 6, 0] rfl)
                                                            · have hf := iq hf c1605
                                                              refine lv_iconst (v := 0) hx hb dL_law_1608 (by decide) ?_
                                                              exact absurd (Option.some.inj hf) (by decide)
                                                        · have hf := iq hf c1588
                                                          refine lv_iconst (v := 0) hx hb dL_law_1591 (by decide) ?_
                                                          exact absurd (Option.some.inj hf) (by decide)
                                                      · have hf := iq hf c39_24
                                                        by_cases c39_25 : (x1 &&& 63) = 25
                                                        · have hf := ip hf c39_25
                                                          refine lv_tableIn (tgt := 1613) (off := 1574) hx hb dL_law_39 (by rw [c39_25]; decide) (by rw [c39_25]; decide) (by rw [c39_25]; decide +kernel) (by decide) ?_
                                                          refine lv_aload_n hx hb dL_law_1613 rfl (lv_at hl 1 rfl) ?_
                                                          refine lv_aload_n hx hb dL_law_1614 rfl (lv_at hl 0 rfl) ?_
                                                          refine lv_iload hx hb dL_law_1615 (lv_at hl 4 rfl) ?_
                                                          refine lv_iconst (v := 1) hx hb dL_law_1617 (by decide) ?_
                                                          refine lv_iadd hx hb dL_law_1618 ?_
                                                          obtain ⟨x238, hx238, hf⟩ := ob hf
                                                          refine r_sld C hR hX hbl hbA hx238 dL_law_1619 ?_
                                                          refine lv_aload_n hx hb dL_law_1620 rfl (lv_at hl 0 rfl) ?_
                                                          refine lv_iload hx hb dL_law_1621 (lv_at hl 4 rfl) ?_
                                                          refine lv_iconst (v := 2) hx hb dL_law_1623 (by decide) ?_
                                                          refine lv_iadd hx hb dL_law_1624 ?_
                                                          obtain ⟨x239, hx239, hf⟩ := ob hf
                                                          refine r_sld C hR hX hbl hbA hx239 dL_law_1625 ?_
                                                          refine lv_aload_n hx hb dL_law_1626 rfl (lv_at hl 0 rfl) ?_
                                                          refine lv_iload hx hb dL_law_1627 (lv_at hl 4 rfl) ?_
                                                          refine lv_iconst (v := 3) hx hb dL_law_1629 (by decide) ?_
                                                          refine lv_iadd hx hb dL_law_1630 ?_
                                                          obtain ⟨x240, hx240, hf⟩ := ob hf
                                                          refine r_sld C hR hX hbl hbA hx240 dL_law_1631 ?_
                                                          refine lv_aload_n hx hb dL_law_1632 rfl (lv_at hl 3 rfl) ?_
                                                          obtain ⟨q241, hq241, hf⟩ := ob hf
                                                          refine r_callSW (As := [.ref (kA K v1), .int x238, .int x239, .int x240, .ref (kA K v3)]) (rest := []) (st1 := [.int q241.1]) C hR (lv_sub hl [] rfl) (c_L_costWith hl9 hq241) ms_L_costWith ml_L_209 ⟨rfl, rfl, (Nat.le_of_ble_eq_true rfl), (Nat.le_of_ble_eq_true rfl)⟩ rfl rfl rfl (Nat.le_of_ble_eq_true rfl) ⟨by show _ ≤ 603072; omega, by show _ ≤ 7178346; omega⟩ dL_law_1633 (fun H locs hR => ?_)
                                                          refine lv_istore (lv' := [(5, .int q241.1), (0, .ref b), (1, .ref (kA K v1)), (2, .ref (kA K v2)), (3, .ref (kA K v3)), (4, .int v4)]) hx hb dL_law_1636 hl (by decide) rfl (fun ls hl => ?_)
                                                          refine lv_aload_n hx hb dL_law_1638 rfl (lv_at hl 3 rfl) ?_
                                                          refine lv_aload_n hx hb dL_law_1639 rfl (lv_at hl 1 rfl) ?_
                                                          refine lv_iload hx hb dL_law_1640 (lv_at hl 5 rfl) ?_
                                                          refine lv_iconst (v := 1) hx hb dL_law_1642 (by decide) ?_
                                                          refine lv_iadd hx hb dL_law_1643 ?_
                                                          obtain ⟨x242, hx242, hf⟩ := ob hf
                                                          refine r_sld C hR hX hbl hbA hx242 dL_law_1644 ?_
                                                          refine lv_aload_n hx hb dL_law_1645 rfl (lv_at hl 1 rfl) ?_
                                                          refine lv_iload hx hb dL_law_1646 (lv_at hl 5 rfl) ?_
                                                          refine lv_iconst (v := 2) hx hb dL_law_1648 (by decide) ?_
                                                          refine lv_iadd hx hb dL_law_1649 ?_
                                                          obtain ⟨x243, hx243, hf⟩ := ob hf
                                                          refine r_sld C hR hX hbl hbA hx243 dL_law_1650 ?_
                                                          refine lv_aload_n hx hb dL_law_1651 rfl (lv_at hl 1 rfl) ?_
                                                          refine lv_iload hx hb dL_law_1652 (lv_at hl 5 rfl) ?_
                                                          refine lv_iconst (v := 3) hx hb dL_law_1654 (by decide) ?_
                                                          refine lv_iadd hx hb dL_law_1655 ?_
                                                          obtain ⟨x244, hx244, hf⟩ := ob hf
                                                          refine r_sld C hR hX hbl hbA hx244 dL_law_1656 ?_
                                                          obtain ⟨u245, hu245, hf⟩ := ob hf
                                                          obtain ⟨q246, hq246, hf⟩ := ob hf
                                                          refine r_callV (As := [.int x242, .int x243, .int x244]) (rest := []) (st1 := [.int q246.1]) C hR (lv_sub hl [] rfl) (c_X9_costWith hq246) mv_X9_costWith ml_L_211 ⟨rfl, rfl, (Nat.le_of_ble_eq_true rfl), (Nat.le_of_ble_eq_true rfl)⟩ (rv_obj C hR hu245 (q := (RX9, TX9, 17)) rfl) rfl rfl rfl (Nat.le_of_ble_eq_true rfl) ⟨by show _ ≤ 603072; omega, by show _ ≤ 7178346; omega⟩ dL_law_1657 (fun H locs hR => ?_)
                                                          refine lv_istore (lv' := [(6, .int q246.1), (5, .int q241.1), (0, .ref b), (1, .ref (kA K v1)), (2, .ref (kA K v2)), (3, .ref (kA K v3)), (4, .int v4)]) hx hb dL_law_1660 hl (by decide) rfl (fun ls hl => ?_)
                                                          refine lv_aload_n hx hb dL_law_1662 rfl (lv_at hl 4 rfl) ?_
                                                          obtain ⟨u247, hu247, hf⟩ := ob hf
                                                          obtain ⟨x248, hx248, hf⟩ := ob hf
                                                          refine r_callV (As := []) (rest := []) (st1 := [.int x248]) C hR (lv_sub hl [] rfl) (c_X9_thrown hx248) mv_X9_thrown ml_L_127 ⟨rfl, rfl, (Nat.le_of_ble_eq_true rfl), (Nat.le_of_ble_eq_true rfl)⟩ (rv_obj C hR hu247 (q := (RX9, TX9, 17)) rfl) rfl rfl rfl (Nat.le_of_ble_eq_true rfl) ⟨by show _ ≤ 603072; omega, by show _ ≤ 7178346; omega⟩ dL_law_1663 (fun H locs hR => ?_)
                                                          refine lv_iload hx hb dL_law_1666 (lv_at hl 1 rfl) ?_
                                                          refine lv_icmp_eq (tgt := 1673) hx hb dL_law_1668 (by decide) (fun c1668 => ?_) (fun c1668 => ?_)
                                                          · have hf := ip hf c1668
                                                            refine lv_iload hx hb dL_law_1673 (lv_at hl 1 rfl) ?_
                                                            refine lv_if_ne (tgt := 1690) hx hb dL_law_1675 (by decide) (fun c1675 => ?_) (fun c1675 => ?_)
                                                            · have hf := iq hf c1675
                                                              refine lv_goto (tgt := 1994) hx hb dL_law_1690 (by decide) ?_
                                                              refine lv_iinc (v := v4 + 4) (lv' := [(4, .int (v4 + 4)), (6, .int q246.1), (5, .int q241.1), (0, .ref b), (1, .ref (kA K v1)), (2, .ref (kA K v2)), (3, .ref (kA K v3))]) hx hb dL_law_1994 hl (k := 6) rfl rfl (by decide) rfl (fun ls hl => ?_)
                                                              refine lv_goto (tgt := 23) hx hb dL_law_1997 (by decide) ?_
                                                              exact ih _ _ _ _ _ _ _ _ _ _ (by omega) (by omega) hf hR (lv_sub hl [3, 4, 5, 6, 0] rfl)
                                                            · have hf := ip hf c1675
                                                              refine lv_aload_n hx hb dL_law_1678 rfl (lv_at hl 5 rfl) ?_
                                                              refine lv_iconst (v := 0) hx hb dL_law_1679 (by decide) ?_
                                                              obtain ⟨x249, hx249, hf⟩ := ob hf
                                                              refine r_lald C hR hx249 dL_law_1680 ?_
                                                              refine lv_iload hx hb dL_law_1681 (lv_at hl 0 rfl) ?_
                                                              refine lv_i2l (v := (Int32.toInt64 q246.1)) hx hb dL_law_1683 rfl ?_
                                                              refine W.lcmp hx hb dL_law_1684 ?_
                                                              refine lv_if_eq (tgt := 1690) hx hb dL_law_1685 (by decide) (fun c1685 => ?_) (fun c1685 => ?_)
                                                              · have hf := ip hf c1685
                                                                refine lv_goto (tgt := 1994) hx hb dL_law_1690 (by decide) ?_
                                                                refine lv_iinc (v := v4 + 4) (lv' := [(4, .int (v4 + 4)), (6, .int q246.1), (5, .int q241.1), (0, .ref b), (1, .ref (kA K v1)), (2, .ref (kA K v2)), (3, .ref (kA K v3))]) hx hb dL_law_1994 hl (k := 6) rfl rfl (by decide) rfl (fun ls hl => ?_)
                                                                refine lv_goto (tgt := 23) hx hb dL_law_1997 (by decide) ?_
                                                                exact ih _ _ _ _ _ _ _ _ _ _ (by omega) (by omega) hf hR (lv_sub hl [3, 4, 5, 6, 0] rfl)
                                                              · have hf := iq hf c1685
                                                                refine lv_iconst (v := 0) hx hb dL_law_1688 (by decide) ?_
                                                                exact absurd (Option.some.inj hf) (by decide)
                                                          · have hf := iq hf c1668
                                                            refine lv_iconst (v := 0) hx hb dL_law_1671 (by decide) ?_
                                                            exact absurd (Option.some.inj hf) (by decide)
                                                        · have hf := iq hf c39_25
                                                          by_cases c39_26 : (x1 &&& 63) = 26
                                                          · have hf := ip hf c39_26
                                                            refine lv_tableIn (tgt := 1693) (off := 1654) hx hb dL_law_39 (by rw [c39_26]; decide) (by rw [c39_26]; decide) (by rw [c39_26]; decide +kernel) (by decide) ?_
                                                            refine lv_aload_n hx hb dL_law_1693 rfl (lv_at hl 1 rfl) ?_
                                                            refine lv_aload_n hx hb dL_law_1694 rfl (lv_at hl 3 rfl) ?_
                                                            obtain ⟨q250, hq250, hf⟩ := ob hf
                                                            refine r_callSW (As := [.ref (kA K v1), .ref (kA K v3)]) (rest := []) (st1 := [.int q250.1]) C hR (lv_sub hl [] rfl) (c_L_search hl9 hq250) ms_L_search ml_L_212 ⟨rfl, rfl, (Nat.le_of_ble_eq_true rfl), (Nat.le_of_ble_eq_true rfl)⟩ rfl rfl rfl (Nat.le_of_ble_eq_true rfl) ⟨by show _ ≤ 603072; omega, by show _ ≤ 7178346; omega⟩ dL_law_1695 (fun H locs hR => ?_)
                                                            refine lv_istore (lv' := [(5, .int q250.1), (0, .ref b), (1, .ref (kA K v1)), (2, .ref (kA K v2)), (3, .ref (kA K v3)), (4, .int v4)]) hx hb dL_law_1698 hl (by decide) rfl (fun ls hl => ?_)
                                                            refine lv_aload_n hx hb dL_law_1700 rfl (lv_at hl 3 rfl) ?_
                                                            obtain ⟨u251, hu251, hf⟩ := ob hf
                                                            obtain ⟨q252, hq252, hf⟩ := ob hf
                                                            refine r_callV (As := []) (rest := []) (st1 := [.int q252.1]) C hR (lv_sub hl [] rfl) (c_X9_search hq252) mv_X9_search ml_L_214 ⟨rfl, rfl, (Nat.le_of_ble_eq_true rfl), (Nat.le_of_ble_eq_true rfl)⟩ (rv_obj C hR hu251 (q := (RX9, TX9, 17)) rfl) rfl rfl rfl (Nat.le_of_ble_eq_true rfl) ⟨by show _ ≤ 603072; omega, by show _ ≤ 7178346; omega⟩ dL_law_1701 (fun H locs hR => ?_)
                                                            refine lv_istore (lv' := [(6, .int q252.1), (5, .int q250.1), (0, .ref b), (1, .ref (kA K v1)), (2, .ref (kA K v2)), (3, .ref (kA K v3)), (4, .int v4)]) hx hb dL_law_1704 hl (by decide) rfl (fun ls hl => ?_)
                                                            refine lv_aload_n hx hb dL_law_1706 rfl (lv_at hl 4 rfl) ?_
                                                            obtain ⟨u253, hu253, hf⟩ := ob hf
                                                            obtain ⟨x254, hx254, hf⟩ := ob hf
                                                            refine r_callV (As := []) (rest := []) (st1 := [.int x254]) C hR (lv_sub hl [] rfl) (c_X9_thrown hx254) mv_X9_thrown ml_L_127 ⟨rfl, rfl, (Nat.le_of_ble_eq_true rfl), (Nat.le_of_ble_eq_true rfl)⟩ (rv_obj C hR hu253 (q := (RX9, TX9, 17)) rfl) rfl rfl rfl (Nat.le_of_ble_eq_true rfl) ⟨by show _ ≤ 603072; omega, by show _ ≤ 7178346; omega⟩ dL_law_1707 (fun H locs hR => ?_)
                                                            refine lv_iload hx hb dL_law_1710 (lv_at hl 1 rfl) ?_
                                                            refine lv_icmp_eq (tgt := 1717) hx hb dL_law_1712 (by decide) (fun c1712 => ?_) (fun c1712 => ?_)
                                                            · have hf := ip hf c1712
                                                              refine lv_iload hx hb dL_law_1717 (lv_at hl 1 rfl) ?_
                                                              refine lv_if_ne (tgt := 1734) hx hb dL_law_1719 (by decide) (fun c1719 => ?_) (fun c1719 => ?_)
                                                              · have hf := iq hf c1719
                                                                refine lv_goto (tgt := 1994) hx hb dL_law_1734 (by decide) ?_
                                                                refine lv_iinc (v := v4 + 4) (lv' := [(4, .int (v4 + 4)), (6, .int q252.1), (5, .int q250.1), (0, .ref b), (1, .ref (kA K v1)), (2, .ref (kA K v2)), (3, .ref (kA K v3))]) hx hb dL_law_1994 hl (k := 6) rfl rfl (by decide) rfl (fun ls hl => ?_)
                                                                refine lv_goto (tgt := 23) hx hb dL_law_1997 (by decide) ?_
                                                                exact ih _ _ _ _ _ _ _ _ _ _ (by omega) (by omega) hf hR (lv_sub hl [3, 4, 5, 6, 0] rfl)
                                                              · have hf := ip hf c1719
                                                                refine lv_aload_n hx hb dL_law_1722 rfl (lv_at hl 5 rfl) ?_
                                                                refine lv_iconst (v := 0) hx hb dL_law_1723 (by decide) ?_
                                                                obtain ⟨x255, hx255, hf⟩ := ob hf
                                                                refine r_lald C hR hx255 dL_law_1724 ?_
                                                                refine lv_iload hx hb dL_law_1725 (lv_at hl 0 rfl) ?_
                                                                refine lv_i2l (v := (Int32.toInt64 q252.1)) hx hb dL_law_1727 rfl ?_
                                                                refine W.lcmp hx hb dL_law_1728 ?_
                                                                refine lv_if_eq (tgt := 1734) hx hb dL_law_1729 (by decide) (fun c1729 => ?_) (fun c1729 => ?_)
                                                                · have hf := ip hf c1729
                                                                  refine lv_goto (tgt := 1994) hx hb dL_law_1734 (by decide) ?_
                                                                  refine lv_iinc (v := v4 + 4) (lv' := [(4, .int (v4 + 4)), (6, .int q252.1), (5, .int q250.1), (0, .ref b), (1, .ref (kA K v1)), (2, .ref (kA K v2)), (3, .ref (kA K v3))]) hx hb dL_law_1994 hl (k := 6) rfl rfl (by decide) rfl (fun ls hl => ?_)
                                                                  refine lv_goto (tgt := 23) hx hb dL_law_1997 (by decide) ?_
                                                                  exact ih _ _ _ _ _ _ _ _ _ _ (by omega) (by omega) hf hR (lv_sub hl [3, 4, 5, 6, 0] rfl)
                                                                · have hf := iq hf c1729
                                                                  refine lv_iconst (v := 0) hx hb dL_law_1732 (by decide) ?_
                                                                  exact absurd (Option.some.inj hf) (by decide)
                                                            · have hf := iq hf c1712
                                                              refine lv_iconst (v := 0) hx hb dL_law_1715 (by decide) ?_
                                                              exact absurd (Option.some.inj hf) (by decide)
                                                          · have hf := iq hf c39_26
                                                            by_cases c39_27 : (x1 &&& 63) = 27
                                                            · have hf := ip hf c39_27
                                                              refine lv_tableIn (tgt := 1737) (off := 1698) hx hb dL_law_39 (by rw [c39_27]; decide) (by rw [c39_27]; decide) (by rw [c39_27]; decide +kernel) (by decide) ?_
                                                              refine lv_aload_n hx hb dL_law_1737 rfl (lv_at hl 1 rfl) ?_
                                                              refine lv_aload_n hx hb dL_law_1738 rfl (lv_at hl 0 rfl) ?_
                                                              refine lv_iload hx hb dL_law_1739 (lv_at hl 4 rfl) ?_
                                                              refine lv_iconst (v := 1) hx hb dL_law_1741 (by decide) ?_
                                                              refine lv_iadd hx hb dL_law_1742 ?_
                                                              obtain ⟨x256, hx256, hf⟩ := ob hf
                                                              refine r_sld C hR hX hbl hbA hx256 dL_law_1743 ?_
                                                              refine lv_aload_n hx hb dL_law_1744 rfl (lv_at hl 3 rfl) ?_
                                                              obtain ⟨q257, hq257, hf⟩ := ob hf
                                                              refine r_callSW (As := [.ref (kA K v1), .int x256, .ref (kA K v3)]) (rest := []) (st1 := [.int q257.1]) C hR (lv_sub hl [] rfl) (c_L_suggested hl9 hq257) ms_L_suggested ml_L_215 ⟨rfl, rfl, (Nat.le_of_ble_eq_true rfl), (Nat.le_of_ble_eq_true rfl)⟩ rfl rfl rfl (Nat.le_of_ble_eq_true rfl) ⟨by show _ ≤ 603072; omega, by show _ ≤ 7178346; omega⟩ dL_law_1745 (fun H locs hR => ?_)
                                                              refine lv_istore (lv' := [(5, .int q257.1), (0, .ref b), (1, .ref (kA K v1)), (2, .ref (kA K v2)), (3, .ref (kA K v3)), (4, .int v4)]) hx hb dL_law_1748 hl (by decide) rfl (fun ls hl => ?_)
                                                              refine lv_aload_n hx hb dL_law_1750 rfl (lv_at hl 3 rfl) ?_
                                                              refine lv_aload_n hx hb dL_law_1751 rfl (lv_at hl 1 rfl) ?_
                                                              refine lv_iload hx hb dL_law_1752 (lv_at hl 5 rfl) ?_
                                                              refine lv_iconst (v := 1) hx hb dL_law_1754 (by decide) ?_
                                                              refine lv_iadd hx hb dL_law_1755 ?_
                                                              obtain ⟨x258, hx258, hf⟩ := ob hf
                                                              refine r_sld C hR hX hbl hbA hx258 dL_law_1756 ?_
                                                              obtain ⟨u259, hu259, hf⟩ := ob hf
                                                              obtain ⟨q260, hq260, hf⟩ := ob hf
                                                              refine r_callV (As := [.int x258]) (rest := []) (st1 := [.int q260.1]) C hR (lv_sub hl [] rfl) (c_X9_suggested hq260) mv_X9_suggested ml_L_217 ⟨rfl, rfl, (Nat.le_of_ble_eq_true rfl), (Nat.le_of_ble_eq_true rfl)⟩ (rv_obj C hR hu259 (q := (RX9, TX9, 17)) rfl) rfl rfl rfl (Nat.le_of_ble_eq_true rfl) ⟨by show _ ≤ 603072; omega, by show _ ≤ 7178346; omega⟩ dL_law_1757 (fun H locs hR => ?_)
                                                              refine lv_istore (lv' := [(6, .int q260.1), (5, .int q257.1), (0, .ref b), (1, .ref (kA K v1)), (2, .ref (kA K v2)), (3, .ref (kA K v3)), (4, .int v4)]) hx hb dL_law_1760 hl (by decide) rfl (fun ls hl => ?_)
                                                              refine lv_aload_n hx hb dL_law_1762 rfl (lv_at hl 4 rfl) ?_
                                                              obtain ⟨u261, hu261, hf⟩ := ob hf
                                                              obtain ⟨x262, hx262, hf⟩ := ob hf
                                                              refine r_callV (As := []) (rest := []) (st1 := [.int x262]) C hR (lv_sub hl [] rfl) (c_X9_thrown hx262) mv_X9_thrown ml_L_127 ⟨rfl, rfl, (Nat.le_of_ble_eq_true rfl), (Nat.le_of_ble_eq_true rfl)⟩ (rv_obj C hR hu261 (q := (RX9, TX9, 17)) rfl) rfl rfl rfl (Nat.le_of_ble_eq_true rfl) ⟨by show _ ≤ 603072; omega, by show _ ≤ 7178346; omega⟩ dL_law_1763 (fun H locs hR => ?_)
                                                              refine lv_iload hx hb dL_law_1766 (lv_at hl 1 rfl) ?_
                                                              refine lv_icmp_eq (tgt := 1773) hx hb dL_law_1768 (by decide) (fun c1768 => ?_) (fun c1768 => ?_)
                                                              · have hf := ip hf c1768
                                                                refine lv_iload hx hb dL_law_1773 (lv_at hl 1 rfl) ?_
                                                                refine lv_if_ne (tgt := 1790) hx hb dL_law_1775 (by decide) (fun c1775 => ?_) (fun c1775 => ?_)
                                                                · have hf := iq hf c1775
                                                                  refine lv_goto (tgt := 1994) hx hb dL_law_1790 (by decide) ?_
                                                                  refine lv_iinc (v := v4 + 4) (lv' := [(4, .int (v4 + 4)), (6, .int q260.1), (5, .int q257.1), (0, .ref b), (1, .ref (kA K v1)), (2, .ref (kA K v2)), (3, .ref (kA K v3))]) hx hb dL_law_1994 hl (k := 6) rfl rfl (by decide) rfl (fun ls hl => ?_)
                                                                  refine lv_goto (tgt := 23) hx hb dL_law_1997 (by decide) ?_
                                                                  exact ih _ _ _ _ _ _ _ _ _ _ (by omega) (by omega) hf hR (lv_sub hl [3, 4, 5, 6, 0] rfl)
                                                                · have hf := ip hf c1775
                                                                  refine lv_aload_n hx hb dL_law_1778 rfl (lv_at hl 5 rfl) ?_
                                                                  refine lv_iconst (v := 0) hx hb dL_law_1779 (by decide) ?_
                                                                  obtain ⟨x263, hx263, hf⟩ := ob hf
                                                                  refine r_lald C hR hx263 dL_law_1780 ?_
                                                                  refine lv_iload hx hb dL_law_1781 (lv_at hl 0 rfl) ?_
                                                                  refine lv_i2l (v := (Int32.toInt64 q260.1)) hx hb dL_law_1783 rfl ?_
                                                                  refine W.lcmp hx hb dL_law_1784 ?_
                                                                  refine lv_if_eq (tgt := 1790) hx hb dL_law_1785 (by decide) (fun c1785 => ?_) (fun c1785 => ?_)
                                                                  · have hf := ip hf c1785
                                                                    refine lv_goto (tgt := 1994) hx hb dL_law_1790 (by decide) ?_
                                                                    refine lv_iinc (v := v4 + 4) (lv' := [(4, .int (v4 + 4)), (6, .int q260.1), (5, .int q257.1), (0, .ref b), (1, .ref (kA K v1)), (2, .ref (kA K v2)), (3, .ref (kA K v3))]) hx hb dL_law_1994 hl (k := 6) rfl rfl (by decide) rfl (fun ls hl => ?_)
                                                                    refine lv_goto (tgt := 23) hx hb dL_law_1997 (by decide) ?_
                                                                    exact ih _ _ _ _ _ _ _ _ _ _ (by omega) (by omega) hf hR (lv_sub hl [3, 4, 5, 6, 0] rfl)
                                                                  · have hf := iq hf c1785
                                                                    refine lv_iconst (v := 0) hx hb dL_law_1788 (by decide) ?_
                                                                    exact absurd (Option.some.inj hf) (by decide)
                                                              · have hf := iq hf c1768
                                                                refine lv_iconst (v := 0) hx hb dL_law_1771 (by decide) ?_
                                                                exact absurd (Option.some.inj hf) (by decide)
                                                            · have hf := iq hf c39_27
                                                              by_cases c39_28 : (x1 &&& 63) = 28
                                                              · have hf := ip hf c39_28
                                                                refine lv_tableIn (tgt := 1793) (off := 1754) hx hb dL_law_39 (by rw [c39_28]; decide) (by rw [c39_28]; decide) (by rw [c39_28]; decide +kernel) (by decide) ?_
                                                                refine lv_aload_n hx hb dL_law_1793 rfl (lv_at hl 1 rfl) ?_
                                                                refine lv_aload_n hx hb dL_law_1794 rfl (lv_at hl 3 rfl) ?_
                                                                obtain ⟨q264, hq264, hf⟩ := ob hf
                                                                refine r_callSW (As := [.ref (kA K v1), .ref (kA K v3)]) (rest := []) (st1 := [.int q264.1]) C hR (lv_sub hl [] rfl) (c_L_adopt hl9 hq264) ms_L_adopt ml_L_218 ⟨rfl, rfl, (Nat.le_of_ble_eq_true rfl), (Nat.le_of_ble_eq_true rfl)⟩ rfl rfl rfl (Nat.le_of_ble_eq_true rfl) ⟨by show _ ≤ 603072; omega, by show _ ≤ 7178346; omega⟩ dL_law_1795 (fun H locs hR => ?_)
                                                                refine lv_istore (lv' := [(5, .int q264.1), (0, .ref b), (1, .ref (kA K v1)), (2, .ref (kA K v2)), (3, .ref (kA K v3)), (4, .int v4)]) hx hb dL_law_1798 hl (by decide) rfl (fun ls hl => ?_)
                                                                refine lv_aload_n hx hb dL_law_1800 rfl (lv_at hl 3 rfl) ?_
                                                                obtain ⟨u265, hu265, hf⟩ := ob hf
                                                                obtain ⟨q266, hq266, hf⟩ := ob hf
                                                                refine r_callV (As := []) (rest := []) (st1 := [.int q266.1]) C hR (lv_sub hl [] rfl) (c_X9_adopt hq266) mv_X9_adopt ml_L_220 ⟨rfl, rfl, (Nat.le_of_ble_eq_true rfl), (Nat.le_of_ble_eq_true rfl)⟩ (rv_obj C hR hu265 (q := (RX9, TX9, 17)) rfl) rfl rfl rfl (Nat.le_of_ble_eq_true rfl) ⟨by show _ ≤ 603072; omega, by show _ ≤ 7178346; omega⟩ dL_law_1801 (fun H locs hR => ?_)
                                                                refine lv_istore (lv' := [(6, .int q266.1), (5, .int q264.1), (0, .ref b), (1, .ref (kA K v1)), (2, .ref (kA K v2)), (3, .ref (kA K v3)), (4, .int v4)]) hx hb dL_law_1804 hl (by decide) rfl (fun ls hl => ?_)
                                                                refine lv_aload_n hx hb dL_law_1806 rfl (lv_at hl 4 rfl) ?_
                                                                obtain ⟨u267, hu267, hf⟩ := ob hf
                                                                obtain ⟨x268, hx268, hf⟩ := ob hf
                                                                refine r_callV (As := []) (rest := []) (st1 := [.int x268]) C hR (lv_sub hl [] rfl) (c_X9_thrown hx268) mv_X9_thrown ml_L_127 ⟨rfl, rfl, (Nat.le_of_ble_eq_true rfl), (Nat.le_of_ble_eq_true rfl)⟩ (rv_obj C hR hu267 (q := (RX9, TX9, 17)) rfl) rfl rfl rfl (Nat.le_of_ble_eq_true rfl) ⟨by show _ ≤ 603072; omega, by show _ ≤ 7178346; omega⟩ dL_law_1807 (fun H locs hR => ?_)
                                                                refine lv_iload hx hb dL_law_1810 (lv_at hl 1 rfl) ?_
                                                                refine lv_icmp_eq (tgt := 1817) hx hb dL_law_1812 (by decide) (fun c1812 => ?_) (fun c1812 => ?_)
                                                                · have hf := ip hf c1812
                                                                  refine lv_iload hx hb dL_law_1817 (lv_at hl 1 rfl) ?_
                                                                  refine lv_if_ne (tgt := 1834) hx hb dL_law_1819 (by decide) (fun c1819 => ?_) (fun c1819 => ?_)
                                                                  · have hf := iq hf c1819
                                                                    refine lv_goto (tgt := 1994) hx hb dL_law_1834 (by decide) ?_
                                                                    refine lv_iinc (v := v4 + 4) (lv' := [(4, .int (v4 + 4)), (6, .int q266.1), (5, .int q264.1), (0, .ref b), (1, .ref (kA K v1)), (2, .ref (kA K v2)), (3, .ref (kA K v3))]) hx hb dL_law_1994 hl (k := 6) rfl rfl (by decide) rfl (fun ls hl => ?_)
                                                                    refine lv_goto (tgt := 23) hx hb dL_law_1997 (by decide) ?_
                                                                    exact ih _ _ _ _ _ _ _ _ _ _ (by omega) (by omega) hf hR (lv_sub hl [3, 4, 5, 6, 0] rfl)
                                                                  · have hf := ip hf c1819
                                                                    refine lv_aload_n hx hb dL_law_1822 rfl (lv_at hl 5 rfl) ?_
                                                                    refine lv_iconst (v := 0) hx hb dL_law_1823 (by decide) ?_
                                                                    obtain ⟨x269, hx269, hf⟩ := ob hf
                                                                    refine r_lald C hR hx269 dL_law_1824 ?_
                                                                    refine lv_iload hx hb dL_law_1825 (lv_at hl 0 rfl) ?_
                                                                    refine lv_i2l (v := (Int32.toInt64 q266.1)) hx hb dL_law_1827 rfl ?_
                                                                    refine W.lcmp hx hb dL_law_1828 ?_
                                                                    refine lv_if_eq (tgt := 1834) hx hb dL_law_1829 (by decide) (fun c1829 => ?_) (fun c1829 => ?_)
                                                                    · have hf := ip hf c1829
                                                                      refine lv_goto (tgt := 1994) hx hb dL_law_1834 (by decide) ?_
                                                                      refine lv_iinc (v := v4 + 4) (lv' := [(4, .int (v4 + 4)), (6, .int q266.1), (5, .int q264.1), (0, .ref b), (1, .ref (kA K v1)), (2, .ref (kA K v2)), (3, .ref (kA K v3))]) hx hb dL_law_1994 hl (k := 6) rfl rfl (by decide) rfl (fun ls hl => ?_)
                                                                      refine lv_goto (tgt := 23) hx hb dL_law_1997 (by decide) ?_
                                                                      exact ih _ _ _ _ _ _ _ _ _ _ (by omega) (by omega) hf hR (lv_sub hl [3, 4, 5, 6, 0] rfl)
                                                                    · have hf := iq hf c1829
                                                                      refine lv_iconst (v := 0) hx hb dL_law_1832 (by decide) ?_
                                                                      exact absurd (Option.some.inj hf) (by decide)
                                                                · have hf := iq hf c1812
                                                                  refine lv_iconst (v := 0) hx hb dL_law_1815 (by decide) ?_
                                                                  exact absurd (Option.some.inj hf) (by decide)
                                                              · have hf := iq hf c39_28
                                                                by_cases c39_29 : (x1 &&& 63) = 29
                                                                · have hf := ip hf c39_29
                                                                  refine lv_tableIn (tgt := 1837) (off := 1798) hx hb dL_law_39 (by rw [c39_29]; decide) (by rw [c39_29]; decide) (by rw [c39_29]; decide +kernel) (by decide) ?_
                                                                  refine lv_aload_n hx hb dL_law_1837 rfl (lv_at hl 1 rfl) ?_
                                                                  refine lv_aload_n hx hb dL_law_1838 rfl (lv_at hl 0 rfl) ?_
                                                                  refine lv_iload hx hb dL_law_1839 (lv_at hl 4 rfl) ?_
                                                                  refine lv_iconst (v := 1) hx hb dL_law_1841 (by decide) ?_
                                                                  refine lv_iadd hx hb dL_law_1842 ?_
                                                                  obtain ⟨x270, hx270, hf⟩ := ob hf
                                                                  refine r_sld C hR hX hbl hbA hx270 dL_law_1843 ?_
                                                                  refine lv_aload_n hx hb dL_law_1844 rfl (lv_at hl 3 rfl) ?_
                                                                  obtain ⟨q271, hq271, hf⟩ := ob hf
                                                                  refine r_callSW (As := [.ref (kA K v1), .int x270, .ref (kA K v3)]) (rest := []) (st1 := [.int q271.1]) C hR (lv_sub hl [] rfl) (c_L_count hl9 hq271) ms_L_count ml_L_221 ⟨rfl, rfl, (Nat.le_of_ble_eq_true rfl), (Nat.le_of_ble_eq_true rfl)⟩ rfl rfl rfl (Nat.le_of_ble_eq_true rfl) ⟨by show _ ≤ 603072; omega, by show _ ≤ 7178346; omega⟩ dL_law_1845 (fun H locs hR => ?_)
                                                                  refine lv_istore (lv' := [(5, .int q271.1), (0, .ref b), (1, .ref (kA K v1)), (2, .ref (kA K v2)), (3, .ref (kA K v3)), (4, .int v4)]) hx hb dL_law_1848 hl (by decide) rfl (fun ls hl => ?_)
                                                                  refine lv_aload_n hx hb dL_law_1850 rfl (lv_at hl 3 rfl) ?_
                                                                  refine lv_aload_n hx hb dL_law_1851 rfl (lv_at hl 1 rfl) ?_
                                                                  refine lv_iload hx hb dL_law_1852 (lv_at hl 5 rfl) ?_
                                                                  refine lv_iconst (v := 1) hx hb dL_law_1854 (by decide) ?_
                                                                  refine lv_iadd hx hb dL_law_1855 ?_
                                                                  obtain ⟨x272, hx272, hf⟩ := ob hf
                                                                  refine r_sld C hR hX hbl hbA hx272 dL_law_1856 ?_
                                                                  obtain ⟨u273, hu273, hf⟩ := ob hf
                                                                  obtain ⟨q274, hq274, hf⟩ := ob hf
                                                                  refine r_callV (As := [.int x272]) (rest := []) (st1 := [.int q274.1]) C hR (lv_sub hl [] rfl) (c_X9_count hq274) mv_X9_count ml_L_223 ⟨rfl, rfl, (Nat.le_of_ble_eq_true rfl), (Nat.le_of_ble_eq_true rfl)⟩ (rv_obj C hR hu273 (q := (RX9, TX9, 17)) rfl) rfl rfl rfl (Nat.le_of_ble_eq_true rfl) ⟨by show _ ≤ 603072; omega, by show _ ≤ 7178346; omega⟩ dL_law_1857 (fun H locs hR => ?_)
                                                                  refine lv_istore (lv' := [(6, .int q274.1), (5, .int q271.1), (0, .ref b), (1, .ref (kA K v1)), (2, .ref (kA K v2)), (3, .ref (kA K v3)), (4, .int v4)]) hx hb dL_law_1860 hl (by decide) rfl (fun ls hl => ?_)
                                                                  refine lv_aload_n hx hb dL_law_1862 rfl (lv_at hl 4 rfl) ?_
                                                                  obtain ⟨u275, hu275, hf⟩ := ob hf
                                                                  obtain ⟨x276, hx276, hf⟩ := ob hf
                                                                  refine r_callV (As := []) (rest := []) (st1 := [.int x276]) C hR (lv_sub hl [] rfl) (c_X9_thrown hx276) mv_X9_thrown ml_L_127 ⟨rfl, rfl, (Nat.le_of_ble_eq_true rfl), (Nat.le_of_ble_eq_true rfl)⟩ (rv_obj C hR hu275 (q := (RX9, TX9, 17)) rfl) rfl rfl rfl (Nat.le_of_ble_eq_true rfl) ⟨by show _ ≤ 603072; omega, by show _ ≤ 7178346; omega⟩ dL_law_1863 (fun H locs hR => ?_)
                                                                  refine lv_iload hx hb dL_law_1866 (lv_at hl 1 rfl) ?_
                                                                  refine lv_icmp_eq (tgt := 1873) hx hb dL_law_1868 (by decide) (fun c1868 => ?_) (fun c1868 => ?_)
                                                                  · have hf := ip hf c1868
                                                                    refine lv_iload hx hb dL_law_1873 (lv_at hl 1 rfl) ?_
                                                                    refine lv_if_ne (tgt := 1890) hx hb dL_law_1875 (by decide) (fun c1875 => ?_) (fun c1875 => ?_)
                                                                    · have hf := iq hf c1875
                                                                      refine lv_goto (tgt := 1994) hx hb dL_law_1890 (by decide) ?_
                                                                      refine lv_iinc (v := v4 + 4) (lv' := [(4, .int (v4 + 4)), (6, .int q274.1), (5, .int q271.1), (0, .ref b), (1, .ref (kA K v1)), (2, .ref (kA K v2)), (3, .ref (kA K v3))]) hx hb dL_law_1994 hl (k := 6) rfl rfl (by decide) rfl (fun ls hl => ?_)
                                                                      refine lv_goto (tgt := 23) hx hb dL_law_1997 (by decide) ?_
                                                                      exact ih _ _ _ _ _ _ _ _ _ _ (by omega) (by omega) hf hR (lv_sub hl [3, 4, 5, 6, 0] rfl)
                                                                    · have hf := ip hf c1875
                                                                      refine lv_aload_n hx hb dL_law_1878 rfl (lv_at hl 5 rfl) ?_
                                                                      refine lv_iconst (v := 0) hx hb dL_law_1879 (by decide) ?_
                                                                      obtain ⟨x277, hx277, hf⟩ := ob hf
                                                                      refine r_lald C hR hx277 dL_law_1880 ?_
                                                                      refine lv_iload hx hb dL_law_1881 (lv_at hl 0 rfl) ?_
                                                                      refine lv_i2l (v := (Int32.toInt64 q274.1)) hx hb dL_law_1883 rfl ?_
                                                                      refine W.lcmp hx hb dL_law_1884 ?_
                                                                      refine lv_if_eq (tgt := 1890) hx hb dL_law_1885 (by decide) (fun c1885 => ?_) (fun c1885 => ?_)
                                                                      · have hf := ip hf c1885
                                                                        refine lv_goto (tgt := 1994) hx hb dL_law_1890 (by decide) ?_
                                                                        refine lv_iinc (v := v4 + 4) (lv' := [(4, .int (v4 + 4)), (6, .int q274.1), (5, .int q271.1), (0, .ref b), (1, .ref (kA K v1)), (2, .ref (kA K v2)), (3, .ref (kA K v3))]) hx hb dL_law_1994 hl (k := 6) rfl rfl (by decide) rfl (fun ls hl => ?_)
                                                                        refine lv_goto (tgt := 23) hx hb dL_law_1997 (by decide) ?_
                                                                        exact ih _ _ _ _ _ _ _ _ _ _ (by omega) (by omega) hf hR (lv_sub hl [3, 4, 5, 6, 0] rfl)
                                                                      · have hf := iq hf c1885
                                                                        refine lv_iconst (v := 0) hx hb dL_law_1888 (by decide) ?_
                                                                        exact absurd (Option.some.inj hf) (by decide)
                                                                  · have hf := iq hf c1868
                                                                    refine lv_iconst (v := 0) hx hb dL_law_1871 (by decide) ?_
                                                                    exact absurd (Option.some.inj hf) (by decide)
                                                                · have hf := iq hf c39_29
                                                                  by_cases c39_30 : (x1 &&& 63) = 30
                                                                  · have hf := ip hf c39_30
                                                                    refine lv_tableIn (tgt := 1893) (off := 1854) hx hb dL_law_39 (by rw [c39_30]; decide) (by rw [c39_30]; decide) (by rw [c39_30]; decide +kernel) (by decide) ?_
                                                                    refine lv_aload_n hx hb dL_law_1893 rfl (lv_at hl 1 rfl) ?_
                                                                    refine lv_aload_n hx hb dL_law_1894 rfl (lv_at hl 3 rfl) ?_
                                                                    obtain ⟨q278, hq278, hf⟩ := ob hf
                                                                    refine r_callSW (As := [.ref (kA K v1), .ref (kA K v3)]) (rest := []) (st1 := [.int q278.1]) C hR (lv_sub hl [] rfl) (c_L_undo hl9 hq278) ms_L_undo ml_L_224 ⟨rfl, rfl, (Nat.le_of_ble_eq_true rfl), (Nat.le_of_ble_eq_true rfl)⟩ rfl rfl rfl (Nat.le_of_ble_eq_true rfl) ⟨by show _ ≤ 603072; omega, by show _ ≤ 7178346; omega⟩ dL_law_1895 (fun H locs hR => ?_)
                                                                    refine lv_istore (lv' := [(5, .int q278.1), (0, .ref b), (1, .ref (kA K v1)), (2, .ref (kA K v2)), (3, .ref (kA K v3)), (4, .int v4)]) hx hb dL_law_1898 hl (by decide) rfl (fun ls hl => ?_)
                                                                    refine lv_aload_n hx hb dL_law_1900 rfl (lv_at hl 3 rfl) ?_
                                                                    obtain ⟨u279, hu279, hf⟩ := ob hf
                                                                    obtain ⟨q280, hq280, hf⟩ := ob hf
                                                                    refine r_callV (As := []) (rest := []) (st1 := [.int q280.1]) C hR (lv_sub hl [] rfl) (c_X9_undo hq280) mv_X9_undo ml_L_226 ⟨rfl, rfl, (Nat.le_of_ble_eq_true rfl), (Nat.le_of_ble_eq_true rfl)⟩ (rv_obj C hR hu279 (q := (RX9, TX9, 17)) rfl) rfl rfl rfl (Nat.le_of_ble_eq_true rfl) ⟨by show _ ≤ 603072; omega, by show _ ≤ 7178346; omega⟩ dL_law_1901 (fun H locs hR => ?_)
                                                                    refine lv_istore (lv' := [(6, .int q280.1), (5, .int q278.1), (0, .ref b), (1, .ref (kA K v1)), (2, .ref (kA K v2)), (3, .ref (kA K v3)), (4, .int v4)]) hx hb dL_law_1904 hl (by decide) rfl (fun ls hl => ?_)
                                                                    refine lv_aload_n hx hb dL_law_1906 rfl (lv_at hl 4 rfl) ?_
                                                                    obtain ⟨u281, hu281, hf⟩ := ob hf
                                                                    obtain ⟨x282, hx282, hf⟩ := ob hf
                                                                    refine r_callV (As := []) (rest := []) (st1 := [.int x282]) C hR (lv_sub hl [] rfl) (c_X9_thrown hx282) mv_X9_thrown ml_L_127 ⟨rfl, rfl, (Nat.le_of_ble_eq_true rfl), (Nat.le_of_ble_eq_true rfl)⟩ (rv_obj C hR hu281 (q := (RX9, TX9, 17)) rfl) rfl rfl rfl (Nat.le_of_ble_eq_true rfl) ⟨by show _ ≤ 603072; omega, by show _ ≤ 7178346; omega⟩ dL_law_1907 (fun H locs hR => ?_)
                                                                    refine lv_iload hx hb dL_law_1910 (lv_at hl 1 rfl) ?_
                                                                    refine lv_icmp_eq (tgt := 1917) hx hb dL_law_1912 (by decide) (fun c1912 => ?_) (fun c1912 => ?_)
                                                                    · have hf := ip hf c1912
                                                                      refine lv_iload hx hb dL_law_1917 (lv_at hl 1 rfl) ?_
                                                                      refine lv_if_ne (tgt := 1934) hx hb dL_law_1919 (by decide) (fun c1919 => ?_) (fun c1919 => ?_)
                                                                      · have hf := iq hf c1919
                                                                        refine lv_goto (tgt := 1994) hx hb dL_law_1934 (by decide) ?_
                                                                        refine lv_iinc (v := v4 + 4) (lv' := [(4, .int (v4 + 4)), (6, .int q280.1), (5, .int q278.1), (0, .ref b), (1, .ref (kA K v1)), (2, .ref (kA K v2)), (3, .ref (kA K v3))]) hx hb dL_law_1994 hl (k := 6) rfl rfl (by decide) rfl (fun ls hl => ?_)
                                                                        refine lv_goto (tgt := 23) hx hb dL_law_1997 (by decide) ?_
                                                                        exact ih _ _ _ _ _ _ _ _ _ _ (by omega) (by omega) hf hR (lv_sub hl [3, 4, 5, 6, 0] rfl)
                                                                      · have hf := ip hf c1919
                                                                        refine lv_aload_n hx hb dL_law_1922 rfl (lv_at hl 5 rfl) ?_
                                                                        refine lv_iconst (v := 0) hx hb dL_law_1923 (by decide) ?_
                                                                        obtain ⟨x283, hx283, hf⟩ := ob hf
                                                                        refine r_lald C hR hx283 dL_law_1924 ?_
                                                                        refine lv_iload hx hb dL_law_1925 (lv_at hl 0 rfl) ?_
                                                                        refine lv_i2l (v := (Int32.toInt64 q280.1)) hx hb dL_law_1927 rfl ?_
                                                                        refine W.lcmp hx hb dL_law_1928 ?_
                                                                        refine lv_if_eq (tgt := 1934) hx hb dL_law_1929 (by decide) (fun c1929 => ?_) (fun c1929 => ?_)
                                                                        · have hf := ip hf c1929
                                                                          refine lv_goto (tgt := 1994) hx hb dL_law_1934 (by decide) ?_
                                                                          refine lv_iinc (v := v4 + 4) (lv' := [(4, .int (v4 + 4)), (6, .int q280.1), (5, .int q278.1), (0, .ref b), (1, .ref (kA K v1)), (2, .ref (kA K v2)), (3, .ref (kA K v3))]) hx hb dL_law_1994 hl (k := 6) rfl rfl (by decide) rfl (fun ls hl => ?_)
                                                                          refine lv_goto (tgt := 23) hx hb dL_law_1997 (by decide) ?_
                                                                          exact ih _ _ _ _ _ _ _ _ _ _ (by omega) (by omega) hf hR (lv_sub hl [3, 4, 5, 6, 0] rfl)
                                                                        · have hf := iq hf c1929
                                                                          refine lv_iconst (v := 0) hx hb dL_law_1932 (by decide) ?_
                                                                          exact absurd (Option.some.inj hf) (by decide)
                                                                    · have hf := iq hf c1912
                                                                      refine lv_iconst (v := 0) hx hb dL_law_1915 (by decide) ?_
                                                                      exact absurd (Option.some.inj hf) (by decide)
                                                                  · have hf := iq hf c39_30
                                                                    by_cases c39_31 : (x1 &&& 63) = 31
                                                                    · have hf := ip hf c39_31
                                                                      refine lv_tableIn (tgt := 1937) (off := 1898) hx hb dL_law_39 (by rw [c39_31]; decide) (by rw [c39_31]; decide) (by rw [c39_31]; decide +kernel) (by decide) ?_
                                                                      refine lv_aload_n hx hb dL_law_1937 rfl (lv_at hl 1 rfl) ?_
                                                                      obtain ⟨u284, hu284, hf⟩ := ob hf
                                                                      obtain ⟨q285, hq285, hf⟩ := ob hf
                                                                      refine r_callV (As := []) (rest := []) (st1 := [.int q285.1]) C hR (lv_sub hl [] rfl) (c_X8_save hq285) mv_X8_save ml_L_227 ⟨rfl, rfl, (Nat.le_of_ble_eq_true rfl), (Nat.le_of_ble_eq_true rfl)⟩ (rv_obj C hR hu284 (q := (RX8, TX8, 11)) rfl) rfl rfl rfl (Nat.le_of_ble_eq_true rfl) ⟨by show _ ≤ 603072; omega, by show _ ≤ 7178346; omega⟩ dL_law_1938 (fun H locs hR => ?_)
                                                                      refine lv_aload_n hx hb dL_law_1941 rfl (lv_at hl 2 rfl) ?_
                                                                      obtain ⟨u286, hu286, hf⟩ := ob hf
                                                                      obtain ⟨q287, hq287, hf⟩ := ob hf
                                                                      refine r_callV (As := []) (rest := [.int q285.1]) (st1 := [.int q287.1, .int q285.1]) C hR (lv_sub hl [] rfl) (c_X9_save hq287) mv_X9_save ml_L_230 ⟨rfl, rfl, (Nat.le_of_ble_eq_true rfl), (Nat.le_of_ble_eq_true rfl)⟩ (rv_obj C hR hu286 (q := (RX9, TX9, 17)) rfl) rfl rfl rfl (Nat.le_of_ble_eq_true rfl) ⟨by show _ ≤ 603072; omega, by show _ ≤ 7178346; omega⟩ dL_law_1942 (fun H locs hR => ?_)
                                                                      refine lv_icmp_eq (tgt := 1994) hx hb dL_law_1945 (by decide) (fun c1945 => ?_) (fun c1945 => ?_)
                                                                      · have hf := ip hf c1945
                                                                        refine lv_iinc (v := v4 + 4) (lv' := [(4, .int (v4 + 4)), (0, .ref b), (1, .ref (kA K v1)), (2, .ref (kA K v2)), (3, .ref (kA K v3))]) hx hb dL_law_1994 hl (k := 4) rfl rfl (by decide) rfl (fun ls hl => ?_)
                                                                        refine lv_goto (tgt := 23) hx hb dL_law_1997 (by decide) ?_
                                                                        exact ih _ _ _ _ _ _ _ _ _ _ (by omega) (by omega) hf hR (lv_sub hl [1, 2, 3, 4, 0] rfl)
                                                                      · have hf := iq hf c1945
                                                                        refine lv_iconst (v := 0) hx hb dL_law_1948 (by decide) ?_
                                                                        exact absurd (Option.some.inj hf) (by decide)
                                                                    · have hf := iq hf c39_31
                                                                      by_cases c39_32 : (x1 &&& 63) = 32
                                                                      · have hf := ip hf c39_32
                                                                        refine lv_tableIn (tgt := 1950) (off := 1911) hx hb dL_law_39 (by rw [c39_32]; decide) (by rw [c39_32]; decide) (by rw [c39_32]; decide +kernel) (by decide) ?_
                                                                        refine lv_aload_n hx hb dL_law_1950 rfl (lv_at hl 1 rfl) ?_
                                                                        refine lv_aload_n hx hb dL_law_1951 rfl (lv_at hl 3 rfl) ?_
                                                                        obtain ⟨q288, hq288, hf⟩ := ob hf
                                                                        refine r_callSW (As := [.ref (kA K v1), .ref (kA K v3)]) (rest := []) (st1 := [.int q288.1]) C hR (lv_sub hl [] rfl) (c_L_restore hl9 hq288) ms_L_restore ml_L_231 ⟨rfl, rfl, (Nat.le_of_ble_eq_true rfl), (Nat.le_of_ble_eq_true rfl)⟩ rfl rfl rfl (Nat.le_of_ble_eq_true rfl) ⟨by show _ ≤ 603072; omega, by show _ ≤ 7178346; omega⟩ dL_law_1952 (fun H locs hR => ?_)
                                                                        refine lv_istore (lv' := [(5, .int q288.1), (0, .ref b), (1, .ref (kA K v1)), (2, .ref (kA K v2)), (3, .ref (kA K v3)), (4, .int v4)]) hx hb dL_law_1955 hl (by decide) rfl (fun ls hl => ?_)
                                                                        refine lv_aload_n hx hb dL_law_1957 rfl (lv_at hl 3 rfl) ?_
                                                                        obtain ⟨u289, hu289, hf⟩ := ob hf
                                                                        obtain ⟨q290, hq290, hf⟩ := ob hf
                                                                        refine r_callV (As := []) (rest := []) (st1 := [.int q290.1]) C hR (lv_sub hl [] rfl) (c_X9_restore hq290) mv_X9_restore ml_L_233 ⟨rfl, rfl, (Nat.le_of_ble_eq_true rfl), (Nat.le_of_ble_eq_true rfl)⟩ (rv_obj C hR hu289 (q := (RX9, TX9, 17)) rfl) rfl rfl rfl (Nat.le_of_ble_eq_true rfl) ⟨by show _ ≤ 603072; omega, by show _ ≤ 7178346; omega⟩ dL_law_1958 (fun H locs hR => ?_)
                                                                        refine lv_istore (lv' := [(6, .int q290.1), (5, .int q288.1), (0, .ref b), (1, .ref (kA K v1)), (2, .ref (kA K v2)), (3, .ref (kA K v3)), (4, .int v4)]) hx hb dL_law_1961 hl (by decide) rfl (fun ls hl => ?_)
                                                                        refine lv_aload_n hx hb dL_law_1963 rfl (lv_at hl 4 rfl) ?_
                                                                        obtain ⟨u291, hu291, hf⟩ := ob hf
                                                                        obtain ⟨x292, hx292, hf⟩ := ob hf
                                                                        refine r_callV (As := []) (rest := []) (st1 := [.int x292]) C hR (lv_sub hl [] rfl) (c_X9_thrown hx292) mv_X9_thrown ml_L_127 ⟨rfl, rfl, (Nat.le_of_ble_eq_true rfl), (Nat.le_of_ble_eq_true rfl)⟩ (rv_obj C hR hu291 (q := (RX9, TX9, 17)) rfl) rfl rfl rfl (Nat.le_of_ble_eq_true rfl) ⟨by show _ ≤ 603072; omega, by show _ ≤ 7178346; omega⟩ dL_law_1964 (fun H locs hR => ?_)
                                                                        refine lv_iload hx hb dL_law_1967 (lv_at hl 1 rfl) ?_
                                                                        refine lv_icmp_eq (tgt := 1974) hx hb dL_law_1969 (by decide) (fun c1969 => ?_) (fun c1969 => ?_)
                                                                        · have hf := ip hf c1969
                                                                          refine lv_iload hx hb dL_law_1974 (lv_at hl 1 rfl) ?_
                                                                          refine lv_if_ne (tgt := 1991) hx hb dL_law_1976 (by decide) (fun c1976 => ?_) (fun c1976 => ?_)
                                                                          · have hf := iq hf c1976
                                                                            refine lv_goto (tgt := 1994) hx hb dL_law_1991 (by decide) ?_
                                                                            refine lv_iinc (v := v4 + 4) (lv' := [(4, .int (v4 + 4)), (6, .int q290.1), (5, .int q288.1), (0, .ref b), (1, .ref (kA K v1)), (2, .ref (kA K v2)), (3, .ref (kA K v3))]) hx hb dL_law_1994 hl (k := 6) rfl rfl (by decide) rfl (fun ls hl => ?_)
                                                                            refine lv_goto (tgt := 23) hx hb dL_law_1997 (by decide) ?_
                                                                            exact ih _ _ _ _ _ _ _ _ _ _ (by omega) (by omega) hf hR (lv_sub hl [3, 4, 5, 6, 0] rfl)
                                                                          · have hf := ip hf c1976
                                                                            refine lv_aload_n hx hb dL_law_1979 rfl (lv_at hl 5 rfl) ?_
                                                                            refine lv_iconst (v := 0) hx hb dL_law_1980 (by decide) ?_
                                                                            obtain ⟨x293, hx293, hf⟩ := ob hf
                                                                            refine r_lald C hR hx293 dL_law_1981 ?_
                                                                            refine lv_iload hx hb dL_law_1982 (lv_at hl 0 rfl) ?_
                                                                            refine lv_i2l (v := (Int32.toInt64 q290.1)) hx hb dL_law_1984 rfl ?_
                                                                            refine W.lcmp hx hb dL_law_1985 ?_
                                                                            refine lv_if_eq (tgt := 1991) hx hb dL_law_1986 (by decide) (fun c1986 => ?_) (fun c1986 => ?_)
                                                                            · have hf := ip hf c1986
                                                                              refine lv_goto (tgt := 1994) hx hb dL_law_1991 (by decide) ?_
                                                                              refine lv_iinc (v := v4 + 4) (lv' := [(4, .int (v4 + 4)), (6, .int q290.1), (5, .int q288.1), (0, .ref b), (1, .ref (kA K v1)), (2, .ref (kA K v2)), (3, .ref (kA K v3))]) hx hb dL_law_1994 hl (k := 6) rfl rfl (by decide) rfl (fun ls hl => ?_)
                                                                              refine lv_goto (tgt := 23) hx hb dL_law_1997 (by decide) ?_
                                                                              exact ih _ _ _ _ _ _ _ _ _ _ (by omega) (by omega) hf hR (lv_sub hl [3, 4, 5, 6, 0] rfl)
                                                                            · have hf := iq hf c1986
                                                                              refine lv_iconst (v := 0) hx hb dL_law_1989 (by decide) ?_
                                                                              exact absurd (Option.some.inj hf) (by decide)
                                                                        · have hf := iq hf c1969
                                                                          refine lv_iconst (v := 0) hx hb dL_law_1972 (by decide) ?_
                                                                          exact absurd (Option.some.inj hf) (by decide)
                                                                      · have hf := iq hf c39_32
                                                                        refine lv_tableOut (tgt := 1994) hx hb dL_law_39 (by have z0 := tn c39_0 (a := 0) rfl; have z1 := tn c39_1 (a := 1) rfl; have z2 := tn c39_2 (a := 2) rfl; have z3 := tn c39_3 (a := 3) rfl; have z4 := tn c39_4 (a := 4) rfl; have z5 := tn c39_5 (a := 5) rfl; have z6 := tn c39_6 (a := 6) rfl; have z7 := tn c39_7 (a := 7) rfl; have z8 := tn c39_8 (a := 8) rfl; have z9 := tn c39_9 (a := 9) rfl; have z10 := tn c39_10 (a := 10) rfl; have z11 := tn c39_11 (a := 11) rfl; have z12 := tn c39_12 (a := 12) rfl; have z13 := tn c39_13 (a := 13) rfl; have z14 := tn c39_14 (a := 14) rfl; have z15 := tn c39_15 (a := 15) rfl; have z16 := tn c39_16 (a := 16) rfl; have z17 := tn c39_17 (a := 17) rfl; have z18 := tn c39_18 (a := 18) rfl; have z19 := tn c39_19 (a := 19) rfl; have z20 := tn c39_20 (a := 20) rfl; have z21 := tn c39_21 (a := 21) rfl; have z22 := tn c39_22 (a := 22) rfl; have z23 := tn c39_23 (a := 23) rfl; have z24 := tn c39_24 (a := 24) rfl; have z25 := tn c39_25 (a := 25) rfl; have z26 := tn c39_26 (a := 26) rfl; have z27 := tn c39_27 (a := 27) rfl; have z28 := tn c39_28 (a := 28) rfl; have z29 := tn c39_29 (a := 29) rfl; have z30 := tn c39_30 (a := 30) rfl; have z31 := tn c39_31 (a := 31) rfl; have z32 := tn c39_32 (a := 32) rfl; omega) (by decide) ?_
                                                                        refine lv_iinc (v := v4 + 4) (lv' := [(4, .int (v4 + 4)), (0, .ref b), (1, .ref (kA K v1)), (2, .ref (kA K v2)), (3, .ref (kA K v3))]) hx hb dL_law_1994 hl (k := 4) rfl rfl (by decide) rfl (fun ls hl => ?_)
                                                                        refine lv_goto (tgt := 23) hx hb dL_law_1997 (by decide) ?_
                                                                        exact ih _ _ _ _ _ _ _ _ _ _ (by omega) (by omega) hf hR (lv_sub hl [1, 2, 3, 4, 0] rfl)
