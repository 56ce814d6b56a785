/-! the law as a function -/
set_option maxRecDepth 20000 in
def f_law_0 (N : Nat) (xs : Nat → Int32) (rec : Int32 → eMem → Option (Int32 × eMem)) (x4 : Int32) (σ : eMem) : Option (Int32 × eMem) :=
  if eix (x4 + (1 : Int32)) N = true then
    if eix (x4 + (2 : Int32)) N = true then
      Option.bind (f_L_load 2 (xs (x4 + (1 : Int32)).toNatClampNeg) (xs (x4 + (2 : Int32)).toNatClampNeg) 161 σ) (fun r1 =>
        if eix (x4 + (1 : Int32)) N = true then
          if eix (x4 + (2 : Int32)) N = true then
            if (KH 122).1 = 10 then
              Option.bind (f_X12_load 122 (xs (x4 + (1 : Int32)).toNatClampNeg) (xs (x4 + (2 : Int32)).toNatClampNeg) r1.2) (fun r2 =>
                if (KH 122).1 = 10 then
                  Option.bind (f_X12_thrown 122 r2.2) (fun r3 =>
                    if r3.1 = r1.1 then
                      if ¬ r1.1 = (0 : Int32) then
                        rec (x4 + (5 : Int32)) r3.2
                      else
                        if (KH 161).1 = 12 ∧ eix (0 : Int32) (KH 161).2 = true then
                          if (lg_cmp (r3.2.2 161 (0 : Int32).toNatClampNeg) r2.1.toInt64) = (0 : Int32) then
                            rec (x4 + (5 : Int32)) r3.2
                          else
                            if eB (0 : Int32) = true then some ((0 : Int32), r3.2) else none
                        else none
                    else
                      if eB (0 : Int32) = true then some ((0 : Int32), r3.2) else none
                    )
                else none
                )
            else none
          else none
        else none
        )
    else none
  else none


set_option maxRecDepth 20000 in
def f_law_1 (N : Nat) (xs : Nat → Int32) (rec : Int32 → eMem → Option (Int32 × eMem)) (x4 : Int32) (σ : eMem) : Option (Int32 × eMem) :=
  if eix (x4 + (1 : Int32)) N = true then
    if eix (x4 + (2 : Int32)) N = true then
      if eix (x4 + (3 : Int32)) N = true then
        Option.bind (f_L_store 2 (xs (x4 + (1 : Int32)).toNatClampNeg) (xs (x4 + (2 : Int32)).toNatClampNeg) (xs (x4 + (3 : Int32)).toNatClampNeg) 161 σ) (fun r4 =>
          if eix (x4 + (1 : Int32)) N = true then
            if eix (x4 + (2 : Int32)) N = true then
              if eix (x4 + (3 : Int32)) N = true then
                if (KH 122).1 = 10 then
                  Option.bind (f_X12_store 122 (xs (x4 + (1 : Int32)).toNatClampNeg) (xs (x4 + (2 : Int32)).toNatClampNeg) (xs (x4 + (3 : Int32)).toNatClampNeg) r4.2) (fun r5 =>
                    if (KH 122).1 = 10 then
                      Option.bind (f_X12_thrown 122 r5.2) (fun r6 =>
                        if r6.1 = r4.1 then
                          if ¬ r4.1 = (0 : Int32) then
                            rec (x4 + (5 : Int32)) r6.2
                          else
                            if (KH 161).1 = 12 ∧ eix (0 : Int32) (KH 161).2 = true then
                              if (lg_cmp (r6.2.2 161 (0 : Int32).toNatClampNeg) r5.1.toInt64) = (0 : Int32) then
                                rec (x4 + (5 : Int32)) r6.2
                              else
                                if eB (0 : Int32) = true then some ((0 : Int32), r6.2) else none
                            else none
                        else
                          if eB (0 : Int32) = true then some ((0 : Int32), r6.2) else none
                        )
                    else none
                    )
                else none
              else none
            else none
          else none
          )
      else none
    else none
  else none


set_option maxRecDepth 20000 in
def f_law_2 (N : Nat) (xs : Nat → Int32) (rec : Int32 → eMem → Option (Int32 × eMem)) (x4 : Int32) (σ : eMem) : Option (Int32 × eMem) :=
  if eix (x4 + (1 : Int32)) N = true then
    Option.bind (f_L_drain 2 (xs (x4 + (1 : Int32)).toNatClampNeg) 161 σ) (fun r7 =>
      if eix (x4 + (1 : Int32)) N = true then
        if (KH 122).1 = 10 then
          Option.bind (f_X12_drain 122 (xs (x4 + (1 : Int32)).toNatClampNeg) r7.2) (fun r8 =>
            if (KH 122).1 = 10 then
              Option.bind (f_X12_thrown 122 r8.2) (fun r9 =>
                if r9.1 = r7.1 then
                  if ¬ r7.1 = (0 : Int32) then
                    rec (x4 + (5 : Int32)) r9.2
                  else
                    if (KH 161).1 = 12 ∧ eix (0 : Int32) (KH 161).2 = true then
                      if r8.1 = (0 : Int32) then
                        if (lg_cmp (r9.2.2 161 (0 : Int32).toNatClampNeg) (0 : Int64)) = (0 : Int32) then
                          rec (x4 + (5 : Int32)) r9.2
                        else
                          if eB (0 : Int32) = true then some ((0 : Int32), r9.2) else none
                      else
                        if (lg_cmp (r9.2.2 161 (0 : Int32).toNatClampNeg) (1 : Int64)) = (0 : Int32) then
                          rec (x4 + (5 : Int32)) r9.2
                        else
                          if eB (0 : Int32) = true then some ((0 : Int32), r9.2) else none
                    else none
                else
                  if eB (0 : Int32) = true then some ((0 : Int32), r9.2) else none
                )
            else none
            )
        else none
      else none
      )
  else none


set_option maxRecDepth 20000 in
def f_law_3 (N : Nat) (xs : Nat → Int32) (rec : Int32 → eMem → Option (Int32 × eMem)) (x4 : Int32) (σ : eMem) : Option (Int32 × eMem) :=
  if eix (x4 + (1 : Int32)) N = true then
    Option.bind (f_L_fence 2 (xs (x4 + (1 : Int32)).toNatClampNeg) 161 σ) (fun r10 =>
      if eix (x4 + (1 : Int32)) N = true then
        if (KH 122).1 = 10 then
          Option.bind (f_X12_fence 122 (xs (x4 + (1 : Int32)).toNatClampNeg) r10.2) (fun r11 =>
            if (KH 122).1 = 10 then
              Option.bind (f_X12_thrown 122 r11.2) (fun r12 =>
                if r12.1 = r10.1 then
                  if ¬ r10.1 = (0 : Int32) then
                    rec (x4 + (5 : Int32)) r12.2
                  else
                    if (KH 161).1 = 12 ∧ eix (0 : Int32) (KH 161).2 = true then
                      if r11.1 = (0 : Int32) then
                        if (lg_cmp (r12.2.2 161 (0 : Int32).toNatClampNeg) (0 : Int64)) = (0 : Int32) then
                          rec (x4 + (5 : Int32)) r12.2
                        else
                          if eB (0 : Int32) = true then some ((0 : Int32), r12.2) else none
                      else
                        if (lg_cmp (r12.2.2 161 (0 : Int32).toNatClampNeg) (1 : Int64)) = (0 : Int32) then
                          rec (x4 + (5 : Int32)) r12.2
                        else
                          if eB (0 : Int32) = true then some ((0 : Int32), r12.2) else none
                    else none
                else
                  if eB (0 : Int32) = true then some ((0 : Int32), r12.2) else none
                )
            else none
            )
        else none
      else none
      )
  else none


set_option maxRecDepth 20000 in
def f_law_4 (N : Nat) (xs : Nat → Int32) (rec : Int32 → eMem → Option (Int32 × eMem)) (x4 : Int32) (σ : eMem) : Option (Int32 × eMem) :=
  if eix (x4 + (1 : Int32)) N = true then
    if eix (x4 + (2 : Int32)) N = true then
      if eix (x4 + (3 : Int32)) N = true then
        Option.bind (f_L_add 2 (xs (x4 + (1 : Int32)).toNatClampNeg) (xs (x4 + (2 : Int32)).toNatClampNeg) (xs (x4 + (3 : Int32)).toNatClampNeg) 161 σ) (fun r13 =>
          if eix (x4 + (1 : Int32)) N = true then
            if eix (x4 + (2 : Int32)) N = true then
              if eix (x4 + (3 : Int32)) N = true then
                if (KH 122).1 = 10 then
                  Option.bind (f_X12_add 122 (xs (x4 + (1 : Int32)).toNatClampNeg) (xs (x4 + (2 : Int32)).toNatClampNeg) (xs (x4 + (3 : Int32)).toNatClampNeg) r13.2) (fun r14 =>
                    if (KH 122).1 = 10 then
                      Option.bind (f_X12_thrown 122 r14.2) (fun r15 =>
                        if r15.1 = r13.1 then
                          if ¬ r13.1 = (0 : Int32) then
                            rec (x4 + (5 : Int32)) r15.2
                          else
                            if (KH 161).1 = 12 ∧ eix (0 : Int32) (KH 161).2 = true then
                              if (lg_cmp (r15.2.2 161 (0 : Int32).toNatClampNeg) r14.1.toInt64) = (0 : Int32) then
                                rec (x4 + (5 : Int32)) r15.2
                              else
                                if eB (0 : Int32) = true then some ((0 : Int32), r15.2) else none
                            else none
                        else
                          if eB (0 : Int32) = true then some ((0 : Int32), r15.2) else none
                        )
                    else none
                    )
                else none
              else none
            else none
          else none
          )
      else none
    else none
  else none


set_option maxRecDepth 20000 in
def f_law_5 (N : Nat) (xs : Nat → Int32) (rec : Int32 → eMem → Option (Int32 × eMem)) (x4 : Int32) (σ : eMem) : Option (Int32 × eMem) :=
  if eix (x4 + (1 : Int32)) N = true then
    Option.bind (f_L_begin 2 (xs (x4 + (1 : Int32)).toNatClampNeg) 161 σ) (fun r16 =>
      if eix (x4 + (1 : Int32)) N = true then
        if (KH 122).1 = 10 then
          Option.bind (f_X12_begin 122 (xs (x4 + (1 : Int32)).toNatClampNeg) r16.2) (fun r17 =>
            if (KH 122).1 = 10 then
              Option.bind (f_X12_thrown 122 r17.2) (fun r18 =>
                if r18.1 = r16.1 then
                  if ¬ r16.1 = (0 : Int32) then
                    rec (x4 + (5 : Int32)) r18.2
                  else
                    if (KH 161).1 = 12 ∧ eix (0 : Int32) (KH 161).2 = true then
                      if (lg_cmp (r18.2.2 161 (0 : Int32).toNatClampNeg) r17.1.toInt64) = (0 : Int32) then
                        rec (x4 + (5 : Int32)) r18.2
                      else
                        if eB (0 : Int32) = true then some ((0 : Int32), r18.2) else none
                    else none
                else
                  if eB (0 : Int32) = true then some ((0 : Int32), r18.2) else none
                )
            else none
            )
        else none
      else none
      )
  else none


set_option maxRecDepth 20000 in
def f_law_6 (N : Nat) (xs : Nat → Int32) (rec : Int32 → eMem → Option (Int32 × eMem)) (x4 : Int32) (σ : eMem) : Option (Int32 × eMem) :=
  if eix (x4 + (1 : Int32)) N = true then
    Option.bind (f_L_end 2 (xs (x4 + (1 : Int32)).toNatClampNeg) 161 σ) (fun r19 =>
      if eix (x4 + (1 : Int32)) N = true then
        if (KH 122).1 = 10 then
          Option.bind (f_X12_end 122 (xs (x4 + (1 : Int32)).toNatClampNeg) r19.2) (fun r20 =>
            if (KH 122).1 = 10 then
              Option.bind (f_X12_thrown 122 r20.2) (fun r21 =>
                if r21.1 = r19.1 then
                  if ¬ r19.1 = (0 : Int32) then
                    rec (x4 + (5 : Int32)) r21.2
                  else
                    if (KH 161).1 = 12 ∧ eix (0 : Int32) (KH 161).2 = true then
                      if (lg_cmp (r21.2.2 161 (0 : Int32).toNatClampNeg) r20.1.toInt64) = (0 : Int32) then
                        rec (x4 + (5 : Int32)) r21.2
                      else
                        if eB (0 : Int32) = true then some ((0 : Int32), r21.2) else none
                    else none
                else
                  if eB (0 : Int32) = true then some ((0 : Int32), r21.2) else none
                )
            else none
            )
        else none
      else none
      )
  else none


set_option maxRecDepth 20000 in
def f_law_7 (N : Nat) (xs : Nat → Int32) (rec : Int32 → eMem → Option (Int32 × eMem)) (x4 : Int32) (σ : eMem) : Option (Int32 × eMem) :=
  if eix (x4 + (1 : Int32)) N = true then
    if eix (x4 + (2 : Int32)) N = true then
      Option.bind (f_L_deliver 2 (xs (x4 + (1 : Int32)).toNatClampNeg) (xs (x4 + (2 : Int32)).toNatClampNeg) 161 σ) (fun r22 =>
        if eix (x4 + (1 : Int32)) N = true then
          if eix (x4 + (2 : Int32)) N = true then
            if (KH 122).1 = 10 then
              Option.bind (f_X12_deliver 122 (xs (x4 + (1 : Int32)).toNatClampNeg) (xs (x4 + (2 : Int32)).toNatClampNeg) r22.2) (fun r23 =>
                if (KH 122).1 = 10 then
                  Option.bind (f_X12_thrown 122 r23.2) (fun r24 =>
                    if r24.1 = r22.1 then
                      if ¬ r22.1 = (0 : Int32) then
                        rec (x4 + (5 : Int32)) r24.2
                      else
                        if (KH 161).1 = 12 ∧ eix (0 : Int32) (KH 161).2 = true then
                          if (lg_cmp (r24.2.2 161 (0 : Int32).toNatClampNeg) r23.1.toInt64) = (0 : Int32) then
                            rec (x4 + (5 : Int32)) r24.2
                          else
                            if eB (0 : Int32) = true then some ((0 : Int32), r24.2) else none
                        else none
                    else
                      if eB (0 : Int32) = true then some ((0 : Int32), r24.2) else none
                    )
                else none
                )
            else none
          else none
        else none
        )
    else none
  else none


set_option maxRecDepth 20000 in
def f_law_8 (N : Nat) (xs : Nat → Int32) (rec : Int32 → eMem → Option (Int32 × eMem)) (x4 : Int32) (σ : eMem) : Option (Int32 × eMem) :=
  if eix (x4 + (1 : Int32)) N = true then
    Option.bind (f_L_pump 2 (xs (x4 + (1 : Int32)).toNatClampNeg) 161 σ) (fun r25 =>
      if eix (x4 + (1 : Int32)) N = true then
        if (KH 122).1 = 10 then
          Option.bind (f_X12_pump 122 (xs (x4 + (1 : Int32)).toNatClampNeg) r25.2) (fun r26 =>
            if (KH 122).1 = 10 then
              Option.bind (f_X12_thrown 122 r26.2) (fun r27 =>
                if r27.1 = r25.1 then
                  if ¬ r25.1 = (0 : Int32) then
                    rec (x4 + (5 : Int32)) r27.2
                  else
                    if (KH 161).1 = 12 ∧ eix (0 : Int32) (KH 161).2 = true then
                      if (lg_cmp (r27.2.2 161 (0 : Int32).toNatClampNeg) r26.1.toInt64) = (0 : Int32) then
                        rec (x4 + (5 : Int32)) r27.2
                      else
                        if eB (0 : Int32) = true then some ((0 : Int32), r27.2) else none
                    else none
                else
                  if eB (0 : Int32) = true then some ((0 : Int32), r27.2) else none
                )
            else none
            )
        else none
      else none
      )
  else none


set_option maxRecDepth 20000 in
def f_law_9 (N : Nat) (xs : Nat → Int32) (rec : Int32 → eMem → Option (Int32 × eMem)) (x4 : Int32) (σ : eMem) : Option (Int32 × eMem) :=
  if eix (x4 + (1 : Int32)) N = true then
    if eix (x4 + (2 : Int32)) N = true then
      Option.bind (f_L_queued 2 (xs (x4 + (1 : Int32)).toNatClampNeg) (xs (x4 + (2 : Int32)).toNatClampNeg) 161 σ) (fun r28 =>
        if eix (x4 + (1 : Int32)) N = true then
          if eix (x4 + (2 : Int32)) N = true then
            if (KH 122).1 = 10 then
              Option.bind (f_X12_queued 122 (xs (x4 + (1 : Int32)).toNatClampNeg) (xs (x4 + (2 : Int32)).toNatClampNeg) r28.2) (fun r29 =>
                if (KH 122).1 = 10 then
                  Option.bind (f_X12_thrown 122 r29.2) (fun r30 =>
                    if r30.1 = r28.1 then
                      if ¬ r28.1 = (0 : Int32) then
                        rec (x4 + (5 : Int32)) r30.2
                      else
                        if (KH 161).1 = 12 ∧ eix (0 : Int32) (KH 161).2 = true then
                          if (lg_cmp (r30.2.2 161 (0 : Int32).toNatClampNeg) r29.1.toInt64) = (0 : Int32) then
                            rec (x4 + (5 : Int32)) r30.2
                          else
                            if eB (0 : Int32) = true then some ((0 : Int32), r30.2) else none
                        else none
                    else
                      if eB (0 : Int32) = true then some ((0 : Int32), r30.2) else none
                    )
                else none
                )
            else none
          else none
        else none
        )
    else none
  else none


set_option maxRecDepth 20000 in
def f_law_10 (N : Nat) (xs : Nat → Int32) (rec : Int32 → eMem → Option (Int32 × eMem)) (x4 : Int32) (σ : eMem) : Option (Int32 × eMem) :=
  if eix (x4 + (1 : Int32)) N = true then
    if eix (x4 + (2 : Int32)) N = true then
      Option.bind (f_L_stateOf 2 (xs (x4 + (1 : Int32)).toNatClampNeg) (xs (x4 + (2 : Int32)).toNatClampNeg) 161 σ) (fun r31 =>
        if eix (x4 + (1 : Int32)) N = true then
          if eix (x4 + (2 : Int32)) N = true then
            if (KH 122).1 = 10 then
              Option.bind (f_X12_stateOf 122 (xs (x4 + (1 : Int32)).toNatClampNeg) (xs (x4 + (2 : Int32)).toNatClampNeg) r31.2) (fun r32 =>
                if (KH 122).1 = 10 then
                  Option.bind (f_X12_thrown 122 r32.2) (fun r33 =>
                    if r33.1 = r31.1 then
                      if ¬ r31.1 = (0 : Int32) then
                        rec (x4 + (5 : Int32)) r33.2
                      else
                        if (KH 161).1 = 12 ∧ eix (0 : Int32) (KH 161).2 = true then
                          if (lg_cmp (r33.2.2 161 (0 : Int32).toNatClampNeg) r32.1.toInt64) = (0 : Int32) then
                            rec (x4 + (5 : Int32)) r33.2
                          else
                            if eB (0 : Int32) = true then some ((0 : Int32), r33.2) else none
                        else none
                    else
                      if eB (0 : Int32) = true then some ((0 : Int32), r33.2) else none
                    )
                else none
                )
            else none
          else none
        else none
        )
    else none
  else none


set_option maxRecDepth 20000 in
def f_law_11 (N : Nat) (xs : Nat → Int32) (rec : Int32 → eMem → Option (Int32 × eMem)) (x4 : Int32) (σ : eMem) : Option (Int32 × eMem) :=
  if eix (x4 + (1 : Int32)) N = true then
    if eix (x4 + (2 : Int32)) N = true then
      Option.bind (f_L_valueIn 2 (xs (x4 + (1 : Int32)).toNatClampNeg) (xs (x4 + (2 : Int32)).toNatClampNeg) 161 σ) (fun r34 =>
        if eix (x4 + (1 : Int32)) N = true then
          if eix (x4 + (2 : Int32)) N = true then
            if (KH 122).1 = 10 then
              Option.bind (f_X12_valueIn 122 (xs (x4 + (1 : Int32)).toNatClampNeg) (xs (x4 + (2 : Int32)).toNatClampNeg) r34.2) (fun r35 =>
                if (KH 122).1 = 10 then
                  Option.bind (f_X12_thrown 122 r35.2) (fun r36 =>
                    if r36.1 = r34.1 then
                      if ¬ r34.1 = (0 : Int32) then
                        rec (x4 + (5 : Int32)) r36.2
                      else
                        if (KH 161).1 = 12 ∧ eix (0 : Int32) (KH 161).2 = true then
                          if (lg_cmp (r36.2.2 161 (0 : Int32).toNatClampNeg) r35.1.toInt64) = (0 : Int32) then
                            rec (x4 + (5 : Int32)) r36.2
                          else
                            if eB (0 : Int32) = true then some ((0 : Int32), r36.2) else none
                        else none
                    else
                      if eB (0 : Int32) = true then some ((0 : Int32), r36.2) else none
                    )
                else none
                )
            else none
          else none
        else none
        )
    else none
  else none


set_option maxRecDepth 20000 in
def f_law_12 (N : Nat) (xs : Nat → Int32) (rec : Int32 → eMem → Option (Int32 × eMem)) (x4 : Int32) (σ : eMem) : Option (Int32 × eMem) :=
  if eix (x4 + (1 : Int32)) N = true then
    Option.bind (f_L_home 2 (xs (x4 + (1 : Int32)).toNatClampNeg) 161 σ) (fun r37 =>
      if eix (x4 + (1 : Int32)) N = true then
        if (KH 122).1 = 10 then
          Option.bind (f_X12_home 122 (xs (x4 + (1 : Int32)).toNatClampNeg) r37.2) (fun r38 =>
            if (KH 122).1 = 10 then
              Option.bind (f_X12_thrown 122 r38.2) (fun r39 =>
                if r39.1 = r37.1 then
                  if ¬ r37.1 = (0 : Int32) then
                    rec (x4 + (5 : Int32)) r39.2
                  else
                    if (KH 161).1 = 12 ∧ eix (0 : Int32) (KH 161).2 = true then
                      if (lg_cmp (r39.2.2 161 (0 : Int32).toNatClampNeg) r38.1.toInt64) = (0 : Int32) then
                        rec (x4 + (5 : Int32)) r39.2
                      else
                        if eB (0 : Int32) = true then some ((0 : Int32), r39.2) else none
                    else none
                else
                  if eB (0 : Int32) = true then some ((0 : Int32), r39.2) else none
                )
            else none
            )
        else none
      else none
      )
  else none


set_option maxRecDepth 20000 in
def f_law_13 (N : Nat) (xs : Nat → Int32) (rec : Int32 → eMem → Option (Int32 × eMem)) (x4 : Int32) (σ : eMem) : Option (Int32 × eMem) :=
  if eix (x4 + (1 : Int32)) N = true then
    Option.bind (f_L_owner 2 (xs (x4 + (1 : Int32)).toNatClampNeg) 161 σ) (fun r40 =>
      if eix (x4 + (1 : Int32)) N = true then
        if (KH 122).1 = 10 then
          Option.bind (f_X12_owner 122 (xs (x4 + (1 : Int32)).toNatClampNeg) r40.2) (fun r41 =>
            if (KH 122).1 = 10 then
              Option.bind (f_X12_thrown 122 r41.2) (fun r42 =>
                if r42.1 = r40.1 then
                  if ¬ r40.1 = (0 : Int32) then
                    rec (x4 + (5 : Int32)) r42.2
                  else
                    if (KH 161).1 = 12 ∧ eix (0 : Int32) (KH 161).2 = true then
                      if (lg_cmp (r42.2.2 161 (0 : Int32).toNatClampNeg) r41.1.toInt64) = (0 : Int32) then
                        rec (x4 + (5 : Int32)) r42.2
                      else
                        if eB (0 : Int32) = true then some ((0 : Int32), r42.2) else none
                    else none
                else
                  if eB (0 : Int32) = true then some ((0 : Int32), r42.2) else none
                )
            else none
            )
        else none
      else none
      )
  else none


set_option maxRecDepth 20000 in
def f_law_14 (N : Nat) (xs : Nat → Int32) (rec : Int32 → eMem → Option (Int32 × eMem)) (x4 : Int32) (σ : eMem) : Option (Int32 × eMem) :=
  if eix (x4 + (1 : Int32)) N = true then
    Option.bind (f_L_sharers 2 (xs (x4 + (1 : Int32)).toNatClampNeg) 161 σ) (fun r43 =>
      if eix (x4 + (1 : Int32)) N = true then
        if (KH 122).1 = 10 then
          Option.bind (f_X12_sharers 122 (xs (x4 + (1 : Int32)).toNatClampNeg) r43.2) (fun r44 =>
            if (KH 122).1 = 10 then
              Option.bind (f_X12_thrown 122 r44.2) (fun r45 =>
                if r45.1 = r43.1 then
                  if ¬ r43.1 = (0 : Int32) then
                    rec (x4 + (5 : Int32)) r45.2
                  else
                    if (KH 161).1 = 12 ∧ eix (0 : Int32) (KH 161).2 = true then
                      if (lg_cmp (r45.2.2 161 (0 : Int32).toNatClampNeg) r44.1.toInt64) = (0 : Int32) then
                        rec (x4 + (5 : Int32)) r45.2
                      else
                        if eB (0 : Int32) = true then some ((0 : Int32), r45.2) else none
                    else none
                else
                  if eB (0 : Int32) = true then some ((0 : Int32), r45.2) else none
                )
            else none
            )
        else none
      else none
      )
  else none


set_option maxRecDepth 20000 in
def f_law_15 (N : Nat) (xs : Nat → Int32) (rec : Int32 → eMem → Option (Int32 × eMem)) (x4 : Int32) (σ : eMem) : Option (Int32 × eMem) :=
  if eix (x4 + (1 : Int32)) N = true then
    Option.bind (f_L_waiting 2 (xs (x4 + (1 : Int32)).toNatClampNeg) 161 σ) (fun r46 =>
      if eix (x4 + (1 : Int32)) N = true then
        if (KH 122).1 = 10 then
          Option.bind (f_X12_waiting 122 (xs (x4 + (1 : Int32)).toNatClampNeg) r46.2) (fun r47 =>
            if (KH 122).1 = 10 then
              Option.bind (f_X12_thrown 122 r47.2) (fun r48 =>
                if r48.1 = r46.1 then
                  if ¬ r46.1 = (0 : Int32) then
                    rec (x4 + (5 : Int32)) r48.2
                  else
                    if (KH 161).1 = 12 ∧ eix (0 : Int32) (KH 161).2 = true then
                      if (lg_cmp (r48.2.2 161 (0 : Int32).toNatClampNeg) r47.1.toInt64) = (0 : Int32) then
                        rec (x4 + (5 : Int32)) r48.2
                      else
                        if eB (0 : Int32) = true then some ((0 : Int32), r48.2) else none
                    else none
                else
                  if eB (0 : Int32) = true then some ((0 : Int32), r48.2) else none
                )
            else none
            )
        else none
      else none
      )
  else none


set_option maxRecDepth 20000 in
def f_law_16 (N : Nat) (xs : Nat → Int32) (rec : Int32 → eMem → Option (Int32 × eMem)) (x4 : Int32) (σ : eMem) : Option (Int32 × eMem) :=
  if eix (x4 + (1 : Int32)) N = true then
    Option.bind (f_L_truth 2 (xs (x4 + (1 : Int32)).toNatClampNeg) 161 σ) (fun r49 =>
      if eix (x4 + (1 : Int32)) N = true then
        if (KH 122).1 = 10 then
          Option.bind (f_X12_truth 122 (xs (x4 + (1 : Int32)).toNatClampNeg) r49.2) (fun r50 =>
            if (KH 122).1 = 10 then
              Option.bind (f_X12_thrown 122 r50.2) (fun r51 =>
                if r51.1 = r49.1 then
                  if ¬ r49.1 = (0 : Int32) then
                    rec (x4 + (5 : Int32)) r51.2
                  else
                    if (KH 161).1 = 12 ∧ eix (0 : Int32) (KH 161).2 = true then
                      if (lg_cmp (r51.2.2 161 (0 : Int32).toNatClampNeg) r50.1.toInt64) = (0 : Int32) then
                        rec (x4 + (5 : Int32)) r51.2
                      else
                        if eB (0 : Int32) = true then some ((0 : Int32), r51.2) else none
                    else none
                else
                  if eB (0 : Int32) = true then some ((0 : Int32), r51.2) else none
                )
            else none
            )
        else none
      else none
      )
  else none


set_option maxRecDepth 20000 in
def f_law_17 (N : Nat) (xs : Nat → Int32) (rec : Int32 → eMem → Option (Int32 × eMem)) (x4 : Int32) (σ : eMem) : Option (Int32 × eMem) :=
  if (KH 2).1 = 9 then
    Option.bind (f_X11_isCoherent 2 σ) (fun r52 =>
      if (KH 122).1 = 10 then
        Option.bind (f_X12_isCoherent 122 r52.2) (fun r53 =>
          if r52.1 = r53.1 then
            rec (x4 + (5 : Int32)) r53.2
          else
            if eB (0 : Int32) = true then some ((0 : Int32), r53.2) else none
          )
      else none
      )
  else none


set_option maxRecDepth 20000 in
def f_law_18 (N : Nat) (xs : Nat → Int32) (rec : Int32 → eMem → Option (Int32 × eMem)) (x4 : Int32) (σ : eMem) : Option (Int32 × eMem) :=
  if eix (x4 + (1 : Int32)) N = true then
    Option.bind (f_L_counter 2 (xs (x4 + (1 : Int32)).toNatClampNeg) 161 σ) (fun r54 =>
      if eix (x4 + (1 : Int32)) N = true then
        if (KH 122).1 = 10 then
          Option.bind (f_X12_counter 122 (xs (x4 + (1 : Int32)).toNatClampNeg) r54.2) (fun r55 =>
            if (KH 122).1 = 10 then
              Option.bind (f_X12_thrown 122 r55.2) (fun r56 =>
                if r56.1 = r54.1 then
                  if ¬ r54.1 = (0 : Int32) then
                    rec (x4 + (5 : Int32)) r56.2
                  else
                    if (KH 161).1 = 12 ∧ eix (0 : Int32) (KH 161).2 = true then
                      if (lg_cmp (r56.2.2 161 (0 : Int32).toNatClampNeg) r55.1.toInt64) = (0 : Int32) then
                        rec (x4 + (5 : Int32)) r56.2
                      else
                        if eB (0 : Int32) = true then some ((0 : Int32), r56.2) else none
                    else none
                else
                  if eB (0 : Int32) = true then some ((0 : Int32), r56.2) else none
                )
            else none
            )
        else none
      else none
      )
  else none


set_option maxRecDepth 20000 in
def f_law_19 (N : Nat) (xs : Nat → Int32) (rec : Int32 → eMem → Option (Int32 × eMem)) (x4 : Int32) (σ : eMem) : Option (Int32 × eMem) :=
  if (KH 2).1 = 9 then
    Option.bind (f_X11_clear 2 σ) (fun r57 =>
      if (KH 122).1 = 10 then
        Option.bind (f_X12_clear 122 r57.2) (fun r58 =>
          if r57.1 = r58.1 then
            rec (x4 + (5 : Int32)) r58.2
          else
            if eB (0 : Int32) = true then some ((0 : Int32), r58.2) else none
          )
      else none
      )
  else none


set_option maxRecDepth 20000 in
def f_law_20 (N : Nat) (xs : Nat → Int32) (rec : Int32 → eMem → Option (Int32 × eMem)) (x4 : Int32) (σ : eMem) : Option (Int32 × eMem) :=
  if eix (x4 + (1 : Int32)) N = true then
    if eix (x4 + (2 : Int32)) N = true then
      if eix (x4 + (3 : Int32)) N = true then
        if eix (x4 + (4 : Int32)) N = true then
          Option.bind (f_L_step 2 (xs (x4 + (1 : Int32)).toNatClampNeg) (xs (x4 + (2 : Int32)).toNatClampNeg) (xs (x4 + (3 : Int32)).toNatClampNeg) (xs (x4 + (4 : Int32)).toNatClampNeg) 161 σ) (fun r59 =>
            if eix (x4 + (1 : Int32)) N = true then
              if eix (x4 + (2 : Int32)) N = true then
                if eix (x4 + (3 : Int32)) N = true then
                  if eix (x4 + (4 : Int32)) N = true then
                    if (KH 122).1 = 10 then
                      Option.bind (f_X12_step 122 (xs (x4 + (1 : Int32)).toNatClampNeg) (xs (x4 + (2 : Int32)).toNatClampNeg) (xs (x4 + (3 : Int32)).toNatClampNeg) (xs (x4 + (4 : Int32)).toNatClampNeg) r59.2) (fun r60 =>
                        if (KH 122).1 = 10 then
                          Option.bind (f_X12_thrown 122 r60.2) (fun r61 =>
                            if r61.1 = r59.1 then
                              if ¬ r59.1 = (0 : Int32) then
                                rec (x4 + (5 : Int32)) r61.2
                              else
                                if (KH 161).1 = 12 ∧ eix (0 : Int32) (KH 161).2 = true then
                                  if (lg_cmp (r61.2.2 161 (0 : Int32).toNatClampNeg) r60.1.toInt64) = (0 : Int32) then
                                    rec (x4 + (5 : Int32)) r61.2
                                  else
                                    if eB (0 : Int32) = true then some ((0 : Int32), r61.2) else none
                                else none
                            else
                              if eB (0 : Int32) = true then some ((0 : Int32), r61.2) else none
                            )
                        else none
                        )
                    else none
                  else none
                else none
              else none
            else none
            )
        else none
      else none
    else none
  else none


set_option maxRecDepth 20000 in
def f_law_21 (N : Nat) (xs : Nat → Int32) (rec : Int32 → eMem → Option (Int32 × eMem)) (x4 : Int32) (σ : eMem) : Option (Int32 × eMem) :=
  if eix (x4 + (1 : Int32)) N = true then
    Option.bind (f_L_outcomes 2 (xs (x4 + (1 : Int32)).toNatClampNeg) 161 σ) (fun r62 =>
      if eix (x4 + (1 : Int32)) N = true then
        if (KH 122).1 = 10 then
          Option.bind (f_X12_outcomes 122 (xs (x4 + (1 : Int32)).toNatClampNeg) r62.2) (fun r63 =>
            if (KH 122).1 = 10 then
              Option.bind (f_X12_thrown 122 r63.2) (fun r64 =>
                if r64.1 = r62.1 then
                  if ¬ r62.1 = (0 : Int32) then
                    rec (x4 + (5 : Int32)) r64.2
                  else
                    if (KH 161).1 = 12 ∧ eix (0 : Int32) (KH 161).2 = true then
                      if (lg_cmp (r64.2.2 161 (0 : Int32).toNatClampNeg) r63.1.toInt64) = (0 : Int32) then
                        rec (x4 + (5 : Int32)) r64.2
                      else
                        if eB (0 : Int32) = true then some ((0 : Int32), r64.2) else none
                    else none
                else
                  if eB (0 : Int32) = true then some ((0 : Int32), r64.2) else none
                )
            else none
            )
        else none
      else none
      )
  else none


set_option maxRecDepth 20000 in
def f_law_22 (N : Nat) (xs : Nat → Int32) (rec : Int32 → eMem → Option (Int32 × eMem)) (x4 : Int32) (σ : eMem) : Option (Int32 × eMem) :=
  if eix (x4 + (1 : Int32)) N = true then
    if eix (x4 + (2 : Int32)) N = true then
      Option.bind (f_L_outcome 2 (xs (x4 + (1 : Int32)).toNatClampNeg) (xs (x4 + (2 : Int32)).toNatClampNeg) 161 σ) (fun r65 =>
        if eix (x4 + (1 : Int32)) N = true then
          if eix (x4 + (2 : Int32)) N = true then
            if (KH 122).1 = 10 then
              Option.bind (f_X12_outcome 122 (xs (x4 + (1 : Int32)).toNatClampNeg) (xs (x4 + (2 : Int32)).toNatClampNeg) r65.2) (fun r66 =>
                if (KH 122).1 = 10 then
                  Option.bind (f_X12_thrown 122 r66.2) (fun r67 =>
                    if r67.1 = r65.1 then
                      if ¬ r65.1 = (0 : Int32) then
                        rec (x4 + (5 : Int32)) r67.2
                      else
                        if (KH 161).1 = 12 ∧ eix (0 : Int32) (KH 161).2 = true then
                          if (lg_cmp (r67.2.2 161 (0 : Int32).toNatClampNeg) r66.1.toInt64) = (0 : Int32) then
                            rec (x4 + (5 : Int32)) r67.2
                          else
                            if eB (0 : Int32) = true then some ((0 : Int32), r67.2) else none
                        else none
                    else
                      if eB (0 : Int32) = true then some ((0 : Int32), r67.2) else none
                    )
                else none
                )
            else none
          else none
        else none
        )
    else none
  else none


set_option maxRecDepth 20000 in
def f_law_23 (N : Nat) (xs : Nat → Int32) (rec : Int32 → eMem → Option (Int32 × eMem)) (x4 : Int32) (σ : eMem) : Option (Int32 × eMem) :=
  if eix (x4 + (1 : Int32)) N = true then
    Option.bind (f_L_outcomesAnew 2 (xs (x4 + (1 : Int32)).toNatClampNeg) 161 σ) (fun r68 =>
      if eix (x4 + (1 : Int32)) N = true then
        if (KH 122).1 = 10 then
          Option.bind (f_X12_outcomesAnew 122 (xs (x4 + (1 : Int32)).toNatClampNeg) r68.2) (fun r69 =>
            if (KH 122).1 = 10 then
              Option.bind (f_X12_thrown 122 r69.2) (fun r70 =>
                if r70.1 = r68.1 then
                  if ¬ r68.1 = (0 : Int32) then
                    rec (x4 + (5 : Int32)) r70.2
                  else
                    if (KH 161).1 = 12 ∧ eix (0 : Int32) (KH 161).2 = true then
                      if (lg_cmp (r70.2.2 161 (0 : Int32).toNatClampNeg) r69.1.toInt64) = (0 : Int32) then
                        rec (x4 + (5 : Int32)) r70.2
                      else
                        if eB (0 : Int32) = true then some ((0 : Int32), r70.2) else none
                    else none
                else
                  if eB (0 : Int32) = true then some ((0 : Int32), r70.2) else none
                )
            else none
            )
        else none
      else none
      )
  else none


set_option maxRecDepth 20000 in
def f_law_24 (N : Nat) (xs : Nat → Int32) (rec : Int32 → eMem → Option (Int32 × eMem)) (x4 : Int32) (σ : eMem) : Option (Int32 × eMem) :=
  if (KH 2).1 = 9 then
    Option.bind (f_X11_areAlike 2 σ) (fun r71 =>
      if (KH 122).1 = 10 then
        Option.bind (f_X12_areAlike 122 r71.2) (fun r72 =>
          if r71.1 = r72.1 then
            rec (x4 + (5 : Int32)) r72.2
          else
            if eB (0 : Int32) = true then some ((0 : Int32), r72.2) else none
          )
      else none
      )
  else none


set_option maxRecDepth 20000 in
def f_law (N : Nat) (xs : Nat → Int32) : Nat → Int32 → eMem → Option (Int32 × eMem)
  | 0, _, _ => none
  | n + 1, x4, σ =>
    if ((Int32.ofNat N) - (5 : Int32)) < x4 then
      if eB (1 : Int32) = true then some ((1 : Int32), σ) else none
    else
      if eix x4 N = true then
        if ((xs x4.toNatClampNeg) &&& (31 : Int32)) = (0 : Int32) then
          f_law_0 N xs (f_law N xs n) x4 σ
        else
          if ((xs x4.toNatClampNeg) &&& (31 : Int32)) = (1 : Int32) then
            f_law_1 N xs (f_law N xs n) x4 σ
          else
            if ((xs x4.toNatClampNeg) &&& (31 : Int32)) = (2 : Int32) then
              f_law_2 N xs (f_law N xs n) x4 σ
            else
              if ((xs x4.toNatClampNeg) &&& (31 : Int32)) = (3 : Int32) then
                f_law_3 N xs (f_law N xs n) x4 σ
              else
                if ((xs x4.toNatClampNeg) &&& (31 : Int32)) = (4 : Int32) then
                  f_law_4 N xs (f_law N xs n) x4 σ
                else
                  if ((xs x4.toNatClampNeg) &&& (31 : Int32)) = (5 : Int32) then
                    f_law_5 N xs (f_law N xs n) x4 σ
                  else
                    if ((xs x4.toNatClampNeg) &&& (31 : Int32)) = (6 : Int32) then
                      f_law_6 N xs (f_law N xs n) x4 σ
                    else
                      if ((xs x4.toNatClampNeg) &&& (31 : Int32)) = (7 : Int32) then
                        f_law_7 N xs (f_law N xs n) x4 σ
                      else
                        if ((xs x4.toNatClampNeg) &&& (31 : Int32)) = (8 : Int32) then
                          f_law_8 N xs (f_law N xs n) x4 σ
                        else
                          if ((xs x4.toNatClampNeg) &&& (31 : Int32)) = (9 : Int32) then
                            f_law_9 N xs (f_law N xs n) x4 σ
                          else
                            if ((xs x4.toNatClampNeg) &&& (31 : Int32)) = (10 : Int32) then
                              f_law_10 N xs (f_law N xs n) x4 σ
                            else
                              if ((xs x4.toNatClampNeg) &&& (31 : Int32)) = (11 : Int32) then
                                f_law_11 N xs (f_law N xs n) x4 σ
                              else
                                if ((xs x4.toNatClampNeg) &&& (31 : Int32)) = (12 : Int32) then
                                  f_law_12 N xs (f_law N xs n) x4 σ
                                else
                                  if ((xs x4.toNatClampNeg) &&& (31 : Int32)) = (13 : Int32) then
                                    f_law_13 N xs (f_law N xs n) x4 σ
                                  else
                                    if ((xs x4.toNatClampNeg) &&& (31 : Int32)) = (14 : Int32) then
                                      f_law_14 N xs (f_law N xs n) x4 σ
                                    else
                                      if ((xs x4.toNatClampNeg) &&& (31 : Int32)) = (15 : Int32) then
                                        f_law_15 N xs (f_law N xs n) x4 σ
                                      else
                                        if ((xs x4.toNatClampNeg) &&& (31 : Int32)) = (16 : Int32) then
                                          f_law_16 N xs (f_law N xs n) x4 σ
                                        else
                                          if ((xs x4.toNatClampNeg) &&& (31 : Int32)) = (17 : Int32) then
                                            f_law_17 N xs (f_law N xs n) x4 σ
                                          else
                                            if ((xs x4.toNatClampNeg) &&& (31 : Int32)) = (18 : Int32) then
                                              f_law_18 N xs (f_law N xs n) x4 σ
                                            else
                                              if ((xs x4.toNatClampNeg) &&& (31 : Int32)) = (19 : Int32) then
                                                f_law_19 N xs (f_law N xs n) x4 σ
                                              else
                                                if ((xs x4.toNatClampNeg) &&& (31 : Int32)) = (20 : Int32) then
                                                  f_law_20 N xs (f_law N xs n) x4 σ
                                                else
                                                  if ((xs x4.toNatClampNeg) &&& (31 : Int32)) = (21 : Int32) then
                                                    f_law_21 N xs (f_law N xs n) x4 σ
                                                  else
                                                    if ((xs x4.toNatClampNeg) &&& (31 : Int32)) = (22 : Int32) then
                                                      f_law_22 N xs (f_law N xs n) x4 σ
                                                    else
                                                      if ((xs x4.toNatClampNeg) &&& (31 : Int32)) = (23 : Int32) then
                                                        f_law_23 N xs (f_law N xs n) x4 σ
                                                      else
                                                        if ((xs x4.toNatClampNeg) &&& (31 : Int32)) = (24 : Int32) then
                                                          f_law_24 N xs (f_law N xs n) x4 σ
                                                        else
                                                          f_law N xs n (x4 + (5 : Int32)) σ
      else none

