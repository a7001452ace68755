/-! ===== the methods as pure functions (printed by wip/whole/emitall.py, split.py) ===== -/
def zL_law_220 (l : Nat) (x4 : Int32) (I : iq_I) (J : iq_J) (X : iq_X) : Option ((Int32 × iq_I × iq_J × iq_X) ⊕ ((iq_I × iq_J × iq_X) ⊕ (Int32 × iq_I × iq_J × iq_X))) :=
  if iq_in (x4 + (1 : Int32)) l then (
    if iq_in (x4 + (2 : Int32)) l then (
      if iq_in (x4 + (3 : Int32)) l then (
        if iq_in (x4 + (4 : Int32)) l then (
          if iq_in (x4 + (5 : Int32)) l then (
            (zO_feed (I 0 (Int32.toNatClampNeg (x4 + (1 : Int32)))) (I 0 (Int32.toNatClampNeg (x4 + (2 : Int32)))) (I 0 (Int32.toNatClampNeg (x4 + (3 : Int32)))) (I 0 (Int32.toNatClampNeg (x4 + (4 : Int32)))) (I 0 (Int32.toNatClampNeg (x4 + (5 : Int32)))) I).bind fun q1 =>
            if iq_in (x4 + (1 : Int32)) l then (
              if iq_in (x4 + (2 : Int32)) l then (
                if iq_in (x4 + (3 : Int32)) l then (
                  if iq_in (x4 + (4 : Int32)) l then (
                    if iq_in (x4 + (5 : Int32)) l then (
                      (zM_feed (q1.2 0 (Int32.toNatClampNeg (x4 + (1 : Int32)))) (q1.2 0 (Int32.toNatClampNeg (x4 + (2 : Int32)))) (q1.2 0 (Int32.toNatClampNeg (x4 + (3 : Int32)))) (q1.2 0 (Int32.toNatClampNeg (x4 + (4 : Int32)))) (q1.2 0 (Int32.toNatClampNeg (x4 + (5 : Int32)))) q1.2).bind fun q2 =>
                      if q1.1 = q2.1 then (
                        some (.inl ((x4 + (6 : Int32)), q2.2, J, X))) else (
                        some (.inr (.inr ((0 : Int32), q2.2, J, X))))) else none) else none) else none) else none) else none) else none) else none) else none) else none) else none
def zL_law_293 (l : Nat) (x4 : Int32) (I : iq_I) (J : iq_J) (X : iq_X) : Option ((Int32 × iq_I × iq_J × iq_X) ⊕ ((iq_I × iq_J × iq_X) ⊕ (Int32 × iq_I × iq_J × iq_X))) :=
  if iq_in (x4 + (1 : Int32)) l then (
    (zL_museum (I 0 (Int32.toNatClampNeg (x4 + (1 : Int32)))) I J X).bind fun q3 =>
    if iq_in (x4 + (1 : Int32)) l then (
      (zM_museum (q3.2.1 0 (Int32.toNatClampNeg (x4 + (1 : Int32)))) q3.2.1 q3.2.2.1).bind fun q4 =>
      (zM_thrown q4.2.1).bind fun q5 =>
      if q5 = q3.1 then (
        if ¬ q3.1 = 0 then (
          some (.inl ((x4 + (6 : Int32)), q4.2.1, q4.2.2, q3.2.2.2))) else (
          if (lg_cmp (q4.2.2 114 0) (Int32.toInt64 q4.1)) = 0 then (
            some (.inl ((x4 + (6 : Int32)), q4.2.1, q4.2.2, q3.2.2.2))) else (
            some (.inr (.inr ((0 : Int32), q4.2.1, q4.2.2, q3.2.2.2)))))) else (
        some (.inr (.inr ((0 : Int32), q4.2.1, q4.2.2, q3.2.2.2))))) else none) else none
def zL_law_349 (l : Nat) (x4 : Int32) (I : iq_I) (J : iq_J) (X : iq_X) : Option ((Int32 × iq_I × iq_J × iq_X) ⊕ ((iq_I × iq_J × iq_X) ⊕ (Int32 × iq_I × iq_J × iq_X))) :=
  (zO_fault I).bind fun q6 =>
  (zM_fault I).bind fun q7 =>
  if q6 = q7.1 then (
    some (.inl ((x4 + (6 : Int32)), q7.2, J, X))) else (
    some (.inr (.inr ((0 : Int32), q7.2, J, X))))
def zL_law_362 (l : Nat) (x4 : Int32) (I : iq_I) (J : iq_J) (X : iq_X) : Option ((Int32 × iq_I × iq_J × iq_X) ⊕ ((iq_I × iq_J × iq_X) ⊕ (Int32 × iq_I × iq_J × iq_X))) :=
  if iq_in (x4 + (1 : Int32)) l then (
    (zL_count (I 0 (Int32.toNatClampNeg (x4 + (1 : Int32)))) I J X).bind fun q8 =>
    if iq_in (x4 + (1 : Int32)) l then (
      (zM_count (I 0 (Int32.toNatClampNeg (x4 + (1 : Int32)))) I).bind fun q9 =>
      (zM_thrown q9.2).bind fun q10 =>
      if q10 = q8.1 then (
        if ¬ q8.1 = 0 then (
          some (.inl ((x4 + (6 : Int32)), q9.2, q8.2.1, q8.2.2))) else (
          if (lg_cmp (q8.2.1 114 0) (Int32.toInt64 q9.1)) = 0 then (
            some (.inl ((x4 + (6 : Int32)), q9.2, q8.2.1, q8.2.2))) else (
            some (.inr (.inr ((0 : Int32), q9.2, q8.2.1, q8.2.2)))))) else (
        some (.inr (.inr ((0 : Int32), q9.2, q8.2.1, q8.2.2))))) else none) else none
def zL_law_418 (l : Nat) (x4 : Int32) (I : iq_I) (J : iq_J) (X : iq_X) : Option ((Int32 × iq_I × iq_J × iq_X) ⊕ ((iq_I × iq_J × iq_X) ⊕ (Int32 × iq_I × iq_J × iq_X))) :=
  if iq_in (x4 + (1 : Int32)) l then (
    if iq_in (x4 + (2 : Int32)) l then (
      (zL_letter (I 0 (Int32.toNatClampNeg (x4 + (1 : Int32)))) (I 0 (Int32.toNatClampNeg (x4 + (2 : Int32)))) I J X).bind fun q11 =>
      if iq_in (x4 + (1 : Int32)) l then (
        if iq_in (x4 + (2 : Int32)) l then (
          (zM_letter (I 0 (Int32.toNatClampNeg (x4 + (1 : Int32)))) (I 0 (Int32.toNatClampNeg (x4 + (2 : Int32)))) I).bind fun q12 =>
          (zM_thrown q12.2).bind fun q13 =>
          if q13 = q11.1 then (
            if ¬ q11.1 = 0 then (
              some (.inl ((x4 + (6 : Int32)), q12.2, q11.2.1, q11.2.2))) else (
              if (lg_cmp (q11.2.1 114 0) (Int32.toInt64 q12.1)) = 0 then (
                some (.inl ((x4 + (6 : Int32)), q12.2, q11.2.1, q11.2.2))) else (
                some (.inr (.inr ((0 : Int32), q12.2, q11.2.1, q11.2.2)))))) else (
            some (.inr (.inr ((0 : Int32), q12.2, q11.2.1, q11.2.2))))) else none) else none) else none) else none
def zL_law_486 (l : Nat) (x4 : Int32) (I : iq_I) (J : iq_J) (X : iq_X) : Option ((Int32 × iq_I × iq_J × iq_X) ⊕ ((iq_I × iq_J × iq_X) ⊕ (Int32 × iq_I × iq_J × iq_X))) :=
  if iq_in (x4 + (1 : Int32)) l then (
    (zL_kind (I 0 (Int32.toNatClampNeg (x4 + (1 : Int32)))) I J X).bind fun q14 =>
    if iq_in (x4 + (1 : Int32)) l then (
      (zM_kind (I 0 (Int32.toNatClampNeg (x4 + (1 : Int32)))) I).bind fun q15 =>
      (zM_thrown q15.2).bind fun q16 =>
      if q16 = q14.1 then (
        if ¬ q14.1 = 0 then (
          some (.inl ((x4 + (6 : Int32)), q15.2, q14.2.1, q14.2.2))) else (
          if (lg_cmp (q14.2.1 114 0) (Int32.toInt64 q15.1)) = 0 then (
            some (.inl ((x4 + (6 : Int32)), q15.2, q14.2.1, q14.2.2))) else (
            some (.inr (.inr ((0 : Int32), q15.2, q14.2.1, q14.2.2)))))) else (
        some (.inr (.inr ((0 : Int32), q15.2, q14.2.1, q14.2.2))))) else none) else none
def zL_law_542 (l : Nat) (x4 : Int32) (I : iq_I) (J : iq_J) (X : iq_X) : Option ((Int32 × iq_I × iq_J × iq_X) ⊕ ((iq_I × iq_J × iq_X) ⊕ (Int32 × iq_I × iq_J × iq_X))) :=
  if iq_in (x4 + (1 : Int32)) l then (
    if iq_in (x4 + (2 : Int32)) l then (
      (zL_arc (I 0 (Int32.toNatClampNeg (x4 + (1 : Int32)))) (I 0 (Int32.toNatClampNeg (x4 + (2 : Int32)))) I J X).bind fun q17 =>
      if iq_in (x4 + (1 : Int32)) l then (
        if iq_in (x4 + (2 : Int32)) l then (
          (zM_arc (I 0 (Int32.toNatClampNeg (x4 + (1 : Int32)))) (I 0 (Int32.toNatClampNeg (x4 + (2 : Int32)))) I).bind fun q18 =>
          (zM_thrown q18.2).bind fun q19 =>
          if q19 = q17.1 then (
            if ¬ q17.1 = 0 then (
              some (.inl ((x4 + (6 : Int32)), q18.2, q17.2.1, q17.2.2))) else (
              if (lg_cmp (q17.2.1 114 0) (Int32.toInt64 q18.1)) = 0 then (
                some (.inl ((x4 + (6 : Int32)), q18.2, q17.2.1, q17.2.2))) else (
                some (.inr (.inr ((0 : Int32), q18.2, q17.2.1, q17.2.2)))))) else (
            some (.inr (.inr ((0 : Int32), q18.2, q17.2.1, q17.2.2))))) else none) else none) else none) else none
def zL_law_610 (l : Nat) (x4 : Int32) (I : iq_I) (J : iq_J) (X : iq_X) : Option ((Int32 × iq_I × iq_J × iq_X) ⊕ ((iq_I × iq_J × iq_X) ⊕ (Int32 × iq_I × iq_J × iq_X))) :=
  if iq_in (x4 + (1 : Int32)) l then (
    if iq_in (x4 + (2 : Int32)) l then (
      (zL_saying (I 0 (Int32.toNatClampNeg (x4 + (1 : Int32)))) (I 0 (Int32.toNatClampNeg (x4 + (2 : Int32)))) I J X).bind fun q20 =>
      if iq_in (x4 + (1 : Int32)) l then (
        if iq_in (x4 + (2 : Int32)) l then (
          (zM_saying (I 0 (Int32.toNatClampNeg (x4 + (1 : Int32)))) (I 0 (Int32.toNatClampNeg (x4 + (2 : Int32)))) I).bind fun q21 =>
          (zM_thrown q21.2).bind fun q22 =>
          if q22 = q20.1 then (
            if ¬ q20.1 = 0 then (
              some (.inl ((x4 + (6 : Int32)), q21.2, q20.2.1, q20.2.2))) else (
              if (lg_cmp (q20.2.1 114 0) (Int32.toInt64 q21.1)) = 0 then (
                some (.inl ((x4 + (6 : Int32)), q21.2, q20.2.1, q20.2.2))) else (
                some (.inr (.inr ((0 : Int32), q21.2, q20.2.1, q20.2.2)))))) else (
            some (.inr (.inr ((0 : Int32), q21.2, q20.2.1, q20.2.2))))) else none) else none) else none) else none
def zL_law_678 (l : Nat) (x4 : Int32) (I : iq_I) (J : iq_J) (X : iq_X) : Option ((Int32 × iq_I × iq_J × iq_X) ⊕ ((iq_I × iq_J × iq_X) ⊕ (Int32 × iq_I × iq_J × iq_X))) :=
  if iq_in (x4 + (1 : Int32)) l then (
    (zL_may (I 0 (Int32.toNatClampNeg (x4 + (1 : Int32)))) I J X).bind fun q23 =>
    if iq_in (x4 + (1 : Int32)) l then (
      (zM_may (q23.2.1 0 (Int32.toNatClampNeg (x4 + (1 : Int32)))) q23.2.1).bind fun q24 =>
      (zM_thrown q24.2).bind fun q25 =>
      if q25 = q23.1 then (
        if ¬ q23.1 = 0 then (
          some (.inl ((x4 + (6 : Int32)), q24.2, q23.2.2.1, q23.2.2.2))) else (
          if (lg_cmp (q23.2.2.1 114 0) (Int32.toInt64 q24.1)) = 0 then (
            some (.inl ((x4 + (6 : Int32)), q24.2, q23.2.2.1, q23.2.2.2))) else (
            some (.inr (.inr ((0 : Int32), q24.2, q23.2.2.1, q23.2.2.2)))))) else (
        some (.inr (.inr ((0 : Int32), q24.2, q23.2.2.1, q23.2.2.2))))) else none) else none
def zL_law_734 (l : Nat) (x4 : Int32) (I : iq_I) (J : iq_J) (X : iq_X) : Option ((Int32 × iq_I × iq_J × iq_X) ⊕ ((iq_I × iq_J × iq_X) ⊕ (Int32 × iq_I × iq_J × iq_X))) :=
  if iq_in (x4 + (1 : Int32)) l then (
    if iq_in (x4 + (2 : Int32)) l then (
      (zL_add (I 0 (Int32.toNatClampNeg (x4 + (1 : Int32)))) (I 0 (Int32.toNatClampNeg (x4 + (2 : Int32)))) I J X).bind fun q26 =>
      if iq_in (x4 + (1 : Int32)) l then (
        if iq_in (x4 + (2 : Int32)) l then (
          (zM_add (q26.2.1 0 (Int32.toNatClampNeg (x4 + (1 : Int32)))) (q26.2.1 0 (Int32.toNatClampNeg (x4 + (2 : Int32)))) q26.2.1).bind fun q27 =>
          (zM_thrown q27.2).bind fun q28 =>
          if q28 = q26.1 then (
            if ¬ q26.1 = 0 then (
              some (.inl ((x4 + (6 : Int32)), q27.2, q26.2.2.1, q26.2.2.2))) else (
              if (lg_cmp (q26.2.2.1 114 0) (Int32.toInt64 q27.1)) = 0 then (
                some (.inl ((x4 + (6 : Int32)), q27.2, q26.2.2.1, q26.2.2.2))) else (
                some (.inr (.inr ((0 : Int32), q27.2, q26.2.2.1, q26.2.2.2)))))) else (
            some (.inr (.inr ((0 : Int32), q27.2, q26.2.2.1, q26.2.2.2))))) else none) else none) else none) else none
def zL_law_802 (l : Nat) (x4 : Int32) (I : iq_I) (J : iq_J) (X : iq_X) : Option ((Int32 × iq_I × iq_J × iq_X) ⊕ ((iq_I × iq_J × iq_X) ⊕ (Int32 × iq_I × iq_J × iq_X))) :=
  if iq_in (x4 + (1 : Int32)) l then (
    if iq_in (x4 + (2 : Int32)) l then (
      if iq_in (x4 + (3 : Int32)) l then (
        (zL_fly (I 0 (Int32.toNatClampNeg (x4 + (1 : Int32)))) (I 0 (Int32.toNatClampNeg (x4 + (2 : Int32)))) (I 0 (Int32.toNatClampNeg (x4 + (3 : Int32)))) I J X).bind fun q29 =>
        if iq_in (x4 + (1 : Int32)) l then (
          if iq_in (x4 + (2 : Int32)) l then (
            if iq_in (x4 + (3 : Int32)) l then (
              (zM_fly (q29.2.1 0 (Int32.toNatClampNeg (x4 + (1 : Int32)))) (q29.2.1 0 (Int32.toNatClampNeg (x4 + (2 : Int32)))) (q29.2.1 0 (Int32.toNatClampNeg (x4 + (3 : Int32)))) q29.2.1).bind fun q30 =>
              (zM_thrown q30.2).bind fun q31 =>
              if q31 = q29.1 then (
                if ¬ q29.1 = 0 then (
                  some (.inl ((x4 + (6 : Int32)), q30.2, q29.2.2.1, q29.2.2.2))) else (
                  if (lg_cmp (q29.2.2.1 114 0) (Int32.toInt64 q30.1)) = 0 then (
                    some (.inl ((x4 + (6 : Int32)), q30.2, q29.2.2.1, q29.2.2.2))) else (
                    some (.inr (.inr ((0 : Int32), q30.2, q29.2.2.1, q29.2.2.2)))))) else (
                some (.inr (.inr ((0 : Int32), q30.2, q29.2.2.1, q29.2.2.2))))) else none) else none) else none) else none) else none) else none
def zL_law_882 (l : Nat) (x4 : Int32) (I : iq_I) (J : iq_J) (X : iq_X) : Option ((Int32 × iq_I × iq_J × iq_X) ⊕ ((iq_I × iq_J × iq_X) ⊕ (Int32 × iq_I × iq_J × iq_X))) :=
  if iq_in (x4 + (1 : Int32)) l then (
    if iq_in (x4 + (2 : Int32)) l then (
      (zL_take (I 0 (Int32.toNatClampNeg (x4 + (1 : Int32)))) (I 0 (Int32.toNatClampNeg (x4 + (2 : Int32)))) I J X).bind fun q32 =>
      if iq_in (x4 + (1 : Int32)) l then (
        if iq_in (x4 + (2 : Int32)) l then (
          (zM_take (q32.2.1 0 (Int32.toNatClampNeg (x4 + (1 : Int32)))) (q32.2.1 0 (Int32.toNatClampNeg (x4 + (2 : Int32)))) q32.2.1).bind fun q33 =>
          (zM_thrown q33.2).bind fun q34 =>
          if q34 = q32.1 then (
            if ¬ q32.1 = 0 then (
              some (.inl ((x4 + (6 : Int32)), q33.2, q32.2.2.1, q32.2.2.2))) else (
              if (lg_cmp (q32.2.2.1 114 0) (Int32.toInt64 q33.1)) = 0 then (
                some (.inl ((x4 + (6 : Int32)), q33.2, q32.2.2.1, q32.2.2.2))) else (
                some (.inr (.inr ((0 : Int32), q33.2, q32.2.2.1, q32.2.2.2)))))) else (
            some (.inr (.inr ((0 : Int32), q33.2, q32.2.2.1, q32.2.2.2))))) else none) else none) else none) else none
def zL_law_950 (l : Nat) (x4 : Int32) (I : iq_I) (J : iq_J) (X : iq_X) : Option ((Int32 × iq_I × iq_J × iq_X) ⊕ ((iq_I × iq_J × iq_X) ⊕ (Int32 × iq_I × iq_J × iq_X))) :=
  (zO_day I).bind fun q35 =>
  (zM_day q35.2).bind fun q36 =>
  if q35.1 = q36.1 then (
    some (.inl ((x4 + (6 : Int32)), q36.2, J, X))) else (
    some (.inr (.inr ((0 : Int32), q36.2, J, X))))
def zL_law_963 (l : Nat) (x4 : Int32) (I : iq_I) (J : iq_J) (X : iq_X) : Option ((Int32 × iq_I × iq_J × iq_X) ⊕ ((iq_I × iq_J × iq_X) ⊕ (Int32 × iq_I × iq_J × iq_X))) :=
  (zO_undo I).bind fun q37 =>
  (zM_undo q37.2).bind fun q38 =>
  if q37.1 = q38.1 then (
    some (.inl ((x4 + (6 : Int32)), q38.2, J, X))) else (
    some (.inr (.inr ((0 : Int32), q38.2, J, X))))
def zL_law_976 (l : Nat) (x4 : Int32) (I : iq_I) (J : iq_J) (X : iq_X) : Option ((Int32 × iq_I × iq_J × iq_X) ⊕ ((iq_I × iq_J × iq_X) ⊕ (Int32 × iq_I × iq_J × iq_X))) :=
  if iq_in (x4 + (1 : Int32)) l then (
    (zL_open (I 0 (Int32.toNatClampNeg (x4 + (1 : Int32)))) I J X).bind fun q39 =>
    if iq_in (x4 + (1 : Int32)) l then (
      (zM_open (q39.2.1 0 (Int32.toNatClampNeg (x4 + (1 : Int32)))) q39.2.1).bind fun q40 =>
      (zM_thrown q40.2).bind fun q41 =>
      if q41 = q39.1 then (
        if ¬ q39.1 = 0 then (
          some (.inl ((x4 + (6 : Int32)), q40.2, q39.2.2.1, q39.2.2.2))) else (
          if (lg_cmp (q39.2.2.1 114 0) (Int32.toInt64 q40.1)) = 0 then (
            some (.inl ((x4 + (6 : Int32)), q40.2, q39.2.2.1, q39.2.2.2))) else (
            some (.inr (.inr ((0 : Int32), q40.2, q39.2.2.1, q39.2.2.2)))))) else (
        some (.inr (.inr ((0 : Int32), q40.2, q39.2.2.1, q39.2.2.2))))) else none) else none
def zL_law_1032 (l : Nat) (x4 : Int32) (I : iq_I) (J : iq_J) (X : iq_X) : Option ((Int32 × iq_I × iq_J × iq_X) ⊕ ((iq_I × iq_J × iq_X) ⊕ (Int32 × iq_I × iq_J × iq_X))) :=
  if iq_in (x4 + (1 : Int32)) l then (
    if iq_in (x4 + (2 : Int32)) l then (
      (zL_soonest (I 0 (Int32.toNatClampNeg (x4 + (1 : Int32)))) (I 0 (Int32.toNatClampNeg (x4 + (2 : Int32)))) I J X).bind fun q42 =>
      if iq_in (x4 + (1 : Int32)) l then (
        if iq_in (x4 + (2 : Int32)) l then (
          (zM_soonest (q42.2.1 0 (Int32.toNatClampNeg (x4 + (1 : Int32)))) (q42.2.1 0 (Int32.toNatClampNeg (x4 + (2 : Int32)))) q42.2.1).bind fun q43 =>
          (zM_thrown q43.2).bind fun q44 =>
          if q44 = q42.1 then (
            if ¬ q42.1 = 0 then (
              some (.inl ((x4 + (6 : Int32)), q43.2, q42.2.2.1, q42.2.2.2))) else (
              if (lg_cmp (q42.2.2.1 114 0) (Int32.toInt64 q43.1)) = 0 then (
                some (.inl ((x4 + (6 : Int32)), q43.2, q42.2.2.1, q42.2.2.2))) else (
                some (.inr (.inr ((0 : Int32), q43.2, q42.2.2.1, q42.2.2.2)))))) else (
            some (.inr (.inr ((0 : Int32), q43.2, q42.2.2.1, q42.2.2.2))))) else none) else none) else none) else none
def zL_law_1100 (l : Nat) (x4 : Int32) (I : iq_I) (J : iq_J) (X : iq_X) : Option ((Int32 × iq_I × iq_J × iq_X) ⊕ ((iq_I × iq_J × iq_X) ⊕ (Int32 × iq_I × iq_J × iq_X))) :=
  if iq_in (x4 + (1 : Int32)) l then (
    (zL_must (I 0 (Int32.toNatClampNeg (x4 + (1 : Int32)))) I J X).bind fun q45 =>
    if iq_in (x4 + (1 : Int32)) l then (
      (zM_must (q45.2.1 0 (Int32.toNatClampNeg (x4 + (1 : Int32)))) q45.2.1).bind fun q46 =>
      (zM_thrown q46.2).bind fun q47 =>
      if q47 = q45.1 then (
        if ¬ q45.1 = 0 then (
          some (.inl ((x4 + (6 : Int32)), q46.2, q45.2.2.1, q45.2.2.2))) else (
          if (lg_cmp (q45.2.2.1 114 0) (Int32.toInt64 q46.1)) = 0 then (
            some (.inl ((x4 + (6 : Int32)), q46.2, q45.2.2.1, q45.2.2.2))) else (
            some (.inr (.inr ((0 : Int32), q46.2, q45.2.2.1, q45.2.2.2)))))) else (
        some (.inr (.inr ((0 : Int32), q46.2, q45.2.2.1, q45.2.2.2))))) else none) else none
def zL_law_1216 (l : Nat) (x4 : Int32) (x5 : Int32) (s1 : Int32) (s2 : Int32) (s3 : Int32) (I : iq_I) (J : iq_J) (X : iq_X) : Option ((Int32 × iq_I × iq_J × iq_X) ⊕ ((iq_I × iq_J × iq_X) ⊕ (Int32 × iq_I × iq_J × iq_X))) :=
  (zM_ways s1 s2 s3 I J).bind fun q49 =>
  (zM_thrown q49.2.1).bind fun q50 =>
  if q50 = x5 then (
    if ¬ x5 = 0 then (
      some (.inl ((x4 + (6 : Int32)), q49.2.1, q49.2.2, X))) else (
      if (lg_cmp (q49.2.2 114 0) q49.1) = 0 then (
        some (.inl ((x4 + (6 : Int32)), q49.2.1, q49.2.2, X))) else (
        some (.inr (.inr ((0 : Int32), q49.2.1, q49.2.2, X)))))) else (
    some (.inr (.inr ((0 : Int32), q49.2.1, q49.2.2, X))))
def zL_law_1183 (l : Nat) (x4 : Int32) (s1 : Int32) (s2 : Int32) (s3 : Int32) (I : iq_I) (J : iq_J) (X : iq_X) : Option ((Int32 × iq_I × iq_J × iq_X) ⊕ ((iq_I × iq_J × iq_X) ⊕ (Int32 × iq_I × iq_J × iq_X))) :=
  (zL_ways s1 s2 s3 I J X).bind fun q48 =>
  if iq_in (x4 + (1 : Int32)) l then (
    if iq_in (x4 + (2 : Int32)) l then (
      if iq_in (x4 + (3 : Int32)) l then (
        if (I 0 (Int32.toNatClampNeg (x4 + (3 : Int32)))) = 0 then (
          zL_law_1216 l x4 q48.1 (I 0 (Int32.toNatClampNeg (x4 + (1 : Int32)))) (I 0 (Int32.toNatClampNeg (x4 + (2 : Int32)))) (0 : Int32) I q48.2.1 q48.2.2) else (
          zL_law_1216 l x4 q48.1 (I 0 (Int32.toNatClampNeg (x4 + (1 : Int32)))) (I 0 (Int32.toNatClampNeg (x4 + (2 : Int32)))) (1 : Int32) I q48.2.1 q48.2.2)) else none) else none) else none
def zL_law_1156 (l : Nat) (x4 : Int32) (I : iq_I) (J : iq_J) (X : iq_X) : Option ((Int32 × iq_I × iq_J × iq_X) ⊕ ((iq_I × iq_J × iq_X) ⊕ (Int32 × iq_I × iq_J × iq_X))) :=
  if iq_in (x4 + (1 : Int32)) l then (
    if iq_in (x4 + (2 : Int32)) l then (
      if iq_in (x4 + (3 : Int32)) l then (
        if (I 0 (Int32.toNatClampNeg (x4 + (3 : Int32)))) = 0 then (
          zL_law_1183 l x4 (I 0 (Int32.toNatClampNeg (x4 + (1 : Int32)))) (I 0 (Int32.toNatClampNeg (x4 + (2 : Int32)))) (0 : Int32) I J X) else (
          zL_law_1183 l x4 (I 0 (Int32.toNatClampNeg (x4 + (1 : Int32)))) (I 0 (Int32.toNatClampNeg (x4 + (2 : Int32)))) (1 : Int32) I J X)) else none) else none) else none
def zL_law_1251 (l : Nat) (x4 : Int32) (I : iq_I) (J : iq_J) (X : iq_X) : Option ((Int32 × iq_I × iq_J × iq_X) ⊕ ((iq_I × iq_J × iq_X) ⊕ (Int32 × iq_I × iq_J × iq_X))) :=
  if iq_in (x4 + (1 : Int32)) l then (
    if iq_in (x4 + (2 : Int32)) l then (
      (zL_turn (I 0 (Int32.toNatClampNeg (x4 + (1 : Int32)))) (I 0 (Int32.toNatClampNeg (x4 + (2 : Int32)))) I J X).bind fun q51 =>
      if iq_in (x4 + (1 : Int32)) l then (
        if iq_in (x4 + (2 : Int32)) l then (
          (zM_turn (q51.2.1 0 (Int32.toNatClampNeg (x4 + (1 : Int32)))) (q51.2.1 0 (Int32.toNatClampNeg (x4 + (2 : Int32)))) q51.2.1).bind fun q52 =>
          (zM_thrown q52.2).bind fun q53 =>
          if q53 = q51.1 then (
            if ¬ q51.1 = 0 then (
              some (.inl ((x4 + (6 : Int32)), q52.2, q51.2.2.1, q51.2.2.2))) else (
              if (lg_cmp (q51.2.2.1 114 0) (Int32.toInt64 q52.1)) = 0 then (
                some (.inl ((x4 + (6 : Int32)), q52.2, q51.2.2.1, q51.2.2.2))) else (
                some (.inr (.inr ((0 : Int32), q52.2, q51.2.2.1, q51.2.2.2)))))) else (
            some (.inr (.inr ((0 : Int32), q52.2, q51.2.2.1, q51.2.2.2))))) else none) else none) else none) else none
def zL_law_1319 (l : Nat) (x4 : Int32) (I : iq_I) (J : iq_J) (X : iq_X) : Option ((Int32 × iq_I × iq_J × iq_X) ⊕ ((iq_I × iq_J × iq_X) ⊕ (Int32 × iq_I × iq_J × iq_X))) :=
  if iq_in (x4 + (1 : Int32)) l then (
    if iq_in (x4 + (2 : Int32)) l then (
      if iq_in (x4 + (3 : Int32)) l then (
        (zL_costs (I 0 (Int32.toNatClampNeg (x4 + (1 : Int32)))) (I 0 (Int32.toNatClampNeg (x4 + (2 : Int32)))) (I 0 (Int32.toNatClampNeg (x4 + (3 : Int32)))) I J X).bind fun q54 =>
        if iq_in (x4 + (1 : Int32)) l then (
          if iq_in (x4 + (2 : Int32)) l then (
            if iq_in (x4 + (3 : Int32)) l then (
              (zM_costs (q54.2.1 0 (Int32.toNatClampNeg (x4 + (1 : Int32)))) (q54.2.1 0 (Int32.toNatClampNeg (x4 + (2 : Int32)))) (q54.2.1 0 (Int32.toNatClampNeg (x4 + (3 : Int32)))) q54.2.1).bind fun q55 =>
              (zM_thrown q55.2).bind fun q56 =>
              if q56 = q54.1 then (
                if ¬ q54.1 = 0 then (
                  some (.inl ((x4 + (6 : Int32)), q55.2, q54.2.2.1, q54.2.2.2))) else (
                  if (lg_cmp (q54.2.2.1 114 0) (Int32.toInt64 q55.1)) = 0 then (
                    some (.inl ((x4 + (6 : Int32)), q55.2, q54.2.2.1, q54.2.2.2))) else (
                    some (.inr (.inr ((0 : Int32), q55.2, q54.2.2.1, q54.2.2.2)))))) else (
                some (.inr (.inr ((0 : Int32), q55.2, q54.2.2.1, q54.2.2.2))))) else none) else none) else none) else none) else none) else none
def zL_law_1399 (l : Nat) (x4 : Int32) (I : iq_I) (J : iq_J) (X : iq_X) : Option ((Int32 × iq_I × iq_J × iq_X) ⊕ ((iq_I × iq_J × iq_X) ⊕ (Int32 × iq_I × iq_J × iq_X))) :=
  (zO_closed I).bind fun q57 =>
  (zM_closed q57.2).bind fun q58 =>
  if q57.1 = q58.1 then (
    some (.inl ((x4 + (6 : Int32)), q58.2, J, X))) else (
    some (.inr (.inr ((0 : Int32), q58.2, J, X))))
def zL_law_1412 (l : Nat) (x4 : Int32) (I : iq_I) (J : iq_J) (X : iq_X) : Option ((Int32 × iq_I × iq_J × iq_X) ⊕ ((iq_I × iq_J × iq_X) ⊕ (Int32 × iq_I × iq_J × iq_X))) :=
  if iq_in (x4 + (1 : Int32)) l then (
    if iq_in (x4 + (2 : Int32)) l then (
      if iq_in (x4 + (3 : Int32)) l then (
        if iq_in (x4 + (4 : Int32)) l then (
          (zL_odds (I 0 (Int32.toNatClampNeg (x4 + (1 : Int32)))) (I 0 (Int32.toNatClampNeg (x4 + (2 : Int32)))) (I 0 (Int32.toNatClampNeg (x4 + (3 : Int32)))) (I 0 (Int32.toNatClampNeg (x4 + (4 : Int32)))) I J X).bind fun q59 =>
          if iq_in (x4 + (1 : Int32)) l then (
            if iq_in (x4 + (2 : Int32)) l then (
              if iq_in (x4 + (3 : Int32)) l then (
                if iq_in (x4 + (4 : Int32)) l then (
                  (zM_odds (q59.2.1 0 (Int32.toNatClampNeg (x4 + (1 : Int32)))) (q59.2.1 0 (Int32.toNatClampNeg (x4 + (2 : Int32)))) (q59.2.1 0 (Int32.toNatClampNeg (x4 + (3 : Int32)))) (q59.2.1 0 (Int32.toNatClampNeg (x4 + (4 : Int32)))) q59.2.1).bind fun q60 =>
                  (zM_thrown q60.2).bind fun q61 =>
                  if q61 = q59.1 then (
                    if ¬ q59.1 = 0 then (
                      some (.inl ((x4 + (6 : Int32)), q60.2, q59.2.2.1, q59.2.2.2))) else (
                      if (lg_cmp (q59.2.2.1 114 0) (Int32.toInt64 q60.1)) = 0 then (
                        some (.inl ((x4 + (6 : Int32)), q60.2, q59.2.2.1, q59.2.2.2))) else (
                        some (.inr (.inr ((0 : Int32), q60.2, q59.2.2.1, q59.2.2.2)))))) else (
                    some (.inr (.inr ((0 : Int32), q60.2, q59.2.2.1, q59.2.2.2))))) else none) else none) else none) else none) else none) else none) else none) else none
def zL_law_1504 (l : Nat) (x4 : Int32) (I : iq_I) (J : iq_J) (X : iq_X) : Option ((Int32 × iq_I × iq_J × iq_X) ⊕ ((iq_I × iq_J × iq_X) ⊕ (Int32 × iq_I × iq_J × iq_X))) :=
  if iq_in (x4 + (1 : Int32)) l then (
    if iq_in (x4 + (2 : Int32)) l then (
      (zL_see (I 0 (Int32.toNatClampNeg (x4 + (1 : Int32)))) (I 0 (Int32.toNatClampNeg (x4 + (2 : Int32)))) I J X).bind fun q62 =>
      if iq_in (x4 + (1 : Int32)) l then (
        if iq_in (x4 + (2 : Int32)) l then (
          (zM_see (q62.2.1 0 (Int32.toNatClampNeg (x4 + (1 : Int32)))) (q62.2.1 0 (Int32.toNatClampNeg (x4 + (2 : Int32)))) q62.2.1).bind fun q63 =>
          (zM_thrown q63.2).bind fun q64 =>
          if q64 = q62.1 then (
            if ¬ q62.1 = 0 then (
              some (.inl ((x4 + (6 : Int32)), q63.2, q62.2.2.1, q62.2.2.2))) else (
              if (lg_cmp (q62.2.2.1 114 0) (Int32.toInt64 q63.1)) = 0 then (
                some (.inl ((x4 + (6 : Int32)), q63.2, q62.2.2.1, q62.2.2.2))) else (
                some (.inr (.inr ((0 : Int32), q63.2, q62.2.2.1, q62.2.2.2)))))) else (
            some (.inr (.inr ((0 : Int32), q63.2, q62.2.2.1, q62.2.2.2))))) else none) else none) else none) else none
def zL_law_1572 (l : Nat) (x4 : Int32) (I : iq_I) (J : iq_J) (X : iq_X) : Option ((Int32 × iq_I × iq_J × iq_X) ⊕ ((iq_I × iq_J × iq_X) ⊕ (Int32 × iq_I × iq_J × iq_X))) :=
  (zO_forget I).bind fun q65 =>
  (zM_forget q65).bind fun q66 =>
  some (.inl ((x4 + (6 : Int32)), q66, J, X))
def zL_law_1583 (l : Nat) (x4 : Int32) (I : iq_I) (J : iq_J) (X : iq_X) : Option ((Int32 × iq_I × iq_J × iq_X) ⊕ ((iq_I × iq_J × iq_X) ⊕ (Int32 × iq_I × iq_J × iq_X))) :=
  if iq_in (x4 + (1 : Int32)) l then (
    (zL_who (I 0 (Int32.toNatClampNeg (x4 + (1 : Int32)))) I J X).bind fun q67 =>
    if iq_in (x4 + (1 : Int32)) l then (
      (zM_who (q67.2.1 0 (Int32.toNatClampNeg (x4 + (1 : Int32)))) q67.2.1).bind fun q68 =>
      (zM_thrown q68.2).bind fun q69 =>
      if q69 = q67.1 then (
        if ¬ q67.1 = 0 then (
          some (.inl ((x4 + (6 : Int32)), q68.2, q67.2.2.1, q67.2.2.2))) else (
          if (lg_cmp (q67.2.2.1 114 0) (Int32.toInt64 q68.1)) = 0 then (
            some (.inl ((x4 + (6 : Int32)), q68.2, q67.2.2.1, q67.2.2.2))) else (
            some (.inr (.inr ((0 : Int32), q68.2, q67.2.2.1, q67.2.2.2)))))) else (
        some (.inr (.inr ((0 : Int32), q68.2, q67.2.2.1, q67.2.2.2))))) else none) else none
def zL_law_1639 (l : Nat) (x4 : Int32) (I : iq_I) (J : iq_J) (X : iq_X) : Option ((Int32 × iq_I × iq_J × iq_X) ⊕ ((iq_I × iq_J × iq_X) ⊕ (Int32 × iq_I × iq_J × iq_X))) :=
  if iq_in (x4 + (1 : Int32)) l then (
    (zL_begun (I 0 (Int32.toNatClampNeg (x4 + (1 : Int32)))) I J X).bind fun q70 =>
    if iq_in (x4 + (1 : Int32)) l then (
      (zM_begun (I 0 (Int32.toNatClampNeg (x4 + (1 : Int32)))) I).bind fun q71 =>
      (zM_thrown q71.2).bind fun q72 =>
      if q72 = q70.1 then (
        if ¬ q70.1 = 0 then (
          some (.inl ((x4 + (6 : Int32)), q71.2, q70.2.1, q70.2.2))) else (
          if (lg_cmp (q70.2.1 114 0) (Int32.toInt64 q71.1)) = 0 then (
            some (.inl ((x4 + (6 : Int32)), q71.2, q70.2.1, q70.2.2))) else (
            some (.inr (.inr ((0 : Int32), q71.2, q70.2.1, q70.2.2)))))) else (
        some (.inr (.inr ((0 : Int32), q71.2, q70.2.1, q70.2.2))))) else none) else none
def zL_law_1695 (l : Nat) (x4 : Int32) (I : iq_I) (J : iq_J) (X : iq_X) : Option ((Int32 × iq_I × iq_J × iq_X) ⊕ ((iq_I × iq_J × iq_X) ⊕ (Int32 × iq_I × iq_J × iq_X))) :=
  if iq_in (x4 + (1 : Int32)) l then (
    if iq_in (x4 + (2 : Int32)) l then (
      (zL_alike (I 0 (Int32.toNatClampNeg (x4 + (1 : Int32)))) (I 0 (Int32.toNatClampNeg (x4 + (2 : Int32)))) I J X).bind fun q73 =>
      if iq_in (x4 + (1 : Int32)) l then (
        if iq_in (x4 + (2 : Int32)) l then (
          (zM_alike (q73.2.1 0 (Int32.toNatClampNeg (x4 + (1 : Int32)))) (q73.2.1 0 (Int32.toNatClampNeg (x4 + (2 : Int32)))) q73.2.1).bind fun q74 =>
          (zM_thrown q74.2).bind fun q75 =>
          if q75 = q73.1 then (
            if ¬ q73.1 = 0 then (
              some (.inl ((x4 + (6 : Int32)), q74.2, q73.2.2.1, q73.2.2.2))) else (
              if (lg_cmp (q73.2.2.1 114 0) (Int32.toInt64 q74.1)) = 0 then (
                some (.inl ((x4 + (6 : Int32)), q74.2, q73.2.2.1, q73.2.2.2))) else (
                some (.inr (.inr ((0 : Int32), q74.2, q73.2.2.1, q73.2.2.2)))))) else (
            some (.inr (.inr ((0 : Int32), q74.2, q73.2.2.1, q73.2.2.2))))) else none) else none) else none) else none
def zL_law_1763 (l : Nat) (x4 : Int32) (I : iq_I) (J : iq_J) (X : iq_X) : Option ((Int32 × iq_I × iq_J × iq_X) ⊕ ((iq_I × iq_J × iq_X) ⊕ (Int32 × iq_I × iq_J × iq_X))) :=
  (zO_nearest I).bind fun q76 =>
  (zM_nearest q76.2).bind fun q77 =>
  if q76.1 = q77.1 then (
    some (.inl ((x4 + (6 : Int32)), q77.2, J, X))) else (
    some (.inr (.inr ((0 : Int32), q77.2, J, X))))
def zL_law_1776 (l : Nat) (x4 : Int32) (I : iq_I) (J : iq_J) (X : iq_X) : Option ((Int32 × iq_I × iq_J × iq_X) ⊕ ((iq_I × iq_J × iq_X) ⊕ (Int32 × iq_I × iq_J × iq_X))) :=
  if iq_in (x4 + (1 : Int32)) l then (
    if iq_in (x4 + (2 : Int32)) l then (
      (zL_culprit (I 0 (Int32.toNatClampNeg (x4 + (1 : Int32)))) (I 0 (Int32.toNatClampNeg (x4 + (2 : Int32)))) I J X).bind fun q78 =>
      if iq_in (x4 + (1 : Int32)) l then (
        if iq_in (x4 + (2 : Int32)) l then (
          (zM_culprit (I 0 (Int32.toNatClampNeg (x4 + (1 : Int32)))) (I 0 (Int32.toNatClampNeg (x4 + (2 : Int32)))) I).bind fun q79 =>
          (zM_thrown q79.2).bind fun q80 =>
          if q80 = q78.1 then (
            if ¬ q78.1 = 0 then (
              some (.inl ((x4 + (6 : Int32)), q79.2, q78.2.1, q78.2.2))) else (
              if (lg_cmp (q78.2.1 114 0) (Int32.toInt64 q79.1)) = 0 then (
                some (.inl ((x4 + (6 : Int32)), q79.2, q78.2.1, q78.2.2))) else (
                some (.inr (.inr ((0 : Int32), q79.2, q78.2.1, q78.2.2)))))) else (
            some (.inr (.inr ((0 : Int32), q79.2, q78.2.1, q78.2.2))))) else none) else none) else none) else none
def zL_law_1844 (l : Nat) (x4 : Int32) (I : iq_I) (J : iq_J) (X : iq_X) : Option ((Int32 × iq_I × iq_J × iq_X) ⊕ ((iq_I × iq_J × iq_X) ⊕ (Int32 × iq_I × iq_J × iq_X))) :=
  if iq_in (x4 + (1 : Int32)) l then (
    if iq_in (x4 + (2 : Int32)) l then (
      if iq_in (x4 + (3 : Int32)) l then (
        (zL_season (I 0 (Int32.toNatClampNeg (x4 + (1 : Int32)))) (I 0 (Int32.toNatClampNeg (x4 + (2 : Int32)))) (I 0 (Int32.toNatClampNeg (x4 + (3 : Int32)))) I J X).bind fun q81 =>
        if iq_in (x4 + (1 : Int32)) l then (
          if iq_in (x4 + (2 : Int32)) l then (
            if iq_in (x4 + (3 : Int32)) l then (
              (zM_season (q81.2.1 0 (Int32.toNatClampNeg (x4 + (1 : Int32)))) (q81.2.1 0 (Int32.toNatClampNeg (x4 + (2 : Int32)))) (q81.2.1 0 (Int32.toNatClampNeg (x4 + (3 : Int32)))) q81.2.1).bind fun q82 =>
              (zM_thrown q82.2).bind fun q83 =>
              if q83 = q81.1 then (
                if ¬ q81.1 = 0 then (
                  some (.inl ((x4 + (6 : Int32)), q82.2, q81.2.2.1, q81.2.2.2))) else (
                  if (lg_cmp (q81.2.2.1 114 0) (Int32.toInt64 q82.1)) = 0 then (
                    some (.inl ((x4 + (6 : Int32)), q82.2, q81.2.2.1, q81.2.2.2))) else (
                    some (.inr (.inr ((0 : Int32), q82.2, q81.2.2.1, q81.2.2.2)))))) else (
                some (.inr (.inr ((0 : Int32), q82.2, q81.2.2.1, q81.2.2.2))))) else none) else none) else none) else none) else none) else none
def zL_law_1924 (l : Nat) (x4 : Int32) (I : iq_I) (J : iq_J) (X : iq_X) : Option ((Int32 × iq_I × iq_J × iq_X) ⊕ ((iq_I × iq_J × iq_X) ⊕ (Int32 × iq_I × iq_J × iq_X))) :=
  if iq_in (x4 + (1 : Int32)) l then (
    (zL_crimes (I 0 (Int32.toNatClampNeg (x4 + (1 : Int32)))) I J X).bind fun q84 =>
    if iq_in (x4 + (1 : Int32)) l then (
      (zM_crimes (I 0 (Int32.toNatClampNeg (x4 + (1 : Int32)))) I).bind fun q85 =>
      (zM_thrown q85.2).bind fun q86 =>
      if q86 = q84.1 then (
        if ¬ q84.1 = 0 then (
          some (.inl ((x4 + (6 : Int32)), q85.2, q84.2.1, q84.2.2))) else (
          if (lg_cmp (q84.2.1 114 0) (Int32.toInt64 q85.1)) = 0 then (
            some (.inl ((x4 + (6 : Int32)), q85.2, q84.2.1, q84.2.2))) else (
            some (.inr (.inr ((0 : Int32), q85.2, q84.2.1, q84.2.2)))))) else (
        some (.inr (.inr ((0 : Int32), q85.2, q84.2.1, q84.2.2))))) else none) else none
def zL_law_1980 (l : Nat) (x4 : Int32) (I : iq_I) (J : iq_J) (X : iq_X) : Option ((Int32 × iq_I × iq_J × iq_X) ⊕ ((iq_I × iq_J × iq_X) ⊕ (Int32 × iq_I × iq_J × iq_X))) :=
  if iq_in (x4 + (1 : Int32)) l then (
    (zL_doors (I 0 (Int32.toNatClampNeg (x4 + (1 : Int32)))) I J X).bind fun q87 =>
    if iq_in (x4 + (1 : Int32)) l then (
      (zM_doors (q87.2.1 0 (Int32.toNatClampNeg (x4 + (1 : Int32)))) q87.2.1).bind fun q88 =>
      (zM_thrown q88.2).bind fun q89 =>
      if q89 = q87.1 then (
        if ¬ q87.1 = 0 then (
          some (.inl ((x4 + (6 : Int32)), q88.2, q87.2.2.1, q87.2.2.2))) else (
          if (lg_cmp (q87.2.2.1 114 0) (Int32.toInt64 q88.1)) = 0 then (
            some (.inl ((x4 + (6 : Int32)), q88.2, q87.2.2.1, q87.2.2.2))) else (
            some (.inr (.inr ((0 : Int32), q88.2, q87.2.2.1, q87.2.2.2)))))) else (
        some (.inr (.inr ((0 : Int32), q88.2, q87.2.2.1, q87.2.2.2))))) else none) else none
def zL_law_2036 (l : Nat) (x4 : Int32) (I : iq_I) (J : iq_J) (X : iq_X) : Option ((Int32 × iq_I × iq_J × iq_X) ⊕ ((iq_I × iq_J × iq_X) ⊕ (Int32 × iq_I × iq_J × iq_X))) :=
  if iq_in (x4 + (1 : Int32)) l then (
    if iq_in (x4 + (2 : Int32)) l then (
      (zL_far (I 0 (Int32.toNatClampNeg (x4 + (1 : Int32)))) (I 0 (Int32.toNatClampNeg (x4 + (2 : Int32)))) I J X).bind fun q90 =>
      if iq_in (x4 + (1 : Int32)) l then (
        if iq_in (x4 + (2 : Int32)) l then (
          (zM_far (q90.2.1 0 (Int32.toNatClampNeg (x4 + (1 : Int32)))) (q90.2.1 0 (Int32.toNatClampNeg (x4 + (2 : Int32)))) q90.2.1).bind fun q91 =>
          (zM_thrown q91.2).bind fun q92 =>
          if q92 = q90.1 then (
            if ¬ q90.1 = 0 then (
              some (.inl ((x4 + (6 : Int32)), q91.2, q90.2.2.1, q90.2.2.2))) else (
              if (lg_cmp (q90.2.2.1 114 0) (Int32.toInt64 q91.1)) = 0 then (
                some (.inl ((x4 + (6 : Int32)), q91.2, q90.2.2.1, q90.2.2.2))) else (
                some (.inr (.inr ((0 : Int32), q91.2, q90.2.2.1, q90.2.2.2)))))) else (
            some (.inr (.inr ((0 : Int32), q91.2, q90.2.2.1, q90.2.2.2))))) else none) else none) else none) else none
def zL_law_2104 (l : Nat) (x4 : Int32) (I : iq_I) (J : iq_J) (X : iq_X) : Option ((Int32 × iq_I × iq_J × iq_X) ⊕ ((iq_I × iq_J × iq_X) ⊕ (Int32 × iq_I × iq_J × iq_X))) :=
  if iq_in (x4 + (1 : Int32)) l then (
    if iq_in (x4 + (2 : Int32)) l then (
      (zL_days (I 0 (Int32.toNatClampNeg (x4 + (1 : Int32)))) (I 0 (Int32.toNatClampNeg (x4 + (2 : Int32)))) I J X).bind fun q93 =>
      if iq_in (x4 + (1 : Int32)) l then (
        if iq_in (x4 + (2 : Int32)) l then (
          (zM_days (q93.2.1 0 (Int32.toNatClampNeg (x4 + (1 : Int32)))) (q93.2.1 0 (Int32.toNatClampNeg (x4 + (2 : Int32)))) q93.2.1).bind fun q94 =>
          (zM_thrown q94.2).bind fun q95 =>
          if q95 = q93.1 then (
            if ¬ q93.1 = 0 then (
              some (.inl ((x4 + (6 : Int32)), q94.2, q93.2.2.1, q93.2.2.2))) else (
              if (lg_cmp (q93.2.2.1 114 0) (Int32.toInt64 q94.1)) = 0 then (
                some (.inl ((x4 + (6 : Int32)), q94.2, q93.2.2.1, q93.2.2.2))) else (
                some (.inr (.inr ((0 : Int32), q94.2, q93.2.2.1, q93.2.2.2)))))) else (
            some (.inr (.inr ((0 : Int32), q94.2, q93.2.2.1, q93.2.2.2))))) else none) else none) else none) else none
def zL_law_2172 (l : Nat) (x4 : Int32) (I : iq_I) (J : iq_J) (X : iq_X) : Option ((Int32 × iq_I × iq_J × iq_X) ⊕ ((iq_I × iq_J × iq_X) ⊕ (Int32 × iq_I × iq_J × iq_X))) :=
  if iq_in (x4 + (1 : Int32)) l then (
    if iq_in (x4 + (2 : Int32)) l then (
      (zL_mend (I 0 (Int32.toNatClampNeg (x4 + (1 : Int32)))) (I 0 (Int32.toNatClampNeg (x4 + (2 : Int32)))) I J X).bind fun q96 =>
      if iq_in (x4 + (1 : Int32)) l then (
        if iq_in (x4 + (2 : Int32)) l then (
          (zM_mend (q96.2.1 0 (Int32.toNatClampNeg (x4 + (1 : Int32)))) (q96.2.1 0 (Int32.toNatClampNeg (x4 + (2 : Int32)))) q96.2.1).bind fun q97 =>
          (zM_thrown q97.2).bind fun q98 =>
          if q98 = q96.1 then (
            if ¬ q96.1 = 0 then (
              some (.inl ((x4 + (6 : Int32)), q97.2, q96.2.2.1, q96.2.2.2))) else (
              if (lg_cmp (q96.2.2.1 114 0) (Int32.toInt64 q97.1)) = 0 then (
                some (.inl ((x4 + (6 : Int32)), q97.2, q96.2.2.1, q96.2.2.2))) else (
                some (.inr (.inr ((0 : Int32), q97.2, q96.2.2.1, q96.2.2.2)))))) else (
            some (.inr (.inr ((0 : Int32), q97.2, q96.2.2.1, q96.2.2.2))))) else none) else none) else none) else none
def zL_law_2240 (l : Nat) (x4 : Int32) (I : iq_I) (J : iq_J) (X : iq_X) : Option ((Int32 × iq_I × iq_J × iq_X) ⊕ ((iq_I × iq_J × iq_X) ⊕ (Int32 × iq_I × iq_J × iq_X))) :=
  if iq_in (x4 + (1 : Int32)) l then (
    if iq_in (x4 + (2 : Int32)) l then (
      if iq_in (x4 + (3 : Int32)) l then (
        (zL_shared (I 0 (Int32.toNatClampNeg (x4 + (1 : Int32)))) (I 0 (Int32.toNatClampNeg (x4 + (2 : Int32)))) (I 0 (Int32.toNatClampNeg (x4 + (3 : Int32)))) I J X).bind fun q99 =>
        if iq_in (x4 + (1 : Int32)) l then (
          if iq_in (x4 + (2 : Int32)) l then (
            if iq_in (x4 + (3 : Int32)) l then (
              (zM_shared (q99.2.1 0 (Int32.toNatClampNeg (x4 + (1 : Int32)))) (q99.2.1 0 (Int32.toNatClampNeg (x4 + (2 : Int32)))) (q99.2.1 0 (Int32.toNatClampNeg (x4 + (3 : Int32)))) q99.2.1).bind fun q100 =>
              (zM_thrown q100.2).bind fun q101 =>
              if q101 = q99.1 then (
                if ¬ q99.1 = 0 then (
                  some (.inl ((x4 + (6 : Int32)), q100.2, q99.2.2.1, q99.2.2.2))) else (
                  if (lg_cmp (q99.2.2.1 114 0) (Int32.toInt64 q100.1)) = 0 then (
                    some (.inl ((x4 + (6 : Int32)), q100.2, q99.2.2.1, q99.2.2.2))) else (
                    some (.inr (.inr ((0 : Int32), q100.2, q99.2.2.1, q99.2.2.2)))))) else (
                some (.inr (.inr ((0 : Int32), q100.2, q99.2.2.1, q99.2.2.2))))) else none) else none) else none) else none) else none) else none
def zL_law_2320 (l : Nat) (x4 : Int32) (I : iq_I) (J : iq_J) (X : iq_X) : Option ((Int32 × iq_I × iq_J × iq_X) ⊕ ((iq_I × iq_J × iq_X) ⊕ (Int32 × iq_I × iq_J × iq_X))) :=
  if iq_in (x4 + (1 : Int32)) l then (
    (zL_about (I 0 (Int32.toNatClampNeg (x4 + (1 : Int32)))) I J X).bind fun q102 =>
    if iq_in (x4 + (1 : Int32)) l then (
      (zM_about (I 0 (Int32.toNatClampNeg (x4 + (1 : Int32)))) I).bind fun q103 =>
      (zM_thrown q103.2).bind fun q104 =>
      if q104 = q102.1 then (
        if ¬ q102.1 = 0 then (
          some (.inl ((x4 + (6 : Int32)), q103.2, q102.2.1, q102.2.2))) else (
          if (lg_cmp (q102.2.1 114 0) (Int32.toInt64 q103.1)) = 0 then (
            some (.inl ((x4 + (6 : Int32)), q103.2, q102.2.1, q102.2.2))) else (
            some (.inr (.inr ((0 : Int32), q103.2, q102.2.1, q102.2.2)))))) else (
        some (.inr (.inr ((0 : Int32), q103.2, q102.2.1, q102.2.2))))) else none) else none
def zL_law_2376 (l : Nat) (x4 : Int32) (I : iq_I) (J : iq_J) (X : iq_X) : Option ((Int32 × iq_I × iq_J × iq_X) ⊕ ((iq_I × iq_J × iq_X) ⊕ (Int32 × iq_I × iq_J × iq_X))) :=
  if iq_in (x4 + (1 : Int32)) l then (
    if iq_in (x4 + (2 : Int32)) l then (
      (zL_often (I 0 (Int32.toNatClampNeg (x4 + (1 : Int32)))) (I 0 (Int32.toNatClampNeg (x4 + (2 : Int32)))) I J X).bind fun q105 =>
      if iq_in (x4 + (1 : Int32)) l then (
        if iq_in (x4 + (2 : Int32)) l then (
          (zM_often (I 0 (Int32.toNatClampNeg (x4 + (1 : Int32)))) (I 0 (Int32.toNatClampNeg (x4 + (2 : Int32)))) I).bind fun q106 =>
          (zM_thrown q106.2).bind fun q107 =>
          if q107 = q105.1 then (
            if ¬ q105.1 = 0 then (
              some (.inl ((x4 + (6 : Int32)), q106.2, q105.2.1, q105.2.2))) else (
              if (lg_cmp (q105.2.1 114 0) (Int32.toInt64 q106.1)) = 0 then (
                some (.inl ((x4 + (6 : Int32)), q106.2, q105.2.1, q105.2.2))) else (
                some (.inr (.inr ((0 : Int32), q106.2, q105.2.1, q105.2.2)))))) else (
            some (.inr (.inr ((0 : Int32), q106.2, q105.2.1, q105.2.2))))) else none) else none) else none) else none
def zL_law_2444 (l : Nat) (x4 : Int32) (I : iq_I) (J : iq_J) (X : iq_X) : Option ((Int32 × iq_I × iq_J × iq_X) ⊕ ((iq_I × iq_J × iq_X) ⊕ (Int32 × iq_I × iq_J × iq_X))) :=
  if iq_in (x4 + (1 : Int32)) l then (
    (zL_cost (I 0 (Int32.toNatClampNeg (x4 + (1 : Int32)))) I J X).bind fun q108 =>
    if iq_in (x4 + (1 : Int32)) l then (
      (zM_cost (I 0 (Int32.toNatClampNeg (x4 + (1 : Int32)))) I).bind fun q109 =>
      (zM_thrown q109.2).bind fun q110 =>
      if q110 = q108.1 then (
        if ¬ q108.1 = 0 then (
          some (.inl ((x4 + (6 : Int32)), q109.2, q108.2.1, q108.2.2))) else (
          if (lg_cmp (q108.2.1 114 0) (Int32.toInt64 q109.1)) = 0 then (
            some (.inl ((x4 + (6 : Int32)), q109.2, q108.2.1, q108.2.2))) else (
            some (.inr (.inr ((0 : Int32), q109.2, q108.2.1, q108.2.2)))))) else (
        some (.inr (.inr ((0 : Int32), q109.2, q108.2.1, q108.2.2))))) else none) else none
def zL_law_2500 (l : Nat) (x4 : Int32) (I : iq_I) (J : iq_J) (X : iq_X) : Option ((Int32 × iq_I × iq_J × iq_X) ⊕ ((iq_I × iq_J × iq_X) ⊕ (Int32 × iq_I × iq_J × iq_X))) :=
  (zO_image I).bind fun q111 =>
  (zM_image q111).bind fun q112 =>
  some (.inl ((x4 + (6 : Int32)), q112, J, X))
def zL_law_2511 (l : Nat) (x4 : Int32) (I : iq_I) (J : iq_J) (X : iq_X) : Option ((Int32 × iq_I × iq_J × iq_X) ⊕ ((iq_I × iq_J × iq_X) ⊕ (Int32 × iq_I × iq_J × iq_X))) :=
  (zO_restore I).bind fun q113 =>
  (zM_restore q113.2).bind fun q114 =>
  if q113.1 = q114.1 then (
    some (.inl ((x4 + (6 : Int32)), q114.2, J, X))) else (
    some (.inr (.inr ((0 : Int32), q114.2, J, X))))
def zL_law_l23_b (l : Nat)   (x4 : Int32) (I : iq_I) (J : iq_J) (X : iq_X) : Option ((Int32 × iq_I × iq_J × iq_X) ⊕ ((iq_I × iq_J × iq_X) ⊕ (Int32 × iq_I × iq_J × iq_X))) :=
  if ((Int32.ofNat l) - (6 : Int32)) < x4 then (
    some (.inr (.inl (I, J, X)))) else (
    if iq_in x4 l then (
      if ((I 0 (Int32.toNatClampNeg x4)) &&& (63 : Int32)) = (0 : Int32) then (
        zL_law_220 l x4 I J X) else (
      if ((I 0 (Int32.toNatClampNeg x4)) &&& (63 : Int32)) = (1 : Int32) then (
        zL_law_293 l x4 I J X) else (
      if ((I 0 (Int32.toNatClampNeg x4)) &&& (63 : Int32)) = (2 : Int32) then (
        zL_law_349 l x4 I J X) else (
      if ((I 0 (Int32.toNatClampNeg x4)) &&& (63 : Int32)) = (3 : Int32) then (
        zL_law_362 l x4 I J X) else (
      if ((I 0 (Int32.toNatClampNeg x4)) &&& (63 : Int32)) = (4 : Int32) then (
        zL_law_418 l x4 I J X) else (
      if ((I 0 (Int32.toNatClampNeg x4)) &&& (63 : Int32)) = (5 : Int32) then (
        zL_law_486 l x4 I J X) else (
      if ((I 0 (Int32.toNatClampNeg x4)) &&& (63 : Int32)) = (6 : Int32) then (
        zL_law_542 l x4 I J X) else (
      if ((I 0 (Int32.toNatClampNeg x4)) &&& (63 : Int32)) = (7 : Int32) then (
        zL_law_610 l x4 I J X) else (
      if ((I 0 (Int32.toNatClampNeg x4)) &&& (63 : Int32)) = (8 : Int32) then (
        zL_law_678 l x4 I J X) else (
      if ((I 0 (Int32.toNatClampNeg x4)) &&& (63 : Int32)) = (9 : Int32) then (
        zL_law_734 l x4 I J X) else (
      if ((I 0 (Int32.toNatClampNeg x4)) &&& (63 : Int32)) = (10 : Int32) then (
        zL_law_802 l x4 I J X) else (
      if ((I 0 (Int32.toNatClampNeg x4)) &&& (63 : Int32)) = (11 : Int32) then (
        zL_law_882 l x4 I J X) else (
      if ((I 0 (Int32.toNatClampNeg x4)) &&& (63 : Int32)) = (12 : Int32) then (
        zL_law_950 l x4 I J X) else (
      if ((I 0 (Int32.toNatClampNeg x4)) &&& (63 : Int32)) = (13 : Int32) then (
        zL_law_963 l x4 I J X) else (
      if ((I 0 (Int32.toNatClampNeg x4)) &&& (63 : Int32)) = (14 : Int32) then (
        zL_law_976 l x4 I J X) else (
      if ((I 0 (Int32.toNatClampNeg x4)) &&& (63 : Int32)) = (15 : Int32) then (
        zL_law_1032 l x4 I J X) else (
      if ((I 0 (Int32.toNatClampNeg x4)) &&& (63 : Int32)) = (16 : Int32) then (
        zL_law_1100 l x4 I J X) else (
      if ((I 0 (Int32.toNatClampNeg x4)) &&& (63 : Int32)) = (17 : Int32) then (
        zL_law_1156 l x4 I J X) else (
      if ((I 0 (Int32.toNatClampNeg x4)) &&& (63 : Int32)) = (18 : Int32) then (
        zL_law_1251 l x4 I J X) else (
      if ((I 0 (Int32.toNatClampNeg x4)) &&& (63 : Int32)) = (19 : Int32) then (
        zL_law_1319 l x4 I J X) else (
      if ((I 0 (Int32.toNatClampNeg x4)) &&& (63 : Int32)) = (20 : Int32) then (
        zL_law_1399 l x4 I J X) else (
      if ((I 0 (Int32.toNatClampNeg x4)) &&& (63 : Int32)) = (21 : Int32) then (
        zL_law_1412 l x4 I J X) else (
      if ((I 0 (Int32.toNatClampNeg x4)) &&& (63 : Int32)) = (22 : Int32) then (
        zL_law_1504 l x4 I J X) else (
      if ((I 0 (Int32.toNatClampNeg x4)) &&& (63 : Int32)) = (23 : Int32) then (
        zL_law_1572 l x4 I J X) else (
      if ((I 0 (Int32.toNatClampNeg x4)) &&& (63 : Int32)) = (24 : Int32) then (
        zL_law_1583 l x4 I J X) else (
      if ((I 0 (Int32.toNatClampNeg x4)) &&& (63 : Int32)) = (25 : Int32) then (
        zL_law_1639 l x4 I J X) else (
      if ((I 0 (Int32.toNatClampNeg x4)) &&& (63 : Int32)) = (26 : Int32) then (
        zL_law_1695 l x4 I J X) else (
      if ((I 0 (Int32.toNatClampNeg x4)) &&& (63 : Int32)) = (27 : Int32) then (
        zL_law_1763 l x4 I J X) else (
      if ((I 0 (Int32.toNatClampNeg x4)) &&& (63 : Int32)) = (28 : Int32) then (
        zL_law_1776 l x4 I J X) else (
      if ((I 0 (Int32.toNatClampNeg x4)) &&& (63 : Int32)) = (29 : Int32) then (
        zL_law_1844 l x4 I J X) else (
      if ((I 0 (Int32.toNatClampNeg x4)) &&& (63 : Int32)) = (30 : Int32) then (
        zL_law_1924 l x4 I J X) else (
      if ((I 0 (Int32.toNatClampNeg x4)) &&& (63 : Int32)) = (31 : Int32) then (
        zL_law_1980 l x4 I J X) else (
      if ((I 0 (Int32.toNatClampNeg x4)) &&& (63 : Int32)) = (32 : Int32) then (
        zL_law_2036 l x4 I J X) else (
      if ((I 0 (Int32.toNatClampNeg x4)) &&& (63 : Int32)) = (33 : Int32) then (
        zL_law_2104 l x4 I J X) else (
      if ((I 0 (Int32.toNatClampNeg x4)) &&& (63 : Int32)) = (34 : Int32) then (
        zL_law_2172 l x4 I J X) else (
      if ((I 0 (Int32.toNatClampNeg x4)) &&& (63 : Int32)) = (35 : Int32) then (
        zL_law_2240 l x4 I J X) else (
      if ((I 0 (Int32.toNatClampNeg x4)) &&& (63 : Int32)) = (36 : Int32) then (
        zL_law_2320 l x4 I J X) else (
      if ((I 0 (Int32.toNatClampNeg x4)) &&& (63 : Int32)) = (37 : Int32) then (
        zL_law_2376 l x4 I J X) else (
      if ((I 0 (Int32.toNatClampNeg x4)) &&& (63 : Int32)) = (38 : Int32) then (
        zL_law_2444 l x4 I J X) else (
      if ((I 0 (Int32.toNatClampNeg x4)) &&& (63 : Int32)) = (39 : Int32) then (
        zL_law_2500 l x4 I J X) else (
      if ((I 0 (Int32.toNatClampNeg x4)) &&& (63 : Int32)) = (40 : Int32) then (
        zL_law_2511 l x4 I J X) else (
      some (.inl ((x4 + (6 : Int32)), I, J, X)))))))))))))))))))))))))))))))))))))))))))) else none)
def zL_law_l23 (l : Nat)   (n : Nat) (v : Int32 × iq_I × iq_J × iq_X) : Option ((iq_I × iq_J × iq_X) ⊕ (Int32 × iq_I × iq_J × iq_X)) := iq_lp (fun v => zL_law_l23_b l  v.1 v.2.1 v.2.2.1 v.2.2.2) n v
def zL_law (l : Nat) (x4 : Int32) (I : iq_I) (J : iq_J) (X : iq_X) : Option (Int32 × iq_I × iq_J × iq_X) :=
  (zL_law_l23 l  ir_F (x4, I, J, X)).bind fun w115 =>
  ir_sm w115 (fun a116 =>
    some ((1 : Int32), a116.1, a116.2.1, a116.2.2)) (fun b117 => some b117)
