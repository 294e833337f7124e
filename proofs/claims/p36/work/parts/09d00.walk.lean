/-- worlds by their leaves -/
def wd00_0 (x0 : Nat) (x1 x2 x3 x4 x5 x6 x7 x8 x9 x10 x11 x12 x13 x14 x15 x16 x17 x18 : Value) (x19 : Int32) : va_W := [(x0, .inr (10, [x1, x2, x3, x4, x5, x6, x7, x8, x9, x10, x11, x12, x13, x14, x15, x16, x17, x18, .int x19]))]
def wd00_1 (x0 x1 : Nat) (x2 x3 x4 : Value) (x5 x6 : Nat) (x7 : Value) (x8 x9 x10 : Nat) (x11 : ClassId) (x12 : Nat → Int32) (x13 : Nat) (x14 : ClassId) (x15 : Nat → Int32) : va_W := [(x0, .inr (1, [.ref x1, x2, x3, x4])), (x5, .inr (1, [.ref x6, x7, .ref x8, .ref x9])), (x10, .inl (x11, 64, .inl x12)), (x13, .inl (x14, 64, .inl x15))]
def wd00_2 (x0 x1 : Nat) (x2 : Value) (x3 x4 x5 x6 : Nat) (x7 : Value) (x8 x9 x10 : Nat) (x11 : ClassId) (x12 : Nat → Int32) (x13 : Nat) (x14 : ClassId) (x15 : Nat → Int32) : va_W := [(x0, .inr (1, [.ref x1, x2, .ref x3, .ref x4])), (x5, .inr (1, [.ref x6, x7, .ref x8, .ref x9])), (x10, .inl (x11, 64, .inl x12)), (x13, .inl (x14, 64, .inl x15))]
def wd00_3 (x0 x1 : Nat) (x2 : Value) (x3 : Nat) (x4 : Value) (x5 x6 : Nat) (x7 : Value) (x8 x9 x10 : Nat) (x11 : ClassId) (x12 : Nat → Int32) (x13 : Nat) (x14 : ClassId) (x15 : Nat → Int32) : va_W := [(x0, .inr (1, [.ref x1, x2, .ref x3, x4])), (x5, .inr (1, [.ref x6, x7, .ref x8, .ref x9])), (x10, .inl (x11, 64, .inl x12)), (x13, .inl (x14, 64, .inl x15))]
def wd00_4 (x0 x1 : Nat) (x2 x3 x4 : Value) (x5 : Nat) (x6 : ClassId) (x7 : Nat → Int32) : va_W := [(x0, .inr (1, [.ref x1, x2, x3, x4])), (x5, .inl (x6, 64, .inl x7))]
def wd00_5 (x0 : Nat) (x1 x2 x3 x4 x5 x6 x7 x8 x9 x10 x11 : Value) (x12 : Int32) : va_W := [(x0, .inr (2, [x1, x2, x3, x4, x5, x6, x7, x8, x9, x10, x11, .int x12]))]
def wd00_6 (x0 x1 : Nat) (x2 : Value) (x3 : Nat) (x4 : Value) (x5 : Nat) (x6 x7 x8 x9 x10 x11 x12 x13 x14 : Value) (x15 : Int32) (x16 : Value) (x17 : Int32) (x18 : Nat) (x19 : ClassId) (x20 : Nat → Int32) : va_W := [(x0, .inr (1, [.ref x1, x2, .ref x3, x4])), (x5, .inr (2, [x6, x7, x8, x9, x10, x11, x12, x13, x14, .int x15, x16, .int x17])), (x18, .inl (x19, 64, .inl x20))]
def wd00_7 (x0 x1 : Nat) (x2 : Value) (x3 : Nat) (x4 : Value) (x5 : Nat) (x6 : ClassId) (x7 : Nat → Int32) : va_W := [(x0, .inr (1, [.ref x1, x2, .ref x3, x4])), (x5, .inl (x6, 64, .inl x7))]
def wd00_8 (x0 : Nat) (x1 x2 x3 x4 x5 x6 x7 x8 x9 : Value) (x10 : Int32) (x11 : Value) (x12 : Int32) : va_W := [(x0, .inr (2, [x1, x2, x3, x4, x5, x6, x7, x8, x9, .int x10, x11, .int x12]))]
def wd00_9 (x0 x1 : Nat) (x2 : Value) (x3 : Nat) (x4 : Value) (x5 : Nat) (x6 x7 x8 x9 x10 x11 x12 x13 x14 : Value) (x15 : Int32) (x16 x17 : Value) (x18 : Nat) (x19 : ClassId) (x20 : Nat → Int32) : va_W := [(x0, .inr (1, [.ref x1, x2, .ref x3, x4])), (x5, .inr (2, [x6, x7, x8, x9, x10, x11, x12, x13, x14, .int x15, x16, x17])), (x18, .inl (x19, 64, .inl x20))]
def wd00_10 (x0 x1 : Nat) (x2 : Value) (x3 : Nat) (x4 : Value) (x5 : Nat) (x6 x7 x8 x9 x10 : Value) (x11 : Nat) (x12 x13 x14 : Value) (x15 : Int32) (x16 : Value) (x17 : Int32) (x18 : Nat) (x19 : ClassId) (x20 : Nat → Int32) (x21 : Nat) (x22 : ClassId) (x23 : Nat → Int32) : va_W := [(x0, .inr (1, [.ref x1, x2, .ref x3, x4])), (x5, .inr (2, [x6, x7, x8, x9, x10, .ref x11, x12, x13, x14, .int x15, x16, .int x17])), (x18, .inl (x19, 64, .inl x20)), (x21, .inl (x22, 6, .inl x23))]
def wd00_11 (x0 x1 : Nat) (x2 : Value) (x3 : Nat) (x4 : Value) (x5 : Nat) (x6 x7 x8 x9 x10 : Value) (x11 : Nat) (x12 x13 x14 : Value) (x15 : Int32) (x16 : Value) (x17 : Int32) (x18 : Nat) (x19 : ClassId) (x20 : Nat → Int32) : va_W := [(x0, .inr (1, [.ref x1, x2, .ref x3, x4])), (x5, .inr (2, [x6, x7, x8, x9, x10, .ref x11, x12, x13, x14, .int x15, x16, .int x17])), (x18, .inl (x19, 64, .inl x20))]
def wd00_12 (x0 : Nat) (x1 : ClassId) (x2 : Nat → Int32) : va_W := [(x0, .inl (x1, 6, .inl x2))]
def wd00_13 (x0 : Nat) (x1 x2 x3 x4 x5 x6 x7 x8 : Value) (x9 x10 : Nat) (x11 x12 x13 x14 x15 x16 x17 x18 : Value) (x19 : Int32) (x20 x21 : Nat) (x22 : Value) (x23 x24 x25 x26 : Nat) (x27 : Value) (x28 x29 x30 : Nat) (x31 : ClassId) (x32 : Nat → Int32) (x33 : Nat) (x34 : ClassId) (x35 : Nat → Int32) (x36 : Nat) (x37 x38 x39 x40 x41 : Value) (x42 : Nat) (x43 x44 x45 : Value) (x46 : Int32) (x47 : Value) (x48 : Int32) (x49 : Nat) (x50 : ClassId) (x51 : Nat → Int32) : va_W := [(x0, .inr (10, [x1, x2, x3, x4, x5, x6, x7, x8, .ref x9, .ref x10, x11, x12, x13, x14, x15, x16, x17, x18, .int x19])), (x20, .inr (1, [.ref x21, x22, .ref x23, .ref x24])), (x25, .inr (1, [.ref x26, x27, .ref x28, .ref x29])), (x30, .inl (x31, 64, .inl x32)), (x33, .inl (x34, 64, .inl x35)), (x36, .inr (2, [x37, x38, x39, x40, x41, .ref x42, x43, x44, x45, .int x46, x47, .int x48])), (x49, .inl (x50, 6, .inl x51))]
def wd00_14 (x0 : Nat) (x1 x2 x3 x4 x5 x6 x7 x8 : Value) (x9 x10 : Nat) (x11 x12 x13 x14 x15 x16 x17 x18 : Value) (x19 : Int32) (x20 x21 : Nat) (x22 x23 x24 : Value) (x25 x26 : Nat) (x27 : Value) (x28 x29 x30 : Nat) (x31 : ClassId) (x32 : Nat → Int32) (x33 : Nat) (x34 : ClassId) (x35 : Nat → Int32) (x36 : Nat) (x37 x38 x39 x40 x41 : Value) (x42 : Nat) (x43 x44 x45 : Value) (x46 : Int32) (x47 : Value) (x48 : Int32) (x49 : Nat) (x50 : ClassId) (x51 : Nat → Int32) : va_W := [(x0, .inr (10, [x1, x2, x3, x4, x5, x6, x7, x8, .ref x9, .ref x10, x11, x12, x13, x14, x15, x16, x17, x18, .int x19])), (x20, .inr (1, [.ref x21, x22, x23, x24])), (x25, .inr (1, [.ref x26, x27, .ref x28, .ref x29])), (x30, .inl (x31, 64, .inl x32)), (x33, .inl (x34, 64, .inl x35)), (x36, .inr (2, [x37, x38, x39, x40, x41, .ref x42, x43, x44, x45, .int x46, x47, .int x48])), (x49, .inl (x50, 6, .inl x51))]
def wd00_15 (x0 x1 : Nat) (x2 : Value) (x3 x4 x5 : Nat) (x6 : ClassId) (x7 : Nat → Int32) : va_W := [(x0, .inr (1, [.ref x1, x2, .ref x3, .ref x4])), (x5, .inl (x6, 64, .inl x7))]
def wd00_16 (x0 : Nat) (x1 x2 x3 x4 x5 x6 x7 x8 : Value) (x9 x10 : Nat) (x11 x12 x13 x14 x15 x16 x17 x18 : Value) (x19 : Int32) (x20 x21 : Nat) (x22 : Value) (x23 x24 x25 : Nat) (x26 : ClassId) (x27 : Nat → Int32) (x28 : Nat) (x29 x30 x31 x32 x33 : Value) (x34 : Nat) (x35 x36 x37 : Value) (x38 : Int32) (x39 : Value) (x40 : Int32) (x41 : Nat) (x42 : ClassId) (x43 : Nat → Int32) : va_W := [(x0, .inr (10, [x1, x2, x3, x4, x5, x6, x7, x8, .ref x9, .ref x10, x11, x12, x13, x14, x15, x16, x17, x18, .int x19])), (x20, .inr (1, [.ref x21, x22, .ref x23, .ref x24])), (x25, .inl (x26, 64, .inl x27)), (x28, .inr (2, [x29, x30, x31, x32, x33, .ref x34, x35, x36, x37, .int x38, x39, .int x40])), (x41, .inl (x42, 6, .inl x43))]
def wd00_17 (x0 x1 : Nat) (x2 : Value) (x3 x4 x5 : Nat) (x6 x7 x8 x9 x10 : Value) (x11 : Nat) (x12 x13 x14 : Value) (x15 : Int32) (x16 : Value) (x17 : Int32) (x18 : Nat) (x19 : ClassId) (x20 : Nat → Int32) : va_W := [(x0, .inr (1, [.ref x1, x2, .ref x3, .ref x4])), (x5, .inr (2, [x6, x7, x8, x9, x10, .ref x11, x12, x13, x14, .int x15, x16, .int x17])), (x18, .inl (x19, 64, .inl x20))]
def wd00_18 (x0 x1 : Nat) (x2 : Value) (x3 x4 x5 : Nat) (x6 x7 x8 x9 x10 : Value) (x11 : Nat) (x12 x13 x14 : Value) (x15 : Int32) (x16 : Value) (x17 : Int32) (x18 : Nat) (x19 : ClassId) (x20 : Nat → Int32) (x21 : Nat) (x22 : ClassId) (x23 : Nat → Int32) : va_W := [(x0, .inr (1, [.ref x1, x2, .ref x3, .ref x4])), (x5, .inr (2, [x6, x7, x8, x9, x10, .ref x11, x12, x13, x14, .int x15, x16, .int x17])), (x18, .inl (x19, 64, .inl x20)), (x21, .inl (x22, 6, .inl x23))]
def wd00_19 (x0 : Nat) (x1 x2 x3 x4 x5 x6 x7 x8 : Value) (x9 x10 : Nat) (x11 x12 x13 x14 x15 x16 x17 x18 : Value) (x19 : Int32) : va_W := [(x0, .inr (10, [x1, x2, x3, x4, x5, x6, x7, x8, .ref x9, .ref x10, x11, x12, x13, x14, x15, x16, x17, x18, .int x19]))]
def wd00_20 (x0 x1 : Nat) (x2 x3 x4 : Value) (x5 x6 : Nat) (x7 : Value) (x8 x9 x10 : Nat) (x11 : ClassId) (x12 : Nat → Int32) (x13 : Nat) (x14 : ClassId) (x15 : Nat → Int32) (x16 : Nat) (x17 x18 x19 x20 x21 : Value) (x22 : Nat) (x23 x24 x25 : Value) (x26 : Int32) (x27 : Value) (x28 : Int32) (x29 : Nat) (x30 : ClassId) (x31 : Nat → Int32) : va_W := [(x0, .inr (1, [.ref x1, x2, x3, x4])), (x5, .inr (1, [.ref x6, x7, .ref x8, .ref x9])), (x10, .inl (x11, 64, .inl x12)), (x13, .inl (x14, 64, .inl x15)), (x16, .inr (2, [x17, x18, x19, x20, x21, .ref x22, x23, x24, x25, .int x26, x27, .int x28])), (x29, .inl (x30, 6, .inl x31))]
def wd00_21 (x0 : Nat) (x1 : Value) (x2 : Nat) (x3 : Value) (x4 : Nat) (x5 x6 x7 x8 : Value) (x9 x10 : Nat) (x11 x12 x13 x14 x15 x16 x17 x18 : Value) (x19 : Int32) (x20 x21 : Nat) (x22 x23 x24 : Value) (x25 x26 : Nat) (x27 : Value) (x28 x29 x30 : Nat) (x31 : ClassId) (x32 : Nat → Int32) (x33 : Nat) (x34 : ClassId) (x35 : Nat → Int32) (x36 : Nat) (x37 x38 x39 x40 x41 : Value) (x42 : Nat) (x43 x44 x45 : Value) (x46 : Int32) (x47 : Value) (x48 : Int32) (x49 : Nat) (x50 : ClassId) (x51 : Nat → Int32) (x52 : Nat) (x53 : ClassId) (x54 : Nat) (x55 : Nat → Int64) : va_W := [(x0, .inr (10, [x1, .ref x2, x3, .ref x4, x5, x6, x7, x8, .ref x9, .ref x10, x11, x12, x13, x14, x15, x16, x17, x18, .int x19])), (x20, .inr (1, [.ref x21, x22, x23, x24])), (x25, .inr (1, [.ref x26, x27, .ref x28, .ref x29])), (x30, .inl (x31, 64, .inl x32)), (x33, .inl (x34, 64, .inl x35)), (x36, .inr (2, [x37, x38, x39, x40, x41, .ref x42, x43, x44, x45, .int x46, x47, .int x48])), (x49, .inl (x50, 6, .inl x51)), (x52, .inl (x53, x54, .inr (.inl x55)))]
def wd00_22 (x0 : Nat) (x1 : Value) (x2 : Nat) (x3 : Value) (x4 : Nat) (x5 x6 x7 x8 : Value) (x9 x10 : Nat) (x11 x12 x13 x14 x15 x16 x17 x18 : Value) (x19 : Int32) (x20 x21 : Nat) (x22 x23 x24 : Value) (x25 x26 : Nat) (x27 : Value) (x28 x29 x30 : Nat) (x31 : ClassId) (x32 : Nat → Int32) (x33 : Nat) (x34 : ClassId) (x35 : Nat → Int32) (x36 : Nat) (x37 x38 x39 x40 x41 : Value) (x42 : Nat) (x43 x44 x45 : Value) (x46 : Int32) (x47 : Value) (x48 : Int32) (x49 : Nat) (x50 : ClassId) (x51 : Nat → Int32) : va_W := [(x0, .inr (10, [x1, .ref x2, x3, .ref x4, x5, x6, x7, x8, .ref x9, .ref x10, x11, x12, x13, x14, x15, x16, x17, x18, .int x19])), (x20, .inr (1, [.ref x21, x22, x23, x24])), (x25, .inr (1, [.ref x26, x27, .ref x28, .ref x29])), (x30, .inl (x31, 64, .inl x32)), (x33, .inl (x34, 64, .inl x35)), (x36, .inr (2, [x37, x38, x39, x40, x41, .ref x42, x43, x44, x45, .int x46, x47, .int x48])), (x49, .inl (x50, 6, .inl x51))]
def wd00_23 (x0 : Nat) (x1 : Value) (x2 x3 x4 x5 x6 x7 : Int32) : va_W := [(x0, .inr (8, [x1, .int x2, .int x3, .int x4, .int x5, .int x6, .int x7]))]
def wd00_24 (x0 x1 : Nat) (x2 x3 x4 x5 x6 x7 x8 x9 x10 x11 x12 x13 x14 x15 x16 x17 x18 : Value) (x19 : Int32) (x20 : Nat) (x21 : Value) (x22 x23 x24 x25 x26 x27 : Int32) : va_W := [(x0, .inr (10, [.ref x1, x2, x3, x4, x5, x6, x7, x8, x9, x10, x11, x12, x13, x14, x15, x16, x17, x18, .int x19])), (x20, .inr (8, [x21, .int x22, .int x23, .int x24, .int x25, .int x26, .int x27]))]
def wd00_25 (x0 x1 : Nat) (x2 x3 x4 x5 x6 x7 x8 x9 x10 x11 x12 x13 x14 x15 x16 x17 x18 : Value) (x19 : Int32) : va_W := [(x0, .inr (10, [.ref x1, x2, x3, x4, x5, x6, x7, x8, x9, x10, x11, x12, x13, x14, x15, x16, x17, x18, .int x19]))]
def wd00_26 (x0 x1 : Nat) (x2 : Int32) (x3 : Nat) (x4 : ClassId) (x5 : Nat → Int32) : va_W := [(x0, .inr (0, [.ref x1, .int x2])), (x3, .inl (x4, 8, .inl x5))]
def wd00_27 (x0 : Nat) (x1 x2 x3 x4 x5 : Value) (x6 : Int32) (x7 : Value) : va_W := [(x0, .inr (8, [x1, x2, x3, x4, x5, .int x6, x7]))]
def wd00_28 (x0 x1 : Nat) (x2 x3 : Int32) (x4 x5 x6 x7 : Value) (x8 : Nat) (x9 : ClassId) (x10 : Nat → Int32) : va_W := [(x0, .inr (8, [.ref x1, .int x2, .int x3, x4, x5, x6, x7])), (x8, .inl (x9, 600, .inl x10))]
def wd00_29 (x0 x1 : Nat) (x2 : Int32) (x3 x4 x5 x6 x7 : Value) (x8 : Nat) (x9 : ClassId) (x10 : Nat → Int32) : va_W := [(x0, .inr (8, [.ref x1, .int x2, x3, x4, x5, x6, x7])), (x8, .inl (x9, 600, .inl x10))]
def wd00_30 (x0 : Nat) (x1 x2 x3 x4 x5 : Value) (x6 x7 : Int32) : va_W := [(x0, .inr (8, [x1, x2, x3, x4, x5, .int x6, .int x7]))]
def wd00_31 (x0 x1 : Nat) (x2 x3 x4 : Int32) (x5 : Value) (x6 x7 : Int32) (x8 : Nat) (x9 : ClassId) (x10 : Nat → Int32) : va_W := [(x0, .inr (8, [.ref x1, .int x2, .int x3, .int x4, x5, .int x6, .int x7])), (x8, .inl (x9, 600, .inl x10))]
def wd00_32 (x0 x1 : Nat) (x2 x3 x4 : Int32) (x5 : Value) (x6 x7 : Int32) : va_W := [(x0, .inr (8, [.ref x1, .int x2, .int x3, .int x4, x5, .int x6, .int x7]))]
def wd00_33 (x0 : Nat) (x1 : ClassId) (x2 : Nat → Int32) : va_W := [(x0, .inl (x1, 600, .inl x2))]
def wd00_34 (x0 x1 : Nat) (x2 : Value) (x3 : Nat) (x4 : ClassId) (x5 : Nat → Int32) : va_W := [(x0, .inr (0, [.ref x1, x2])), (x3, .inl (x4, 8, .inl x5))]
def wd00_35 (x0 : Nat) (x1 x2 x3 : Value) (x4 : Int32) (x5 : Value) (x6 x7 : Int32) : va_W := [(x0, .inr (8, [x1, x2, x3, .int x4, x5, .int x6, .int x7]))]
def wd00_36 (x0 x1 : Nat) (x2 x3 x4 : Int32) (x5 : Value) (x6 : Int32) (x7 : Value) (x8 : Nat) (x9 : ClassId) (x10 : Nat → Int32) : va_W := [(x0, .inr (8, [.ref x1, .int x2, .int x3, .int x4, x5, .int x6, x7])), (x8, .inl (x9, 600, .inl x10))]
def wd00_37 (x0 x1 : Nat) (x2 x3 x4 : Int32) (x5 : Value) (x6 : Int32) (x7 : Value) : va_W := [(x0, .inr (8, [.ref x1, .int x2, .int x3, .int x4, x5, .int x6, x7]))]
def wd00_38 (x0 x1 : Nat) (x2 x3 : Int32) (x4 x5 : Value) (x6 x7 : Int32) (x8 : Nat) (x9 : ClassId) (x10 : Nat → Int32) : va_W := [(x0, .inr (8, [.ref x1, .int x2, .int x3, x4, x5, .int x6, .int x7])), (x8, .inl (x9, 600, .inl x10))]
def wd00_39 (x0 x1 : Nat) (x2 x3 : Int32) (x4 x5 : Value) (x6 x7 : Int32) : va_W := [(x0, .inr (8, [.ref x1, .int x2, .int x3, x4, x5, .int x6, .int x7]))]
def wd00_40 (x0 x1 : Nat) (x2 : Int32) (x3 x4 : Nat) (x5 x6 x7 : Int32) (x8 : Value) (x9 x10 : Int32) (x11 : Nat) (x12 : ClassId) (x13 : Nat → Int32) (x14 : Nat) (x15 : ClassId) (x16 : Nat → Int32) : va_W := [(x0, .inr (0, [.ref x1, .int x2])), (x3, .inr (8, [.ref x4, .int x5, .int x6, .int x7, x8, .int x9, .int x10])), (x11, .inl (x12, 600, .inl x13)), (x14, .inl (x15, 8, .inl x16))]
def wd00_41 (x0 x1 : Nat) (x2 : Int32) (x3 : Nat) (x4 : ClassId) (x5 : Nat → Int32) (x6 : Nat) (x7 : ClassId) (x8 : Nat → Int32) : va_W := [(x0, .inr (0, [.ref x1, .int x2])), (x3, .inl (x4, 600, .inl x5)), (x6, .inl (x7, 8, .inl x8))]
def wd00_42 (x0 x1 : Nat) (x2 : Int32) (x3 : Nat) (x4 : ClassId) (x5 : Nat → Int32) (x6 x7 : Nat) (x8 x9 x10 : Int32) (x11 : Value) (x12 x13 : Int32) (x14 : Nat) (x15 : ClassId) (x16 : Nat → Int32) : va_W := [(x0, .inr (0, [.ref x1, .int x2])), (x3, .inl (x4, 8, .inl x5)), (x6, .inr (8, [.ref x7, .int x8, .int x9, .int x10, x11, .int x12, .int x13])), (x14, .inl (x15, 600, .inl x16))]
def wd00_43 (x0 x1 x2 : Nat) (x3 x4 x5 : Value) (x6 x7 : Nat) (x8 x9 x10 x11 x12 x13 x14 x15 x16 x17 x18 : Value) (x19 : Int32) (x20 x21 : Nat) (x22 x23 x24 x25 x26 x27 : Int32) (x28 : Nat) (x29 x30 x31 x32 x33 x34 x35 x36 : Value) (x37 : Int32) (x38 x39 x40 : Value) (x41 x42 : Nat) (x43 : Int32) (x44 : Nat) (x45 : ClassId) (x46 : Nat → Int32) (x47 : Nat) (x48 : ClassId) (x49 : Nat → Int32) : va_W := [(x0, .inr (10, [.ref x1, .ref x2, x3, x4, x5, .ref x6, .ref x7, x8, x9, x10, x11, x12, x13, x14, x15, x16, x17, x18, .int x19])), (x20, .inr (8, [.ref x21, .int x22, .int x23, .int x24, .int x25, .int x26, .int x27])), (x28, .inr (2, [x29, x30, x31, x32, x33, x34, x35, x36, .int x37, x38, x39, x40])), (x41, .inr (0, [.ref x42, .int x43])), (x44, .inl (x45, 8, .inl x46)), (x47, .inl (x48, 600, .inl x49))]
def wd00_44 (x0 x1 x2 : Nat) (x3 x4 x5 x6 x7 x8 x9 x10 x11 x12 x13 x14 x15 x16 x17 x18 : Value) (x19 : Int32) (x20 x21 : Nat) (x22 x23 x24 x25 x26 x27 : Int32) (x28 : Nat) (x29 x30 x31 x32 x33 x34 x35 x36 : Value) (x37 : Int32) (x38 x39 x40 : Value) (x41 x42 : Nat) (x43 : Int32) (x44 : Nat) (x45 : ClassId) (x46 : Nat → Int32) (x47 : Nat) (x48 : ClassId) (x49 : Nat → Int32) : va_W := [(x0, .inr (10, [.ref x1, .ref x2, x3, x4, x5, x6, x7, x8, x9, x10, x11, x12, x13, x14, x15, x16, x17, x18, .int x19])), (x20, .inr (8, [.ref x21, .int x22, .int x23, .int x24, .int x25, .int x26, .int x27])), (x28, .inr (2, [x29, x30, x31, x32, x33, x34, x35, x36, .int x37, x38, x39, x40])), (x41, .inr (0, [.ref x42, .int x43])), (x44, .inl (x45, 8, .inl x46)), (x47, .inl (x48, 600, .inl x49))]
def wd00_45 (x0 x1 x2 : Nat) (x3 x4 x5 : Value) (x6 x7 : Nat) (x8 x9 x10 x11 x12 x13 x14 x15 x16 x17 x18 : Value) (x19 : Int32) (x20 x21 : Nat) (x22 x23 x24 x25 x26 x27 : Int32) : va_W := [(x0, .inr (10, [.ref x1, .ref x2, x3, x4, x5, .ref x6, .ref x7, x8, x9, x10, x11, x12, x13, x14, x15, x16, x17, x18, .int x19])), (x20, .inr (8, [.ref x21, .int x22, .int x23, .int x24, .int x25, .int x26, .int x27]))]
def wd00_46 (x0 : Nat) (x1 x2 x3 x4 x5 x6 x7 x8 : Value) (x9 : Int32) (x10 x11 x12 : Value) (x13 x14 : Nat) (x15 : Int32) (x16 : Nat) (x17 : ClassId) (x18 : Nat → Int32) (x19 : Nat) (x20 : ClassId) (x21 : Nat → Int32) : va_W := [(x0, .inr (2, [x1, x2, x3, x4, x5, x6, x7, x8, .int x9, x10, x11, x12])), (x13, .inr (0, [.ref x14, .int x15])), (x16, .inl (x17, 8, .inl x18)), (x19, .inl (x20, 600, .inl x21))]
def wd00_47 (x0 x1 : Nat) (x2 : Int32) (x3 : Nat) (x4 : ClassId) (x5 : Nat → Int32) (x6 x7 : Nat) (x8 x9 x10 x11 x12 x13 : Int32) (x14 : Nat) (x15 : ClassId) (x16 : Nat → Int32) : va_W := [(x0, .inr (0, [.ref x1, .int x2])), (x3, .inl (x4, 8, .inl x5)), (x6, .inr (8, [.ref x7, .int x8, .int x9, .int x10, .int x11, .int x12, .int x13])), (x14, .inl (x15, 600, .inl x16))]
def wd00_48 (x0 x1 : Nat) (x2 x3 x4 x5 x6 x7 : Int32) : va_W := [(x0, .inr (8, [.ref x1, .int x2, .int x3, .int x4, .int x5, .int x6, .int x7]))]
def wd00_49 (x0 x1 x2 : Nat) (x3 x4 x5 : Value) (x6 x7 : Nat) (x8 x9 x10 x11 x12 x13 x14 x15 x16 x17 x18 : Value) (x19 : Int32) (x20 x21 : Nat) (x22 x23 x24 x25 x26 x27 : Int32) (x28 : Nat) (x29 x30 x31 x32 x33 x34 x35 x36 : Value) (x37 : Int32) (x38 x39 x40 : Value) (x41 x42 : Nat) (x43 : Int32) (x44 : Nat) (x45 : ClassId) (x46 : Nat → Int32) (x47 : Nat) (x48 : ClassId) (x49 : Nat → Int32) (x50 : Nat) (x51 : ClassId) (x52 : Nat) (x53 : Nat → Int64) : va_W := [(x0, .inr (10, [.ref x1, .ref x2, x3, x4, x5, .ref x6, .ref x7, x8, x9, x10, x11, x12, x13, x14, x15, x16, x17, x18, .int x19])), (x20, .inr (8, [.ref x21, .int x22, .int x23, .int x24, .int x25, .int x26, .int x27])), (x28, .inr (2, [x29, x30, x31, x32, x33, x34, x35, x36, .int x37, x38, x39, x40])), (x41, .inr (0, [.ref x42, .int x43])), (x44, .inl (x45, 8, .inl x46)), (x47, .inl (x48, 600, .inl x49)), (x50, .inl (x51, x52, .inr (.inl x53)))]
def wd00_50 (x0 x1 x2 : Nat) (x3 x4 x5 x6 x7 x8 x9 x10 x11 x12 x13 x14 x15 x16 x17 x18 : Value) (x19 : Int32) (x20 x21 : Nat) (x22 x23 x24 x25 x26 x27 : Int32) (x28 : Nat) (x29 x30 x31 x32 x33 x34 x35 x36 : Value) (x37 : Int32) (x38 x39 x40 : Value) (x41 x42 : Nat) (x43 : Int32) (x44 : Nat) (x45 : ClassId) (x46 : Nat → Int32) (x47 : Nat) (x48 : ClassId) (x49 : Nat → Int32) (x50 : Nat) (x51 : ClassId) (x52 : Nat) (x53 : Nat → Int64) : va_W := [(x0, .inr (10, [.ref x1, .ref x2, x3, x4, x5, x6, x7, x8, x9, x10, x11, x12, x13, x14, x15, x16, x17, x18, .int x19])), (x20, .inr (8, [.ref x21, .int x22, .int x23, .int x24, .int x25, .int x26, .int x27])), (x28, .inr (2, [x29, x30, x31, x32, x33, x34, x35, x36, .int x37, x38, x39, x40])), (x41, .inr (0, [.ref x42, .int x43])), (x44, .inl (x45, 8, .inl x46)), (x47, .inl (x48, 600, .inl x49)), (x50, .inl (x51, x52, .inr (.inl x53)))]
def wd00_51 (x0 : Nat) (x1 : Value) (x2 : Nat) (x3 x4 x5 x6 x7 x8 x9 x10 x11 x12 x13 x14 x15 x16 x17 : Value) (x18 : Int32) (x19 : Value) (x20 : Nat) (x21 x22 x23 x24 x25 x26 x27 x28 x29 : Value) (x30 : Int32) (x31 x32 : Value) : va_W := [(x0, .inr (10, [x1, .ref x2, x3, x4, x5, x6, x7, x8, x9, x10, x11, x12, x13, x14, x15, x16, x17, .int x18, x19])), (x20, .inr (2, [x21, x22, x23, x24, x25, x26, x27, x28, x29, .int x30, x31, x32]))]
theorem uw_J6_bitCount_0f7a4_k265 : (.constant RJ6 265 (1431655765) : Cond) ∈ wsJ6_bitCount_0f7a4 := mbJ6_bitCount_0f7a4 1805 (by decide +kernel)
theorem uw_J6_bitCount_0f7a4_k266 : (.constant RJ6 266 (858993459) : Cond) ∈ wsJ6_bitCount_0f7a4 := mbJ6_bitCount_0f7a4 1806 (by decide +kernel)
theorem uw_J6_bitCount_0f7a4_k267 : (.constant RJ6 267 (252645135) : Cond) ∈ wsJ6_bitCount_0f7a4 := mbJ6_bitCount_0f7a4 1807 (by decide +kernel)
set_option maxHeartbeats 4000000 in
set_option maxRecDepth 100000 in
theorem ck_J6_bitCount_0f7a4 (l : Launch) (dC : Nat → ClassId) (dI : Nat → Nat → Nat) (cyB cyI cyJ cyP : ClassId) (sz : Nat)    (p0 : Int32) {Q : Int32 → Prop} (hw : wq_J6_bitCount_0f7a4   p0 Q) : Met l yJ6_bitCount_0f7a4 wsJ6_bitCount_0f7a4 ({ frames := 0, cells := 0, slots := 0, locals := 0 }) (va_Pc [.int p0] (cPc (dC, dI) (kT cyB cyI cyJ cyP) [] sz)) (va_Qi (fun (r : Int32) (_ : Unit) => Q r ) (cB (dC, dI) (kT cyB cyI cyJ cyP) (va_A [] sz) (fun u : Unit => ([] : va_W))) (va_A [] sz)) 0 0 (va_A [] sz) := by
  refine Met.ofW (cc := cJ6_bitCount_0f7a4) (maxL := 1) (ret := (some .int)) (by decide) rfl ?_
  intro p e s m args below meth c s₁ B hml hv
  obtain ⟨rfl, hsz, hP, hK, hD0, hNw⟩ := hv
  have hx := B.exec
  have hb := B.bytes
  have hr := B.returns
  have hts := atoms_spec (ws := wsJ6_bitCount_0f7a4) B.pre
  have hown : s.vm.findClass RJ6 = some m.cls := findClass_of_methodNamed B.named
  have hlocks := B.notSynchronized
  subst hsz
  have hD := hD0.self (sz := s.heap.size)
  generalize hAe : va_A [] s.heap.size = A at hD ⊢
  have hA : ∀ q : Nat, s.heap.size ≤ q → A q := fun q h => by rw [← hAe]; exact Or.inr h
  have hS : va_S A s.heap s.heap [] := va_S.rf
  have hP : va_P (dC, dI) vwCl [] s.heap := hP
  have hl := lv_entry ([.int p0]) (n := 1) (Nat.le_of_ble_eq_true rfl)
  rw [lg_entry_eq]
  generalize (lg_sl ([.int p0]) ++ List.replicate (1 - (lg_sl ([.int p0])).length) Slot.unset).toArray = ls at hl ⊢
  have hl : lv_has ls 1 [(0, .int p0)] := hl
  have C0 : cfx p s m _ meth c cJ6_bitCount_0f7a4 (some .int) wsJ6_bitCount_0f7a4 RJ6 1 A (dC, dI) (kT cyB cyI cyJ cyP) := ⟨hx, hb, hr, hts, hown, hlocks, hml, hA, hK, hNw⟩
  clear hAe
  obtain ⟨H, hH⟩ : ∃ H, H = s.heap := ⟨_, rfl⟩
  rw [← hH] at hP ⊢
  have hS : va_S A s.heap H [] := by rw [hH]; exact va_S.rf
  have hS := hS
  refine lv_iload_n hx hb (dt_of tkJ6_bitCount_0f7a4_k0 0 rfl) rfl (lv_at hl 0 rfl) ?_
  refine lv_iload_n hx hb (dt_of tkJ6_bitCount_0f7a4_k0 1 rfl) rfl (lv_at hl 0 rfl) ?_
  refine lv_iconst (v := 1) hx hb (dt_of tkJ6_bitCount_0f7a4_k0 2 rfl) (by decide) ?_
  refine lv_iushr (v := (p0.toUInt32 >>> ((1 : Int32).toUInt32 &&& Int32.toUInt32 31)).toInt32) hx hb (dt_of tkJ6_bitCount_0f7a4_k0 3 rfl) rfl ?_
  refine lv_topi (fun x1 ex1 => ?_)
  have hw := hw x1 ex1
  refine lv_ldcw (v := 1431655765) hx hb hown (hts _ uw_J6_bitCount_0f7a4_k265) (dt_of tkJ6_bitCount_0f7a4_k0 4 rfl) ?_
  refine lv_iand hx hb (dt_of tkJ6_bitCount_0f7a4_k0 5 rfl) ?_
  refine lv_isub hx hb (dt_of tkJ6_bitCount_0f7a4_k0 6 rfl) ?_
  refine lv_topi (fun x2 ex2 => ?_)
  have hw := hw x2 ex2
  refine lv_istore_n (lv' := [(0, .int x2)]) hx hb (dt_of tkJ6_bitCount_0f7a4_k0 7 rfl) rfl hl (by decide) rfl (fun ls hl => ?_)
  refine lv_iload_n hx hb (dt_of tkJ6_bitCount_0f7a4_k0 8 rfl) rfl (lv_at hl 0 rfl) ?_
  refine lv_ldcw (v := 858993459) hx hb hown (hts _ uw_J6_bitCount_0f7a4_k266) (dt_of tkJ6_bitCount_0f7a4_k0 9 rfl) ?_
  refine lv_iand hx hb (dt_of tkJ6_bitCount_0f7a4_k0 10 rfl) ?_
  refine lv_iload_n hx hb (dt_of tkJ6_bitCount_0f7a4_k0 11 rfl) rfl (lv_at hl 0 rfl) ?_
  refine lv_iconst (v := 2) hx hb (dt_of tkJ6_bitCount_0f7a4_k0 12 rfl) (by decide) ?_
  refine lv_iushr (v := (x2.toUInt32 >>> ((2 : Int32).toUInt32 &&& Int32.toUInt32 31)).toInt32) hx hb (dt_of tkJ6_bitCount_0f7a4_k0 13 rfl) rfl ?_
  refine lv_topi (fun x3 ex3 => ?_)
  have hw := hw x3 ex3
  refine lv_ldcw (v := 858993459) hx hb hown (hts _ uw_J6_bitCount_0f7a4_k266) (dt_of tkJ6_bitCount_0f7a4_k0 14 rfl) ?_
  refine lv_iand hx hb (dt_of tkJ6_bitCount_0f7a4_k0 15 rfl) ?_
  refine lv_iadd hx hb (dt_of tkJ6_bitCount_0f7a4_k22 0 rfl) ?_
  refine lv_topi (fun x4 ex4 => ?_)
  have hw := hw x4 ex4
  refine lv_istore_n (lv' := [(0, .int x4)]) hx hb (dt_of tkJ6_bitCount_0f7a4_k22 1 rfl) rfl hl (by decide) rfl (fun ls hl => ?_)
  refine lv_iload_n hx hb (dt_of tkJ6_bitCount_0f7a4_k22 2 rfl) rfl (lv_at hl 0 rfl) ?_
  refine lv_iload_n hx hb (dt_of tkJ6_bitCount_0f7a4_k22 3 rfl) rfl (lv_at hl 0 rfl) ?_
  refine lv_iconst (v := 4) hx hb (dt_of tkJ6_bitCount_0f7a4_k22 4 rfl) (by decide) ?_
  refine lv_iushr (v := (x4.toUInt32 >>> ((4 : Int32).toUInt32 &&& Int32.toUInt32 31)).toInt32) hx hb (dt_of tkJ6_bitCount_0f7a4_k22 5 rfl) rfl ?_
  refine lv_topi (fun x5 ex5 => ?_)
  have hw := hw x5 ex5
  refine lv_iadd hx hb (dt_of tkJ6_bitCount_0f7a4_k22 6 rfl) ?_
  refine lv_ldcw (v := 252645135) hx hb hown (hts _ uw_J6_bitCount_0f7a4_k267) (dt_of tkJ6_bitCount_0f7a4_k22 7 rfl) ?_
  refine lv_iand hx hb (dt_of tkJ6_bitCount_0f7a4_k22 8 rfl) ?_
  refine lv_topi (fun x6 ex6 => ?_)
  have hw := hw x6 ex6
  refine lv_istore_n (lv' := [(0, .int x6)]) hx hb (dt_of tkJ6_bitCount_0f7a4_k22 9 rfl) rfl hl (by decide) rfl (fun ls hl => ?_)
  refine lv_iload_n hx hb (dt_of tkJ6_bitCount_0f7a4_k22 10 rfl) rfl (lv_at hl 0 rfl) ?_
  refine lv_iload_n hx hb (dt_of tkJ6_bitCount_0f7a4_k22 11 rfl) rfl (lv_at hl 0 rfl) ?_
  refine lv_bipush (v := 8) hx hb (dt_of tkJ6_bitCount_0f7a4_k22 12 rfl) (by decide) ?_
  refine lv_iushr (v := (x6.toUInt32 >>> ((8 : Int32).toUInt32 &&& Int32.toUInt32 31)).toInt32) hx hb (dt_of tkJ6_bitCount_0f7a4_k22 13 rfl) rfl ?_
  refine lv_topi (fun x7 ex7 => ?_)
  have hw := hw x7 ex7
  refine lv_iadd hx hb (dt_of tkJ6_bitCount_0f7a4_k22 14 rfl) ?_
  refine lv_topi (fun x8 ex8 => ?_)
  have hw := hw x8 ex8
  refine lv_istore_n (lv' := [(0, .int x8)]) hx hb (dt_of tkJ6_bitCount_0f7a4_k22 15 rfl) rfl hl (by decide) rfl (fun ls hl => ?_)
  refine lv_iload_n hx hb (dt_of tkJ6_bitCount_0f7a4_k41 0 rfl) rfl (lv_at hl 0 rfl) ?_
  refine lv_iload_n hx hb (dt_of tkJ6_bitCount_0f7a4_k41 1 rfl) rfl (lv_at hl 0 rfl) ?_
  refine lv_bipush (v := 16) hx hb (dt_of tkJ6_bitCount_0f7a4_k41 2 rfl) (by decide) ?_
  refine lv_iushr (v := (x8.toUInt32 >>> ((16 : Int32).toUInt32 &&& Int32.toUInt32 31)).toInt32) hx hb (dt_of tkJ6_bitCount_0f7a4_k41 3 rfl) rfl ?_
  refine lv_topi (fun x9 ex9 => ?_)
  have hw := hw x9 ex9
  refine lv_iadd hx hb (dt_of tkJ6_bitCount_0f7a4_k41 4 rfl) ?_
  refine lv_topi (fun x10 ex10 => ?_)
  have hw := hw x10 ex10
  refine lv_istore_n (lv' := [(0, .int x10)]) hx hb (dt_of tkJ6_bitCount_0f7a4_k41 5 rfl) rfl hl (by decide) rfl (fun ls hl => ?_)
  refine lv_iload_n hx hb (dt_of tkJ6_bitCount_0f7a4_k41 6 rfl) rfl (lv_at hl 0 rfl) ?_
  refine lv_bipush (v := 63) hx hb (dt_of tkJ6_bitCount_0f7a4_k41 7 rfl) (by decide) ?_
  refine lv_iand hx hb (dt_of tkJ6_bitCount_0f7a4_k41 8 rfl) ?_
  exact ((W.iret (v := (x10 &&& 63)) hx hb hr (fun t ht hW => ⟨⟨(x10 &&& 63), (), rfl, hw, by rw [ht]; exact hP, va_K.moved hW.alike hK, hD⟩, hS.F ht⟩) hS.2.2 (dt_of tkJ6_bitCount_0f7a4_k41 9 rfl)))
set_option maxHeartbeats 4000000 in
set_option maxRecDepth 100000 in
theorem ck_X10_within (l : Launch) (dC : Nat → ClassId) (dI : Nat → Nat → Nat) (cyB cyI cyJ cyP : ClassId) (sz : Nat)    (p0 : Int32) (p1 : Int32) (p2 : Int32) {Q : Int32 → Prop} (hw : wq_X10_within   p0 p1 p2 Q) : Met l yX10_within wsX10_within ({ frames := 0, cells := 0, slots := 0, locals := 0 }) (va_Pc [.int p0, .int p1, .int p2] (cPc (dC, dI) (kT cyB cyI cyJ cyP) [] sz)) (va_Qi (fun (r : Int32) (_ : Unit) => Q r ) (cB (dC, dI) (kT cyB cyI cyJ cyP) (va_A [] sz) (fun u : Unit => ([] : va_W))) (va_A [] sz)) 0 0 (va_A [] sz) := by
  refine Met.ofW (cc := cX10_within) (maxL := 3) (ret := (some .boolean)) (by decide) rfl ?_
  intro p e s m args below meth c s₁ B hml hv
  obtain ⟨rfl, hsz, hP, hK, hD0, hNw⟩ := hv
  have hx := B.exec
  have hb := B.bytes
  have hr := B.returns
  have hts := atoms_spec (ws := wsX10_within) B.pre
  have hown : s.vm.findClass RX10 = some m.cls := findClass_of_methodNamed B.named
  have hlocks := B.notSynchronized
  subst hsz
  have hD := hD0.self (sz := s.heap.size)
  generalize hAe : va_A [] s.heap.size = A at hD ⊢
  have hA : ∀ q : Nat, s.heap.size ≤ q → A q := fun q h => by rw [← hAe]; exact Or.inr h
  have hS : va_S A s.heap s.heap [] := va_S.rf
  have hP : va_P (dC, dI) vwCl [] s.heap := hP
  have hl := lv_entry ([.int p0, .int p1, .int p2]) (n := 3) (Nat.le_of_ble_eq_true rfl)
  rw [lg_entry_eq]
  generalize (lg_sl ([.int p0, .int p1, .int p2]) ++ List.replicate (3 - (lg_sl ([.int p0, .int p1, .int p2])).length) Slot.unset).toArray = ls at hl ⊢
  have hl : lv_has ls 3 [(0, .int p0), (1, .int p1), (2, .int p2)] := hl
  have C0 : cfx p s m _ meth c cX10_within (some .boolean) wsX10_within RX10 3 A (dC, dI) (kT cyB cyI cyJ cyP) := ⟨hx, hb, hr, hts, hown, hlocks, hml, hA, hK, hNw⟩
  clear hAe
  obtain ⟨H, hH⟩ : ∃ H, H = s.heap := ⟨_, rfl⟩
  rw [← hH] at hP ⊢
  have hS : va_S A s.heap H [] := by rw [hH]; exact va_S.rf
  have hS := hS
  refine lv_iload_n hx hb (dt_of tkX10_within_k0 0 rfl) rfl (lv_at hl 0 rfl) ?_
  refine lv_iload_n hx hb (dt_of tkX10_within_k0 1 rfl) rfl (lv_at hl 1 rfl) ?_
  refine lv_icmp_lt (tgt := 14) hx hb (dt_of tkX10_within_k0 2 rfl) (by decide) (fun c1 => ?_) (fun c1 => ?_)
  · have hw := hw.1 c1
    refine lv_iconst (v := 0) hx hb (dt_of tkX10_within_k0 8 rfl) (by decide) ?_
    exact ((W.zret (v := 0) hx hb hr rfl (fun t ht hW => ⟨⟨0, (), rfl, hw, by rw [ht]; exact hP, va_K.moved hW.alike hK, hD⟩, hS.F ht⟩) hS.2.2 (dt_of tkX10_within_k0 9 rfl)))
  · have hw := hw.2 c1
    refine lv_iload_n hx hb (dt_of tkX10_within_k0 3 rfl) rfl (lv_at hl 0 rfl) ?_
    refine lv_iload_n hx hb (dt_of tkX10_within_k0 4 rfl) rfl (lv_at hl 2 rfl) ?_
    refine lv_icmp_gt (tgt := 14) hx hb (dt_of tkX10_within_k0 5 rfl) (by decide) (fun c2 => ?_) (fun c2 => ?_)
    · have hw := hw.1 c2
      refine lv_iconst (v := 0) hx hb (dt_of tkX10_within_k0 8 rfl) (by decide) ?_
      exact ((W.zret (v := 0) hx hb hr rfl (fun t ht hW => ⟨⟨0, (), rfl, hw, by rw [ht]; exact hP, va_K.moved hW.alike hK, hD⟩, hS.F ht⟩) hS.2.2 (dt_of tkX10_within_k0 9 rfl)))
    · have hw := hw.2 c2
      refine lv_iconst (v := 1) hx hb (dt_of tkX10_within_k0 6 rfl) (by decide) ?_
      refine lv_goto (tgt := 15) hx hb (dt_of tkX10_within_k0 7 rfl) (by decide) ?_
      exact ((W.zret (v := 1) hx hb hr rfl (fun t ht hW => ⟨⟨1, (), rfl, hw, by rw [ht]; exact hP, va_K.moved hW.alike hK, hD⟩, hS.F ht⟩) hS.2.2 (dt_of tkX10_within_k0 9 rfl)))
theorem ub_X10_needLegal_409 : ∀ w ∈ (vx_atS RX10 409 "java/lang/IllegalArgumentException" ["java/lang/RuntimeException", "java/lang/Exception"]).filter (fun w => !goodWord w), w ∈ xB := by decide +kernel
theorem ug_X10_needLegal_409 : ∀ w ∈ Cond.classLink RX10 405 "java/lang/IllegalArgumentException" :: Cond.initialized "java/lang/IllegalArgumentException" :: vx_atS RX10 409 "java/lang/IllegalArgumentException" ["java/lang/RuntimeException", "java/lang/Exception"], vx_ot w = true := by decide +kernel
theorem uh_X10_needLegal_409 : ∀ w ∈ (vx_atS RX10 409 "java/lang/IllegalArgumentException" ["java/lang/RuntimeException", "java/lang/Exception"]).filter goodWord, w ∈ wsX10_needLegal := by decide +kernel
theorem ui_X10_needLegal_X10 : ∀ w ∈ u_ws RX10 TX10 19, w ∈ wsX10_needLegal := uiM mbX10_needLegal euX10 (by decide +kernel)
theorem uw_X10_needLegal_cl405 : (.classLink RX10 405 "java/lang/IllegalArgumentException" : Cond) ∈ wsX10_needLegal := mbX10_needLegal 704 (by decide +kernel)
theorem uw_X10_needLegal_f395 : (.fieldLink RX10 395 "MarchHares" "callsIllegal" "I" : Cond) ∈ wsX10_needLegal := mbX10_needLegal 706 (by decide +kernel)
theorem uw_X10_needLegal_ini405 : (.initialized "java/lang/IllegalArgumentException" : Cond) ∈ wsX10_needLegal := mbX10_needLegal 705 (by decide +kernel)
set_option maxHeartbeats 4000000 in
set_option maxRecDepth 100000 in
theorem ck_X10_needLegal (l : Launch) (dC : Nat → ClassId) (dI : Nat → Nat → Nat) (cyB cyI cyJ cyP : ClassId) (a0 : Nat) (sz : Nat) (z0_tape : Value) (z0_ground : Value) (z0_spareGround : Value) (z0_rule : Value) (z0_spareRule : Value) (z0_lines : Value) (z0_spareLines : Value) (z0_steps : Value) (z0_now : Value) (z0_trial : Value) (z0_past : Value) (z0_images : Value) (z0_round : Value) (z0_seating : Value) (z0_fitting : Value) (z0_imagesKept : Value) (z0_refusedSteps : Value) (z0_callsNoSuch : Value)  (v0_callsIllegal : Int32) (p1 : Int32) {E : String → Int32 → Prop} {Q : Int32 → Prop} (hw : wq_X10_needLegal  v0_callsIllegal p1 E Q) : vx_Met l yX10_needLegal wsX10_needLegal ({ frames := 6, cells := 1, slots := 6, locals := 120 }) (va_Pc [.ref a0, .int p1] (cPx l (dC, dI) (kT cyB cyI cyJ cyP) (wd00_0 a0 z0_tape z0_ground z0_spareGround z0_rule z0_spareRule z0_lines z0_spareLines z0_steps z0_now z0_trial z0_past z0_images z0_round z0_seating z0_fitting z0_imagesKept z0_refusedSteps z0_callsNoSuch v0_callsIllegal) sz)) (va_Qv (fun (u : Int32) => Q u) (cB (dC, dI) (kT cyB cyI cyJ cyP) (va_A (wd00_0 a0 z0_tape z0_ground z0_spareGround z0_rule z0_spareRule z0_lines z0_spareLines z0_steps z0_now z0_trial z0_past z0_images z0_round z0_seating z0_fitting z0_imagesKept z0_refusedSteps z0_callsNoSuch v0_callsIllegal) sz) (fun u : Int32 => ((wd00_0 a0 z0_tape z0_ground z0_spareGround z0_rule z0_spareRule z0_lines z0_spareLines z0_steps z0_now z0_trial z0_past z0_images z0_round z0_seating z0_fitting z0_imagesKept z0_refusedSteps z0_callsNoSuch u) : va_W))) (va_A (wd00_0 a0 z0_tape z0_ground z0_spareGround z0_rule z0_spareRule z0_lines z0_spareLines z0_steps z0_now z0_trial z0_past z0_images z0_round z0_seating z0_fitting z0_imagesKept z0_refusedSteps z0_callsNoSuch v0_callsIllegal) sz)) (vx_X (fun _ => True) (fun (en : String) (u : Int32) (t : State) => E en u ∧ cB (dC, dI) (kT cyB cyI cyJ cyP) (va_A (wd00_0 a0 z0_tape z0_ground z0_spareGround z0_rule z0_spareRule z0_lines z0_spareLines z0_steps z0_now z0_trial z0_past z0_images z0_round z0_seating z0_fitting z0_imagesKept z0_refusedSteps z0_callsNoSuch v0_callsIllegal) sz) (fun u : Int32 => ((wd00_0 a0 z0_tape z0_ground z0_spareGround z0_rule z0_spareRule z0_lines z0_spareLines z0_steps z0_now z0_trial z0_past z0_images z0_round z0_seating z0_fitting z0_imagesKept z0_refusedSteps z0_callsNoSuch u) : va_W)) u t) (va_A (wd00_0 a0 z0_tape z0_ground z0_spareGround z0_rule z0_spareRule z0_lines z0_spareLines z0_steps z0_now z0_trial z0_past z0_images z0_round z0_seating z0_fitting z0_imagesKept z0_refusedSteps z0_callsNoSuch v0_callsIllegal) sz)) 1 6 (va_A (wd00_0 a0 z0_tape z0_ground z0_spareGround z0_rule z0_spareRule z0_lines z0_spareLines z0_steps z0_now z0_trial z0_past z0_images z0_round z0_seating z0_fitting z0_imagesKept z0_refusedSteps z0_callsNoSuch v0_callsIllegal) sz) := by
  refine vx_ofW (cc := cX10_needLegal) (maxL := 2) (ret := none) (by decide) rfl ?_
  intro p e s m args below meth c s₁ B hml hnt hv
  obtain ⟨rfl, hsz, hP, hK, hD0, hNw, hXl, hXu, hXn, hXt⟩ := hv
  have hx := B.exec
  have hb := B.bytes
  have hr := B.returns
  have hts := atoms_spec (ws := wsX10_needLegal) B.pre
  have hown : s.vm.findClass RX10 = some m.cls := findClass_of_methodNamed B.named
  have hlocks := B.notSynchronized
  subst hsz
  have hD := hD0.self (sz := s.heap.size)
  generalize hAe : va_A (wd00_0 a0 z0_tape z0_ground z0_spareGround z0_rule z0_spareRule z0_lines z0_spareLines z0_steps z0_now z0_trial z0_past z0_images z0_round z0_seating z0_fitting z0_imagesKept z0_refusedSteps z0_callsNoSuch v0_callsIllegal) s.heap.size = A at hD hXu hXn ⊢
  have hA : ∀ q : Nat, s.heap.size ≤ q → A q := fun q h => by rw [← hAe]; exact Or.inr h
  have hS : va_S A s.heap s.heap [] := va_S.rf
  have hP : va_P (dC, dI) vwCl (wd00_0 a0 z0_tape z0_ground z0_spareGround z0_rule z0_spareRule z0_lines z0_spareLines z0_steps z0_now z0_trial z0_past z0_images z0_round z0_seating z0_fitting z0_imagesKept z0_refusedSteps z0_callsNoSuch v0_callsIllegal) s.heap := hP
  have hl := lv_entry ([.ref a0, .int p1]) (n := 2) (Nat.le_of_ble_eq_true rfl)
  rw [lg_entry_eq]
  generalize (lg_sl ([.ref a0, .int p1]) ++ List.replicate (2 - (lg_sl ([.ref a0, .int p1])).length) Slot.unset).toArray = ls at hl ⊢
  have hl : lv_has ls 2 [(0, .ref a0), (1, .int p1)] := hl
  have hY : cfY l s A := ⟨hXl, hXu, hXn, hXt⟩
  have hXs : cfX l s c A := ⟨hnt, hY⟩
  have C0 : cfx p s m _ meth c cX10_needLegal none wsX10_needLegal RX10 2 A (dC, dI) (kT cyB cyI cyJ cyP) ∧ cfX l s c A := ⟨⟨hx, hb, hr, hts, hown, hlocks, hml, hA, hK, hNw⟩, hXs⟩
  clear hAe
  obtain ⟨H, hH⟩ : ∃ H, H = s.heap := ⟨_, rfl⟩
  rw [← hH] at hP ⊢
  have hS : va_S A s.heap H [] := by rw [hH]; exact va_S.rf
  have hS := hS
  refine lv_iload_n hx hb (dt_of tkX10_needLegal_k0 0 rfl) rfl (lv_at hl 1 rfl) ?_
  refine lv_if_ne (tgt := 25) hx hb (dt_of tkX10_needLegal_k0 1 rfl) (by decide) (fun c1 => ?_) (fun c1 => ?_)
  · have hw := hw.1 c1
    exact vx_ret (W.widen (k := 1) (n := 6) (Nat.le_of_ble_eq_true rfl) (Nat.le_of_ble_eq_true rfl) (W.vret hx hb hr (fun t ht hW => ⟨⟨(v0_callsIllegal), rfl, hw, by rw [ht]; exact hP, va_K.moved hW.alike hK, hD⟩, hS.F ht⟩) hS.2.2 (dt_of tkX10_needLegal_k0 13 rfl)))
  · have hw := hw.2 c1
    refine lv_aload_n hx hb (dt_of tkX10_needLegal_k0 2 rfl) rfl (lv_at hl 0 rfl) ?_
    refine lv_dup hx hb (dt_of tkX10_needLegal_k0 3 rfl) rfl ?_
    refine va_get (D := (dC, dI)) (ci := 10) (v := .int v0_callsIllegal) (C := RX10) (T := TX10) (N := 19) hx hb hts ui_X10_needLegal_X10 hown hK hP 0 rfl rfl 18 (by decide) (hts _ uw_X10_needLegal_f395) (fun _ h9 => h9) rfl (dt_of tkX10_needLegal_k0 4 rfl) ?_
    refine lv_iconst (v := 1) hx hb (dt_of tkX10_needLegal_k0 5 rfl) (by decide) ?_
    refine lv_iadd hx hb (dt_of tkX10_needLegal_k0 6 rfl) ?_
    refine lv_topi (fun x2 ex2 => ?_)
    have hw := hw x2 ex2
    refine va_put (D := (dC, dI)) (ci := 10) (v := .int x2) (ty := .int) (C := RX10) (T := TX10) (N := 19) hx hb hts ui_X10_needLegal_X10 tyX10 tyX10_ok nmX10 hown hK hP hD hS 0 rfl rfl 18 (by decide) (hts _ uw_X10_needLegal_f395) (fun _ h9 => h9) rfl (by decide +kernel) rfl rfl (Nat.le_of_ble_eq_true rfl) (dt_of tkX10_needLegal_k0 7 rfl) (fun H locs hP hD hS => ?_)
    have hP : va_P (dC, dI) vwCl (wd00_0 a0 z0_tape z0_ground z0_spareGround z0_rule z0_spareRule z0_lines z0_spareLines z0_steps z0_now z0_trial z0_past z0_images z0_round z0_seating z0_fitting z0_imagesKept z0_refusedSteps z0_callsNoSuch x2) H := hP
    have hD : va_D A (wd00_0 a0 z0_tape z0_ground z0_spareGround z0_rule z0_spareRule z0_lines z0_spareLines z0_steps z0_now z0_trial z0_past z0_images z0_round z0_seating z0_fitting z0_imagesKept z0_refusedSteps z0_callsNoSuch x2) := hD
    obtain ⟨sa9, hsa9⟩ := hY.2.2.2.2.1 _ (List.mem_of_getElem? (i := 3) rfl)
    exact vx_throwSW hx hb hY.1 (own := RX10) (cls := "java/lang/IllegalArgumentException") (names := ["java/lang/RuntimeException", "java/lang/Exception"]) (ik := 405) (is := 407) (ic := 409) hown (by decide +kernel) (by decide +kernel) (hts _ uw_X10_needLegal_cl405) (hts _ uw_X10_needLegal_ini405) hsa9 (vx_hat (fun w hw9 => hts w (uh_X10_needLegal_409 w hw9)) ub_X10_needLegal_409 (xB_use hY.2.2.2.1)) ug_X10_needLegal_409 hY.2.1 hY.2.2.1 hS (by rw [hml]; exact hl.1) (dt_of tkX10_needLegal_k0 8 rfl) (dt_of tkX10_needLegal_k0 9 rfl) (dt_of tkX10_needLegal_k0 10 rfl) (dt_of tkX10_needLegal_k0 11 rfl) (dt_of tkX10_needLegal_k0 12 rfl) (fun x hx9 => (hXs.1 x hx9).elim) (Nat.le_of_ble_eq_true rfl) (Nat.le_of_ble_eq_true rfl) (Nat.le_of_ble_eq_true rfl) (Nat.le_of_ble_eq_true rfl) hlocks (fun t hal hsz9 hq9 => ⟨(x2), trivial, ⟨hw, hP.kept (fun k q hk9 => hq9 _ ((hP k q hk9).lt)), va_K.moved hal hK, hD⟩, xt_frame hS hsz9 hq9⟩) hS.2.2 (Nat.le_of_ble_eq_true rfl) (Nat.le_of_ble_eq_true rfl)
set_option maxHeartbeats 4000000 in
set_option maxRecDepth 100000 in
theorem ck_X10_needWithin (l : Launch) (dC : Nat → ClassId) (dI : Nat → Nat → Nat) (cyB cyI cyJ cyP : ClassId) (a0 : Nat) (sz : Nat) (z0_tape : Value) (z0_ground : Value) (z0_spareGround : Value) (z0_rule : Value) (z0_spareRule : Value) (z0_lines : Value) (z0_spareLines : Value) (z0_steps : Value) (z0_now : Value) (z0_trial : Value) (z0_past : Value) (z0_images : Value) (z0_round : Value) (z0_seating : Value) (z0_fitting : Value) (z0_imagesKept : Value) (z0_refusedSteps : Value) (z0_callsNoSuch : Value)  (v0_callsIllegal : Int32) (p1 : Int32) (p2 : Int32) (p3 : Int32) {E : String → Int32 → Prop} {Q : Int32 → Prop} (hw : wq_X10_needWithin  v0_callsIllegal p1 p2 p3 E Q) : vx_Met l yX10_needWithin wsX10_needWithin ({ frames := 7, cells := 1, slots := 6, locals := 141 }) (va_Pc [.ref a0, .int p1, .int p2, .int p3] (cPx l (dC, dI) (kT cyB cyI cyJ cyP) (wd00_0 a0 z0_tape z0_ground z0_spareGround z0_rule z0_spareRule z0_lines z0_spareLines z0_steps z0_now z0_trial z0_past z0_images z0_round z0_seating z0_fitting z0_imagesKept z0_refusedSteps z0_callsNoSuch v0_callsIllegal) sz)) (va_Qv (fun (u : Int32) => Q u) (cB (dC, dI) (kT cyB cyI cyJ cyP) (va_A (wd00_0 a0 z0_tape z0_ground z0_spareGround z0_rule z0_spareRule z0_lines z0_spareLines z0_steps z0_now z0_trial z0_past z0_images z0_round z0_seating z0_fitting z0_imagesKept z0_refusedSteps z0_callsNoSuch v0_callsIllegal) sz) (fun u : Int32 => ((wd00_0 a0 z0_tape z0_ground z0_spareGround z0_rule z0_spareRule z0_lines z0_spareLines z0_steps z0_now z0_trial z0_past z0_images z0_round z0_seating z0_fitting z0_imagesKept z0_refusedSteps z0_callsNoSuch u) : va_W))) (va_A (wd00_0 a0 z0_tape z0_ground z0_spareGround z0_rule z0_spareRule z0_lines z0_spareLines z0_steps z0_now z0_trial z0_past z0_images z0_round z0_seating z0_fitting z0_imagesKept z0_refusedSteps z0_callsNoSuch v0_callsIllegal) sz)) (vx_X (fun _ => True) (fun (en : String) (u : Int32) (t : State) => E en u ∧ cB (dC, dI) (kT cyB cyI cyJ cyP) (va_A (wd00_0 a0 z0_tape z0_ground z0_spareGround z0_rule z0_spareRule z0_lines z0_spareLines z0_steps z0_now z0_trial z0_past z0_images z0_round z0_seating z0_fitting z0_imagesKept z0_refusedSteps z0_callsNoSuch v0_callsIllegal) sz) (fun u : Int32 => ((wd00_0 a0 z0_tape z0_ground z0_spareGround z0_rule z0_spareRule z0_lines z0_spareLines z0_steps z0_now z0_trial z0_past z0_images z0_round z0_seating z0_fitting z0_imagesKept z0_refusedSteps z0_callsNoSuch u) : va_W)) u t) (va_A (wd00_0 a0 z0_tape z0_ground z0_spareGround z0_rule z0_spareRule z0_lines z0_spareLines z0_steps z0_now z0_trial z0_past z0_images z0_round z0_seating z0_fitting z0_imagesKept z0_refusedSteps z0_callsNoSuch v0_callsIllegal) sz)) 1 6 (va_A (wd00_0 a0 z0_tape z0_ground z0_spareGround z0_rule z0_spareRule z0_lines z0_spareLines z0_steps z0_now z0_trial z0_past z0_images z0_round z0_seating z0_fitting z0_imagesKept z0_refusedSteps z0_callsNoSuch v0_callsIllegal) sz) := by
  refine vx_ofW (cc := cX10_needWithin) (maxL := 4) (ret := none) (by decide) rfl ?_
  intro p e s m args below meth c s₁ B hml hnt hv
  obtain ⟨rfl, hsz, hP, hK, hD0, hNw, hXl, hXu, hXn, hXt⟩ := hv
  have hx := B.exec
  have hb := B.bytes
  have hr := B.returns
  have hts := atoms_spec (ws := wsX10_needWithin) B.pre
  have hown : s.vm.findClass RX10 = some m.cls := findClass_of_methodNamed B.named
  have hlocks := B.notSynchronized
  subst hsz
  have hD := hD0.self (sz := s.heap.size)
  generalize hAe : va_A (wd00_0 a0 z0_tape z0_ground z0_spareGround z0_rule z0_spareRule z0_lines z0_spareLines z0_steps z0_now z0_trial z0_past z0_images z0_round z0_seating z0_fitting z0_imagesKept z0_refusedSteps z0_callsNoSuch v0_callsIllegal) s.heap.size = A at hD hXu hXn ⊢
  have hA : ∀ q : Nat, s.heap.size ≤ q → A q := fun q h => by rw [← hAe]; exact Or.inr h
  have hS : va_S A s.heap s.heap [] := va_S.rf
  have hP : va_P (dC, dI) vwCl (wd00_0 a0 z0_tape z0_ground z0_spareGround z0_rule z0_spareRule z0_lines z0_spareLines z0_steps z0_now z0_trial z0_past z0_images z0_round z0_seating z0_fitting z0_imagesKept z0_refusedSteps z0_callsNoSuch v0_callsIllegal) s.heap := hP
  have hl := lv_entry ([.ref a0, .int p1, .int p2, .int p3]) (n := 4) (Nat.le_of_ble_eq_true rfl)
  rw [lg_entry_eq]
  generalize (lg_sl ([.ref a0, .int p1, .int p2, .int p3]) ++ List.replicate (4 - (lg_sl ([.ref a0, .int p1, .int p2, .int p3])).length) Slot.unset).toArray = ls at hl ⊢
  have hl : lv_has ls 4 [(0, .ref a0), (1, .int p1), (2, .int p2), (3, .int p3)] := hl
  have hY : cfY l s A := ⟨hXl, hXu, hXn, hXt⟩
  have hXs : cfX l s c A := ⟨hnt, hY⟩
  have C0 : cfx p s m _ meth c cX10_needWithin none wsX10_needWithin RX10 4 A (dC, dI) (kT cyB cyI cyJ cyP) ∧ cfX l s c A := ⟨⟨hx, hb, hr, hts, hown, hlocks, hml, hA, hK, hNw⟩, hXs⟩
  clear hAe
  obtain ⟨H, hH⟩ : ∃ H, H = s.heap := ⟨_, rfl⟩
  rw [← hH] at hP ⊢
  have hS : va_S A s.heap H [] := by rw [hH]; exact va_S.rf
  have hS := hS
  refine lv_aload_n hx hb (dt_of tkX10_needWithin_k0 0 rfl) rfl (lv_at hl 0 rfl) ?_
  refine lv_iload_n hx hb (dt_of tkX10_needWithin_k0 1 rfl) rfl (lv_at hl 1 rfl) ?_
  refine lv_iload_n hx hb (dt_of tkX10_needWithin_k0 2 rfl) rfl (lv_at hl 2 rfl) ?_
  refine lv_iload_n hx hb (dt_of tkX10_needWithin_k0 3 rfl) rfl (lv_at hl 3 rfl) ?_
  obtain ⟨hCc, hPc, hDc, hFc⟩ := va_pick (ws' := []) hP hD hS hA [] (by decide +kernel) rfl
  refine va_calli (va_runS (As := [.int p1, .int p2, .int p3]) (rest := [.ref a0]) ⟨hx, hb, hml, hown, hts⟩ (ck_X10_within l dC dI cyB cyI cyJ cyP  H.size    p1 p2 p3 hw) (va_cwS 3 hts gX10_needWithin_X10_within rfl rfl rfl (by decide +kernel) ⟨Nat.le_of_ble_eq_true rfl, Nat.le_of_ble_eq_true rfl⟩) ⟨cPc_blind, cPc_pre hPc hK hDc hNw⟩ rfl rfl hl.1 rfl (lv_room (Nat.le_of_ble_eq_true rfl)) (dt_of tkX10_needWithin_k0 4 rfl) ⟨Nat.le_of_ble_eq_true rfl, Nat.le_of_ble_eq_true rfl⟩) hS (fun q _ h => hFc q h) hFc (fun r1 u t H1 locs ht hvm hw hB hz1 hk1 hS => ?_)
  obtain ⟨hP1, hK1, hD1⟩ := hB
  rw [ht] at hP1
  obtain ⟨hP, hD⟩ := va_joinI (wr := (wd00_0 a0 z0_tape z0_ground z0_spareGround z0_rule z0_spareRule z0_lines z0_spareLines z0_steps z0_now z0_trial z0_past z0_images z0_round z0_seating z0_fitting z0_imagesKept z0_refusedSteps z0_callsNoSuch v0_callsIllegal)) (w1 := []) (wn := (wd00_0 a0 z0_tape z0_ground z0_spareGround z0_rule z0_spareRule z0_lines z0_spareLines z0_steps z0_now z0_trial z0_past z0_images z0_round z0_seating z0_fitting z0_imagesKept z0_refusedSteps z0_callsNoSuch v0_callsIllegal)) hP hD [] [0] hCc rfl (by decide +kernel) (by decide +kernel) rfl hk1 hFc hP1 hD1
  generalize H1 = H at hP hS ⊢
  obtain ⟨hCc, hPc, hDc, hFc⟩ := va_pick (ws' := (wd00_0 a0 z0_tape z0_ground z0_spareGround z0_rule z0_spareRule z0_lines z0_spareLines z0_steps z0_now z0_trial z0_past z0_images z0_round z0_seating z0_fitting z0_imagesKept z0_refusedSteps z0_callsNoSuch v0_callsIllegal)) hP hD hS hA [0] (by decide +kernel) rfl
  refine vx_callv (vx_runV (As := [.int r1]) (rest := []) ⟨hx, hb, hml, hown, hts⟩ (ck_X10_needLegal l dC dI cyB cyI cyJ cyP a0 H.size (z0_tape) (z0_ground) (z0_spareGround) (z0_rule) (z0_spareRule) (z0_lines) (z0_spareLines) (z0_steps) (z0_now) (z0_trial) (z0_past) (z0_images) (z0_round) (z0_seating) (z0_fitting) (z0_imagesKept) (z0_refusedSteps) (z0_callsNoSuch)  v0_callsIllegal r1 hw) (cwV 1 hts gX10_needWithin_X10_needLegal rfl rfl rfl (by decide +kernel) ⟨Nat.le_of_ble_eq_true rfl, Nat.le_of_ble_eq_true rfl⟩) ⟨cPx_blind, va_recv (q := (RX10, TX10, 19)) hK hPc (ci := 10) (q0 := 0) rfl rfl, cPx_pre hPc hK hDc hNw hY hS hFc⟩ rfl rfl hl.1 rfl (lv_room (Nat.le_of_ble_eq_true rfl)) (dt_of tkX10_needWithin_k0 5 rfl) ⟨Nat.le_of_ble_eq_true rfl, Nat.le_of_ble_eq_true rfl⟩) hS (fun q _ h => hFc q h) hFc (fun q _ h => hFc q h) (fun en ce q9 u t H1 locs ht hvm hpx hB hz1 hk1 hS hc9 hv9 hcl9 => ?_) (fun u t H1 locs ht hvm hw hB hz1 hk1 hS => ?_)
  · obtain ⟨x2, rfl⟩ : ∃ z, z = u := ⟨_, rfl⟩
    obtain ⟨hw, hP1, hK1, hD1⟩ := hB
    rw [ht] at hP1
    obtain ⟨hP, hD⟩ := va_joinI (wr := []) (w1 := (wd00_0 a0 z0_tape z0_ground z0_spareGround z0_rule z0_spareRule z0_lines z0_spareLines z0_steps z0_now z0_trial z0_past z0_images z0_round z0_seating z0_fitting z0_imagesKept z0_refusedSteps z0_callsNoSuch x2)) (wn := (wd00_0 a0 z0_tape z0_ground z0_spareGround z0_rule z0_spareRule z0_lines z0_spareLines z0_steps z0_now z0_trial z0_past z0_images z0_round z0_seating z0_fitting z0_imagesKept z0_refusedSteps z0_callsNoSuch x2)) hP hD [0] [] hCc rfl (by decide +kernel) (by decide +kernel) rfl hk1 hFc hP1 hD1
    generalize H1 = H at hP hS hc9 ⊢
    exact vx_out (fun x hx9 => (hXs.1 x hx9).elim) hlocks hc9 hv9 hcl9 (fun t2 ht2 hal2 => ⟨(x2), trivial, ⟨hw, by rw [ht2]; exact hP, va_K.moved hal2 hK, hD⟩, hS.F ht2⟩) hS.2.2 (Nat.le_of_ble_eq_true rfl) (Nat.le_of_ble_eq_true rfl)
  obtain ⟨x2, rfl⟩ : ∃ z, z = u := ⟨_, rfl⟩
  obtain ⟨hP1, hK1, hD1⟩ := hB
  rw [ht] at hP1
  obtain ⟨hP, hD⟩ := va_joinI (wr := []) (w1 := (wd00_0 a0 z0_tape z0_ground z0_spareGround z0_rule z0_spareRule z0_lines z0_spareLines z0_steps z0_now z0_trial z0_past z0_images z0_round z0_seating z0_fitting z0_imagesKept z0_refusedSteps z0_callsNoSuch x2)) (wn := (wd00_0 a0 z0_tape z0_ground z0_spareGround z0_rule z0_spareRule z0_lines z0_spareLines z0_steps z0_now z0_trial z0_past z0_images z0_round z0_seating z0_fitting z0_imagesKept z0_refusedSteps z0_callsNoSuch x2)) hP hD [0] [] hCc rfl (by decide +kernel) (by decide +kernel) rfl hk1 hFc hP1 hD1
  generalize H1 = H at hP hS ⊢
  exact vx_ret (W.widen (k := 1) (n := 6) (Nat.le_of_ble_eq_true rfl) (Nat.le_of_ble_eq_true rfl) (W.vret hx hb hr (fun t ht hW => ⟨⟨(x2), rfl, hw, by rw [ht]; exact hP, va_K.moved hW.alike hK, hD⟩, hS.F ht⟩) hS.2.2 (dt_of tkX10_needWithin_k0 6 rfl)))
theorem ui_X1_copyFrom_X1 : ∀ w ∈ u_ws RX1 TX1 4, w ∈ wsX1_copyFrom := uiM mbX1_copyFrom euX1 (by decide +kernel)
theorem uw_X1_copyFrom_aci : (.initialized "java/lang/System" : Cond) ∈ wsX1_copyFrom := mbX1_copyFrom 331 (by decide +kernel)
theorem uw_X1_copyFrom_acn : (.native arraycopyName : Cond) ∈ wsX1_copyFrom := mbX1_copyFrom 329 (by decide +kernel)
theorem uw_X1_copyFrom_acs : (.static arraycopyName : Cond) ∈ wsX1_copyFrom := mbX1_copyFrom 330 (by decide +kernel)
theorem uw_X1_copyFrom_f13 : (.fieldLink RX1 13 "MarchHares$Days" "row" "[I" : Cond) ∈ wsX1_copyFrom := mbX1_copyFrom 276 (by decide +kernel)
theorem uw_X1_copyFrom_f24 : (.fieldLink RX1 24 "MarchHares$Days" "down" "LMarchHares$Down;" : Cond) ∈ wsX1_copyFrom := mbX1_copyFrom 322 (by decide +kernel)
theorem uw_X1_copyFrom_f28 : (.fieldLink RX1 28 "MarchHares$Days" "law" "LMarchHares$Law;" : Cond) ∈ wsX1_copyFrom := mbX1_copyFrom 323 (by decide +kernel)
theorem uw_X1_copyFrom_m45 : (.methodLink RX1 45 arraycopyName : Cond) ∈ wsX1_copyFrom := mbX1_copyFrom 328 (by decide +kernel)
set_option maxHeartbeats 4000000 in
set_option maxRecDepth 100000 in
theorem ck_X1_copyFrom (l : Launch) (dC : Nat → ClassId) (dI : Nat → Nat → Nat) (cyB cyI cyJ cyP : ClassId) (a0 a1 a1_down a1_law a1_row a0_row : Nat) (sz : Nat) (z0_owedEach : Value) (r0_down : Value) (r0_law : Value) (z1_owedEach : Value) (f1_row : Nat → Int32) (f0_row : Nat → Int32)  {Q : (Nat → Int32) → Prop} (hw : wq_X1_copyFrom f1_row f0_row  Q) : Met l yX1_copyFrom wsX1_copyFrom ({ frames := 1, cells := 0, slots := 0, locals := 40 }) (va_Pc [.ref a0, .ref a1] (cPc (dC, dI) (kT cyB cyI cyJ cyP) (wd00_1 a0 a0_row z0_owedEach r0_down r0_law a1 a1_row z1_owedEach a1_down a1_law a1_row cyI f1_row a0_row cyI f0_row) sz)) (va_Qv (fun (u : (Nat → Int32)) => Q u) (cB (dC, dI) (kT cyB cyI cyJ cyP) (va_A (wd00_1 a0 a0_row z0_owedEach r0_down r0_law a1 a1_row z1_owedEach a1_down a1_law a1_row cyI f1_row a0_row cyI f0_row) sz) (fun u : (Nat → Int32) => ((wd00_2 a0 a0_row z0_owedEach a1_down a1_law a1 a1_row z1_owedEach a1_down a1_law a1_row cyI f1_row a0_row cyI u) : va_W))) (va_A (wd00_1 a0 a0_row z0_owedEach r0_down r0_law a1 a1_row z1_owedEach a1_down a1_law a1_row cyI f1_row a0_row cyI f0_row) sz)) 0 0 (va_A (wd00_1 a0 a0_row z0_owedEach r0_down r0_law a1 a1_row z1_owedEach a1_down a1_law a1_row cyI f1_row a0_row cyI f0_row) sz) := by
  refine Met.ofW (cc := cX1_copyFrom) (maxL := 2) (ret := none) (by decide) rfl ?_
  intro p e s m args below meth c s₁ B hml hv
  obtain ⟨rfl, hsz, hP, hK, hD0, hNw⟩ := hv
  have hx := B.exec
  have hb := B.bytes
  have hr := B.returns
  have hts := atoms_spec (ws := wsX1_copyFrom) B.pre
  have hown : s.vm.findClass RX1 = some m.cls := findClass_of_methodNamed B.named
  have hlocks := B.notSynchronized
  subst hsz
  have hD := hD0.self (sz := s.heap.size)
  generalize hAe : va_A (wd00_1 a0 a0_row z0_owedEach r0_down r0_law a1 a1_row z1_owedEach a1_down a1_law a1_row cyI f1_row a0_row cyI f0_row) s.heap.size = A at hD ⊢
  have hA : ∀ q : Nat, s.heap.size ≤ q → A q := fun q h => by rw [← hAe]; exact Or.inr h
  have hS : va_S A s.heap s.heap [] := va_S.rf
  have hP : va_P (dC, dI) vwCl (wd00_1 a0 a0_row z0_owedEach r0_down r0_law a1 a1_row z1_owedEach a1_down a1_law a1_row cyI f1_row a0_row cyI f0_row) s.heap := hP
  have hl := lv_entry ([.ref a0, .ref a1]) (n := 2) (Nat.le_of_ble_eq_true rfl)
  rw [lg_entry_eq]
  generalize (lg_sl ([.ref a0, .ref a1]) ++ List.replicate (2 - (lg_sl ([.ref a0, .ref a1])).length) Slot.unset).toArray = ls at hl ⊢
  have hl : lv_has ls 2 [(0, .ref a0), (1, .ref a1)] := hl
  have C0 : cfx p s m _ meth c cX1_copyFrom none wsX1_copyFrom RX1 2 A (dC, dI) (kT cyB cyI cyJ cyP) := ⟨hx, hb, hr, hts, hown, hlocks, hml, hA, hK, hNw⟩
  clear hAe
  obtain ⟨H, hH⟩ : ∃ H, H = s.heap := ⟨_, rfl⟩
  rw [← hH] at hP ⊢
  have hS : va_S A s.heap H [] := by rw [hH]; exact va_S.rf
  have hS := hS
  refine lv_aload_n hx hb (dt_of tkX1_copyFrom_k0 0 rfl) rfl (lv_at hl 0 rfl) ?_
  refine lv_aload_n hx hb (dt_of tkX1_copyFrom_k0 1 rfl) rfl (lv_at hl 1 rfl) ?_
  refine va_get (D := (dC, dI)) (ci := 1) (v := .ref a1_down) (C := RX1) (T := TX1) (N := 4) hx hb hts ui_X1_copyFrom_X1 hown hK hP 1 rfl rfl 2 (by decide) (hts _ uw_X1_copyFrom_f24) (fun _ h9 => h9) rfl (dt_of tkX1_copyFrom_k0 2 rfl) ?_
  refine va_put (D := (dC, dI)) (ci := 1) (v := .ref a1_down) (ty := .object "MarchHares$Down") (C := RX1) (T := TX1) (N := 4) hx hb hts ui_X1_copyFrom_X1 tyX1 tyX1_ok nmX1 hown hK hP hD hS 0 rfl rfl 2 (by decide) (hts _ uw_X1_copyFrom_f24) (fun _ h9 => h9) rfl (by decide +kernel) rfl rfl (Nat.le_of_ble_eq_true rfl) (dt_of tkX1_copyFrom_k0 3 rfl) (fun H locs hP hD hS => ?_)
  have hP : va_P (dC, dI) vwCl (wd00_3 a0 a0_row z0_owedEach a1_down r0_law a1 a1_row z1_owedEach a1_down a1_law a1_row cyI f1_row a0_row cyI f0_row) H := hP
  have hD : va_D A (wd00_3 a0 a0_row z0_owedEach a1_down r0_law a1 a1_row z1_owedEach a1_down a1_law a1_row cyI f1_row a0_row cyI f0_row) := hD
  refine lv_aload_n hx hb (dt_of tkX1_copyFrom_k0 4 rfl) rfl (lv_at hl 0 rfl) ?_
  refine lv_aload_n hx hb (dt_of tkX1_copyFrom_k0 5 rfl) rfl (lv_at hl 1 rfl) ?_
  refine va_get (D := (dC, dI)) (ci := 1) (v := .ref a1_law) (C := RX1) (T := TX1) (N := 4) hx hb hts ui_X1_copyFrom_X1 hown hK hP 1 rfl rfl 3 (by decide) (hts _ uw_X1_copyFrom_f28) (fun _ h9 => h9) rfl (dt_of tkX1_copyFrom_k0 6 rfl) ?_
  refine va_put (D := (dC, dI)) (ci := 1) (v := .ref a1_law) (ty := .object "MarchHares$Law") (C := RX1) (T := TX1) (N := 4) hx hb hts ui_X1_copyFrom_X1 tyX1 tyX1_ok nmX1 hown hK hP hD hS 0 rfl rfl 3 (by decide) (hts _ uw_X1_copyFrom_f28) (fun _ h9 => h9) rfl (by decide +kernel) rfl rfl (Nat.le_of_ble_eq_true rfl) (dt_of tkX1_copyFrom_k0 7 rfl) (fun H locs hP hD hS => ?_)
  have hP : va_P (dC, dI) vwCl (wd00_2 a0 a0_row z0_owedEach a1_down a1_law a1 a1_row z1_owedEach a1_down a1_law a1_row cyI f1_row a0_row cyI f0_row) H := hP
  have hD : va_D A (wd00_2 a0 a0_row z0_owedEach a1_down a1_law a1 a1_row z1_owedEach a1_down a1_law a1_row cyI f1_row a0_row cyI f0_row) := hD
  refine lv_aload_n hx hb (dt_of tkX1_copyFrom_k0 8 rfl) rfl (lv_at hl 1 rfl) ?_
  refine va_get (D := (dC, dI)) (ci := 1) (v := .ref a1_row) (C := RX1) (T := TX1) (N := 4) hx hb hts ui_X1_copyFrom_X1 hown hK hP 1 rfl rfl 0 (by decide) (hts _ uw_X1_copyFrom_f13) (fun _ h9 => h9) rfl (dt_of tkX1_copyFrom_k0 9 rfl) ?_
  refine lv_iconst (v := 0) hx hb (dt_of tkX1_copyFrom_k0 10 rfl) (by decide) ?_
  refine lv_aload_n hx hb (dt_of tkX1_copyFrom_k0 11 rfl) rfl (lv_at hl 0 rfl) ?_
  refine va_get (D := (dC, dI)) (ci := 1) (v := .ref a0_row) (C := RX1) (T := TX1) (N := 4) hx hb hts ui_X1_copyFrom_X1 hown hK hP 0 rfl rfl 0 (by decide) (hts _ uw_X1_copyFrom_f13) (fun _ h9 => h9) rfl (dt_of tkX1_copyFrom_k0 12 rfl) ?_
  refine lv_iconst (v := 0) hx hb (dt_of tkX1_copyFrom_k0 13 rfl) (by decide) ?_
  refine lv_bipush (v := 64) hx hb (dt_of tkX1_copyFrom_k0 14 rfl) (by decide) ?_
  refine va_copyi hx hb (by rw [hml]; exact hl.1.symm) hown (hts _ uw_X1_copyFrom_m45) (hts _ uw_X1_copyFrom_acn) (hts _ uw_X1_copyFrom_acs) (hts _ uw_X1_copyFrom_aci) hK hP hD hS 2 3 1 1 rfl rfl rfl rfl rfl (by decide) (by decide) (by decide) (by decide) (by decide) (fun _ _ => rfl) (Nat.le_of_ble_eq_true rfl) (Nat.le_of_ble_eq_true rfl) (dt_of tkX1_copyFrom_k0 15 rfl) (fun H locs hP hD hS => ?_)
  obtain ⟨f1, ef1⟩ : ∃ y : Nat → Int32, y = va_cpy f1_row f0_row (0 : Int32).toNatClampNeg (0 : Int32).toNatClampNeg (64 : Int32).toNatClampNeg := ⟨_, rfl⟩
  have hw := hw f1 ef1
  have hP : va_P (dC, dI) vwCl (wd00_2 a0 a0_row z0_owedEach a1_down a1_law a1 a1_row z1_owedEach a1_down a1_law a1_row cyI f1_row a0_row cyI f1) H := by rw [ef1]; exact hP
  have hD : va_D A (wd00_2 a0 a0_row z0_owedEach a1_down a1_law a1 a1_row z1_owedEach a1_down a1_law a1_row cyI f1_row a0_row cyI f1) := by rw [ef1]; exact hD
  exact ((W.vret hx hb hr (fun t ht hW => ⟨⟨(f1), rfl, hw, by rw [ht]; exact hP, va_K.moved hW.alike hK, hD⟩, hS.F ht⟩) hS.2.2 (dt_of tkX1_copyFrom_k31 0 rfl)))
set_option maxHeartbeats 4000000 in
set_option maxRecDepth 100000 in
theorem ck_X10_holds (l : Launch) (dC : Nat → ClassId) (dI : Nat → Nat → Nat) (cyB cyI cyJ cyP : ClassId) (sz : Nat)    (p0 : Int32) (p1 : Int32) {Q : Int32 → Prop} (hw : wq_X10_holds   p0 p1 Q) : Met l yX10_holds wsX10_holds ({ frames := 0, cells := 0, slots := 0, locals := 0 }) (va_Pc [.int p0, .int p1] (cPc (dC, dI) (kT cyB cyI cyJ cyP) [] sz)) (va_Qi (fun (r : Int32) (_ : Unit) => Q r ) (cB (dC, dI) (kT cyB cyI cyJ cyP) (va_A [] sz) (fun u : Unit => ([] : va_W))) (va_A [] sz)) 0 0 (va_A [] sz) := by
  refine Met.ofW (cc := cX10_holds) (maxL := 2) (ret := (some .boolean)) (by decide) rfl ?_
  intro p e s m args below meth c s₁ B hml hv
  obtain ⟨rfl, hsz, hP, hK, hD0, hNw⟩ := hv
  have hx := B.exec
  have hb := B.bytes
  have hr := B.returns
  have hts := atoms_spec (ws := wsX10_holds) B.pre
  have hown : s.vm.findClass RX10 = some m.cls := findClass_of_methodNamed B.named
  have hlocks := B.notSynchronized
  subst hsz
  have hD := hD0.self (sz := s.heap.size)
  generalize hAe : va_A [] s.heap.size = A at hD ⊢
  have hA : ∀ q : Nat, s.heap.size ≤ q → A q := fun q h => by rw [← hAe]; exact Or.inr h
  have hS : va_S A s.heap s.heap [] := va_S.rf
  have hP : va_P (dC, dI) vwCl [] s.heap := hP
  have hl := lv_entry ([.int p0, .int p1]) (n := 2) (Nat.le_of_ble_eq_true rfl)
  rw [lg_entry_eq]
  generalize (lg_sl ([.int p0, .int p1]) ++ List.replicate (2 - (lg_sl ([.int p0, .int p1])).length) Slot.unset).toArray = ls at hl ⊢
  have hl : lv_has ls 2 [(0, .int p0), (1, .int p1)] := hl
  have C0 : cfx p s m _ meth c cX10_holds (some .boolean) wsX10_holds RX10 2 A (dC, dI) (kT cyB cyI cyJ cyP) := ⟨hx, hb, hr, hts, hown, hlocks, hml, hA, hK, hNw⟩
  clear hAe
  obtain ⟨H, hH⟩ : ∃ H, H = s.heap := ⟨_, rfl⟩
  rw [← hH] at hP ⊢
  have hS : va_S A s.heap H [] := by rw [hH]; exact va_S.rf
  have hS := hS
  refine lv_iload_n hx hb (dt_of tkX10_holds_k0 0 rfl) rfl (lv_at hl 0 rfl) ?_
  refine lv_iload_n hx hb (dt_of tkX10_holds_k0 1 rfl) rfl (lv_at hl 1 rfl) ?_
  refine lv_ishr hx hb (dt_of tkX10_holds_k0 2 rfl) ?_
  refine lv_iconst (v := 1) hx hb (dt_of tkX10_holds_k0 3 rfl) (by decide) ?_
  refine lv_iand hx hb (dt_of tkX10_holds_k0 4 rfl) ?_
  refine lv_iconst (v := 1) hx hb (dt_of tkX10_holds_k0 5 rfl) (by decide) ?_
  refine lv_icmp_ne (tgt := 13) hx hb (dt_of tkX10_holds_k0 6 rfl) (by decide) (fun c1 => ?_) (fun c1 => ?_)
  · have hw := hw.1 c1
    refine lv_iconst (v := 0) hx hb (dt_of tkX10_holds_k0 9 rfl) (by decide) ?_
    exact ((W.zret (v := 0) hx hb hr rfl (fun t ht hW => ⟨⟨0, (), rfl, hw, by rw [ht]; exact hP, va_K.moved hW.alike hK, hD⟩, hS.F ht⟩) hS.2.2 (dt_of tkX10_holds_k0 10 rfl)))
  · have hw := hw.2 c1
    refine lv_iconst (v := 1) hx hb (dt_of tkX10_holds_k0 7 rfl) (by decide) ?_
    refine lv_goto (tgt := 14) hx hb (dt_of tkX10_holds_k0 8 rfl) (by decide) ?_
    exact ((W.zret (v := 1) hx hb hr rfl (fun t ht hW => ⟨⟨1, (), rfl, hw, by rw [ht]; exact hP, va_K.moved hW.alike hK, hD⟩, hS.F ht⟩) hS.2.2 (dt_of tkX10_holds_k0 10 rfl)))
theorem ui_X1_isCaught_X1 : ∀ w ∈ u_ws RX1 TX1 4, w ∈ wsX1_isCaught := uiM mbX1_isCaught euX1 (by decide +kernel)
theorem uw_X1_isCaught_f13 : (.fieldLink RX1 13 "MarchHares$Days" "row" "[I" : Cond) ∈ wsX1_isCaught := mbX1_isCaught 276 (by decide +kernel)
set_option maxHeartbeats 4000000 in
set_option maxRecDepth 100000 in
theorem ck_X1_isCaught (l : Launch) (dC : Nat → ClassId) (dI : Nat → Nat → Nat) (cyB cyI cyJ cyP : ClassId) (a0 a0_row : Nat) (sz : Nat) (z0_owedEach : Value) (z0_down : Value) (z0_law : Value) (f0_row : Nat → Int32)  (p1 : Int32) {Q : Int32 → Prop} (hw : wq_X1_isCaught f0_row  p1 Q) : Met l yX1_isCaught wsX1_isCaught ({ frames := 0, cells := 0, slots := 0, locals := 0 }) (va_Pc [.ref a0, .int p1] (cPc (dC, dI) (kT cyB cyI cyJ cyP) (wd00_4 a0 a0_row z0_owedEach z0_down z0_law a0_row cyI f0_row) sz)) (va_Qi (fun (r : Int32) (_ : Unit) => Q r ) (cB (dC, dI) (kT cyB cyI cyJ cyP) (va_A (wd00_4 a0 a0_row z0_owedEach z0_down z0_law a0_row cyI f0_row) sz) (fun u : Unit => ((wd00_4 a0 a0_row z0_owedEach z0_down z0_law a0_row cyI f0_row) : va_W))) (va_A (wd00_4 a0 a0_row z0_owedEach z0_down z0_law a0_row cyI f0_row) sz)) 0 0 (va_A (wd00_4 a0 a0_row z0_owedEach z0_down z0_law a0_row cyI f0_row) sz) := by
  refine Met.ofW (cc := cX1_isCaught) (maxL := 2) (ret := (some .boolean)) (by decide) rfl ?_
  intro p e s m args below meth c s₁ B hml hv
  obtain ⟨rfl, hsz, hP, hK, hD0, hNw⟩ := hv
  have hx := B.exec
  have hb := B.bytes
  have hr := B.returns
  have hts := atoms_spec (ws := wsX1_isCaught) B.pre
  have hown : s.vm.findClass RX1 = some m.cls := findClass_of_methodNamed B.named
  have hlocks := B.notSynchronized
  subst hsz
  have hD := hD0.self (sz := s.heap.size)
  generalize hAe : va_A (wd00_4 a0 a0_row z0_owedEach z0_down z0_law a0_row cyI f0_row) s.heap.size = A at hD ⊢
  have hA : ∀ q : Nat, s.heap.size ≤ q → A q := fun q h => by rw [← hAe]; exact Or.inr h
  have hS : va_S A s.heap s.heap [] := va_S.rf
  have hP : va_P (dC, dI) vwCl (wd00_4 a0 a0_row z0_owedEach z0_down z0_law a0_row cyI f0_row) s.heap := hP
  have hl := lv_entry ([.ref a0, .int p1]) (n := 2) (Nat.le_of_ble_eq_true rfl)
  rw [lg_entry_eq]
  generalize (lg_sl ([.ref a0, .int p1]) ++ List.replicate (2 - (lg_sl ([.ref a0, .int p1])).length) Slot.unset).toArray = ls at hl ⊢
  have hl : lv_has ls 2 [(0, .ref a0), (1, .int p1)] := hl
  have C0 : cfx p s m _ meth c cX1_isCaught (some .boolean) wsX1_isCaught RX1 2 A (dC, dI) (kT cyB cyI cyJ cyP) := ⟨hx, hb, hr, hts, hown, hlocks, hml, hA, hK, hNw⟩
  clear hAe
  obtain ⟨H, hH⟩ : ∃ H, H = s.heap := ⟨_, rfl⟩
  rw [← hH] at hP ⊢
  have hS : va_S A s.heap H [] := by rw [hH]; exact va_S.rf
  have hS := hS
  refine lv_aload_n hx hb (dt_of tkX1_isCaught_k0 0 rfl) rfl (lv_at hl 0 rfl) ?_
  refine va_get (D := (dC, dI)) (ci := 1) (v := .ref a0_row) (C := RX1) (T := TX1) (N := 4) hx hb hts ui_X1_isCaught_X1 hown hK hP 0 rfl rfl 0 (by decide) (hts _ uw_X1_isCaught_f13) (fun _ h9 => h9) rfl (dt_of tkX1_isCaught_k0 1 rfl) ?_
  refine lv_iconst (v := 2) hx hb (dt_of tkX1_isCaught_k0 2 rfl) (by decide) ?_
  refine va_iald hx hb hK hP 1 1 rfl rfl (vin (by decide)) (dt_of tkX1_isCaught_k0 3 rfl) ?_
  refine lv_topi (fun x1 ex1 => ?_)
  have hw := hw x1 ex1
  refine lv_iload_n hx hb (dt_of tkX1_isCaught_k0 4 rfl) rfl (lv_at hl 1 rfl) ?_
  refine lv_ishr hx hb (dt_of tkX1_isCaught_k0 5 rfl) ?_
  refine lv_iconst (v := 1) hx hb (dt_of tkX1_isCaught_k0 6 rfl) (by decide) ?_
  refine lv_iand hx hb (dt_of tkX1_isCaught_k0 7 rfl) ?_
  refine lv_iconst (v := 1) hx hb (dt_of tkX1_isCaught_k0 8 rfl) (by decide) ?_
  refine lv_icmp_ne (tgt := 18) hx hb (dt_of tkX1_isCaught_k0 9 rfl) (by decide) (fun c2 => ?_) (fun c2 => ?_)
  · have hw := hw.1 c2
    refine lv_iconst (v := 0) hx hb (dt_of tkX1_isCaught_k0 12 rfl) (by decide) ?_
    exact ((W.zret (v := 0) hx hb hr rfl (fun t ht hW => ⟨⟨0, (), rfl, hw, by rw [ht]; exact hP, va_K.moved hW.alike hK, hD⟩, hS.F ht⟩) hS.2.2 (dt_of tkX1_isCaught_k0 13 rfl)))
  · have hw := hw.2 c2
    refine lv_iconst (v := 1) hx hb (dt_of tkX1_isCaught_k0 10 rfl) (by decide) ?_
    refine lv_goto (tgt := 19) hx hb (dt_of tkX1_isCaught_k0 11 rfl) (by decide) ?_
    exact ((W.zret (v := 1) hx hb hr rfl (fun t ht hW => ⟨⟨1, (), rfl, hw, by rw [ht]; exact hP, va_K.moved hW.alike hK, hD⟩, hS.F ht⟩) hS.2.2 (dt_of tkX1_isCaught_k0 13 rfl)))
theorem ui_X1_sits_X1 : ∀ w ∈ u_ws RX1 TX1 4, w ∈ wsX1_sits := uiM mbX1_sits euX1 (by decide +kernel)
theorem uw_X1_sits_f13 : (.fieldLink RX1 13 "MarchHares$Days" "row" "[I" : Cond) ∈ wsX1_sits := mbX1_sits 276 (by decide +kernel)
set_option maxHeartbeats 4000000 in
set_option maxRecDepth 100000 in
theorem ck_X1_sits (l : Launch) (dC : Nat → ClassId) (dI : Nat → Nat → Nat) (cyB cyI cyJ cyP : ClassId) (a0 a0_row : Nat) (sz : Nat) (z0_owedEach : Value) (z0_down : Value) (z0_law : Value) (f0_row : Nat → Int32)  (p1 : Int32) {Q : Int32 → Prop} (hw : wq_X1_sits f0_row  p1 Q) : Met l yX1_sits wsX1_sits ({ frames := 0, cells := 0, slots := 0, locals := 0 }) (va_Pc [.ref a0, .int p1] (cPc (dC, dI) (kT cyB cyI cyJ cyP) (wd00_4 a0 a0_row z0_owedEach z0_down z0_law a0_row cyI f0_row) sz)) (va_Qi (fun (r : Int32) (_ : Unit) => Q r ) (cB (dC, dI) (kT cyB cyI cyJ cyP) (va_A (wd00_4 a0 a0_row z0_owedEach z0_down z0_law a0_row cyI f0_row) sz) (fun u : Unit => ((wd00_4 a0 a0_row z0_owedEach z0_down z0_law a0_row cyI f0_row) : va_W))) (va_A (wd00_4 a0 a0_row z0_owedEach z0_down z0_law a0_row cyI f0_row) sz)) 0 0 (va_A (wd00_4 a0 a0_row z0_owedEach z0_down z0_law a0_row cyI f0_row) sz) := by
  refine Met.ofW (cc := cX1_sits) (maxL := 2) (ret := (some .int)) (by decide) rfl ?_
  intro p e s m args below meth c s₁ B hml hv
  obtain ⟨rfl, hsz, hP, hK, hD0, hNw⟩ := hv
  have hx := B.exec
  have hb := B.bytes
  have hr := B.returns
  have hts := atoms_spec (ws := wsX1_sits) B.pre
  have hown : s.vm.findClass RX1 = some m.cls := findClass_of_methodNamed B.named
  have hlocks := B.notSynchronized
  subst hsz
  have hD := hD0.self (sz := s.heap.size)
  generalize hAe : va_A (wd00_4 a0 a0_row z0_owedEach z0_down z0_law a0_row cyI f0_row) s.heap.size = A at hD ⊢
  have hA : ∀ q : Nat, s.heap.size ≤ q → A q := fun q h => by rw [← hAe]; exact Or.inr h
  have hS : va_S A s.heap s.heap [] := va_S.rf
  have hP : va_P (dC, dI) vwCl (wd00_4 a0 a0_row z0_owedEach z0_down z0_law a0_row cyI f0_row) s.heap := hP
  have hl := lv_entry ([.ref a0, .int p1]) (n := 2) (Nat.le_of_ble_eq_true rfl)
  rw [lg_entry_eq]
  generalize (lg_sl ([.ref a0, .int p1]) ++ List.replicate (2 - (lg_sl ([.ref a0, .int p1])).length) Slot.unset).toArray = ls at hl ⊢
  have hl : lv_has ls 2 [(0, .ref a0), (1, .int p1)] := hl
  have C0 : cfx p s m _ meth c cX1_sits (some .int) wsX1_sits RX1 2 A (dC, dI) (kT cyB cyI cyJ cyP) := ⟨hx, hb, hr, hts, hown, hlocks, hml, hA, hK, hNw⟩
  clear hAe
  obtain ⟨H, hH⟩ : ∃ H, H = s.heap := ⟨_, rfl⟩
  rw [← hH] at hP ⊢
  have hS : va_S A s.heap H [] := by rw [hH]; exact va_S.rf
  have hS := hS
  refine lv_aload_n hx hb (dt_of tkX1_sits_k0 0 rfl) rfl (lv_at hl 0 rfl) ?_
  refine va_get (D := (dC, dI)) (ci := 1) (v := .ref a0_row) (C := RX1) (T := TX1) (N := 4) hx hb hts ui_X1_sits_X1 hown hK hP 0 rfl rfl 0 (by decide) (hts _ uw_X1_sits_f13) (fun _ h9 => h9) rfl (dt_of tkX1_sits_k0 1 rfl) ?_
  refine lv_iconst (v := 4) hx hb (dt_of tkX1_sits_k0 2 rfl) (by decide) ?_
  refine lv_iload_n hx hb (dt_of tkX1_sits_k0 3 rfl) rfl (lv_at hl 1 rfl) ?_
  refine lv_iadd hx hb (dt_of tkX1_sits_k0 4 rfl) ?_
  refine lv_topi (fun x1 ex1 => ?_)
  have hw := hw x1 ex1
  obtain ⟨hi9, hw⟩ := hw
  refine va_iald hx hb hK hP 1 1 rfl rfl hi9 (dt_of tkX1_sits_k0 5 rfl) ?_
  refine lv_topi (fun x2 ex2 => ?_)
  have hw := hw x2 ex2
  exact ((W.iret (v := x2) hx hb hr (fun t ht hW => ⟨⟨x2, (), rfl, hw, by rw [ht]; exact hP, va_K.moved hW.alike hK, hD⟩, hS.F ht⟩) hS.2.2 (dt_of tkX1_sits_k0 6 rfl)))
theorem ui_X2_isSafe_X2 : ∀ w ∈ u_ws RX2 TX2 12, w ∈ wsX2_isSafe := uiM mbX2_isSafe euX2 (by decide +kernel)
theorem uw_X2_isSafe_f101 : (.fieldLink RX2 101 "MarchHares$Down" "safe" "I" : Cond) ∈ wsX2_isSafe := mbX2_isSafe 1047 (by decide +kernel)
theorem uw_X2_isSafe_iniRX10 : (.initialized RX10 : Cond) ∈ wsX2_isSafe := mbX2_isSafe 2 (by decide +kernel)
theorem uw_X2_isSafe_stX10_holds : (.static yX10_holds : Cond) ∈ wsX2_isSafe := mbX2_isSafe 2052 (by decide +kernel)
set_option maxHeartbeats 4000000 in
set_option maxRecDepth 100000 in
theorem ck_X2_isSafe (l : Launch) (dC : Nat → ClassId) (dI : Nat → Nat → Nat) (cyB cyI cyJ cyP : ClassId) (a0 : Nat) (sz : Nat) (z0_formX : Value) (z0_formY : Value) (z0_foxX : Value) (z0_foxY : Value) (z0_seat : Value) (z0_strength : Value) (z0_debts : Value) (z0_near : Value) (z0_forms : Value) (z0_hares : Value) (z0_foxes : Value) (v0_safe : Int32)  (p1 : Int32) {Q : Int32 → Prop} (hw : wq_X2_isSafe v0_safe  p1 Q) : Met l yX2_isSafe wsX2_isSafe ({ frames := 1, cells := 0, slots := 0, locals := 21 }) (va_Pc [.ref a0, .int p1] (cPc (dC, dI) (kT cyB cyI cyJ cyP) (wd00_5 a0 z0_formX z0_formY z0_foxX z0_foxY z0_seat z0_strength z0_debts z0_near z0_forms z0_hares z0_foxes v0_safe) sz)) (va_Qi (fun (r : Int32) (_ : Unit) => Q r ) (cB (dC, dI) (kT cyB cyI cyJ cyP) (va_A (wd00_5 a0 z0_formX z0_formY z0_foxX z0_foxY z0_seat z0_strength z0_debts z0_near z0_forms z0_hares z0_foxes v0_safe) sz) (fun u : Unit => ((wd00_5 a0 z0_formX z0_formY z0_foxX z0_foxY z0_seat z0_strength z0_debts z0_near z0_forms z0_hares z0_foxes v0_safe) : va_W))) (va_A (wd00_5 a0 z0_formX z0_formY z0_foxX z0_foxY z0_seat z0_strength z0_debts z0_near z0_forms z0_hares z0_foxes v0_safe) sz)) 0 0 (va_A (wd00_5 a0 z0_formX z0_formY z0_foxX z0_foxY z0_seat z0_strength z0_debts z0_near z0_forms z0_hares z0_foxes v0_safe) sz) := by
  refine Met.ofW (cc := cX2_isSafe) (maxL := 2) (ret := (some .boolean)) (by decide) rfl ?_
  intro p e s m args below meth c s₁ B hml hv
  obtain ⟨rfl, hsz, hP, hK, hD0, hNw⟩ := hv
  have hx := B.exec
  have hb := B.bytes
  have hr := B.returns
  have hts := atoms_spec (ws := wsX2_isSafe) B.pre
  have hown : s.vm.findClass RX2 = some m.cls := findClass_of_methodNamed B.named
  have hlocks := B.notSynchronized
  subst hsz
  have hD := hD0.self (sz := s.heap.size)
  generalize hAe : va_A (wd00_5 a0 z0_formX z0_formY z0_foxX z0_foxY z0_seat z0_strength z0_debts z0_near z0_forms z0_hares z0_foxes v0_safe) s.heap.size = A at hD ⊢
  have hA : ∀ q : Nat, s.heap.size ≤ q → A q := fun q h => by rw [← hAe]; exact Or.inr h
  have hS : va_S A s.heap s.heap [] := va_S.rf
  have hP : va_P (dC, dI) vwCl (wd00_5 a0 z0_formX z0_formY z0_foxX z0_foxY z0_seat z0_strength z0_debts z0_near z0_forms z0_hares z0_foxes v0_safe) s.heap := hP
  have hl := lv_entry ([.ref a0, .int p1]) (n := 2) (Nat.le_of_ble_eq_true rfl)
  rw [lg_entry_eq]
  generalize (lg_sl ([.ref a0, .int p1]) ++ List.replicate (2 - (lg_sl ([.ref a0, .int p1])).length) Slot.unset).toArray = ls at hl ⊢
  have hl : lv_has ls 2 [(0, .ref a0), (1, .int p1)] := hl
  have C0 : cfx p s m _ meth c cX2_isSafe (some .boolean) wsX2_isSafe RX2 2 A (dC, dI) (kT cyB cyI cyJ cyP) := ⟨hx, hb, hr, hts, hown, hlocks, hml, hA, hK, hNw⟩
  clear hAe
  obtain ⟨H, hH⟩ : ∃ H, H = s.heap := ⟨_, rfl⟩
  rw [← hH] at hP ⊢
  have hS : va_S A s.heap H [] := by rw [hH]; exact va_S.rf
  have hS := hS
  refine lv_aload_n hx hb (dt_of tkX2_isSafe_k0 0 rfl) rfl (lv_at hl 0 rfl) ?_
  refine va_get (D := (dC, dI)) (ci := 2) (v := .int v0_safe) (C := RX2) (T := TX2) (N := 12) hx hb hts ui_X2_isSafe_X2 hown hK hP 0 rfl rfl 11 (by decide) (hts _ uw_X2_isSafe_f101) (fun _ h9 => h9) rfl (dt_of tkX2_isSafe_k0 1 rfl) ?_
  refine lv_iload_n hx hb (dt_of tkX2_isSafe_k0 2 rfl) rfl (lv_at hl 1 rfl) ?_
  obtain ⟨hCc, hPc, hDc, hFc⟩ := va_pick (ws' := []) hP hD hS hA [] (by decide +kernel) rfl
  refine va_calli (va_runSN (As := [.int v0_safe, .int p1]) (rest := []) ⟨hx, hb, hml, hown, hts⟩ (ck_X10_holds l dC dI cyB cyI cyJ cyP  H.size    v0_safe p1 hw) ⟨(va_cnB 2 hts gX2_isSafe_X10_holds_n114 rfl rfl rfl (nw_10 hNw) (hts _ uw_X2_isSafe_iniRX10) (by decide +kernel) ⟨Nat.le_of_ble_eq_true rfl, Nat.le_of_ble_eq_true rfl⟩), (hts _ uw_X2_isSafe_stX10_holds), trivial⟩ ⟨cPc_blind, cPc_pre hPc hK hDc hNw⟩ rfl rfl hl.1 rfl (lv_room (Nat.le_of_ble_eq_true rfl)) (dt_of tkX2_isSafe_k0 3 rfl) ⟨Nat.le_of_ble_eq_true rfl, Nat.le_of_ble_eq_true rfl⟩) hS (fun q _ h => hFc q h) hFc (fun r1 u t H1 locs ht hvm hw hB hz1 hk1 hS => ?_)
  obtain ⟨hP1, hK1, hD1⟩ := hB
  rw [ht] at hP1
  obtain ⟨hP, hD⟩ := va_joinI (wr := (wd00_5 a0 z0_formX z0_formY z0_foxX z0_foxY z0_seat z0_strength z0_debts z0_near z0_forms z0_hares z0_foxes v0_safe)) (w1 := []) (wn := (wd00_5 a0 z0_formX z0_formY z0_foxX z0_foxY z0_seat z0_strength z0_debts z0_near z0_forms z0_hares z0_foxes v0_safe)) hP hD [] [0] hCc rfl (by decide +kernel) (by decide +kernel) rfl hk1 hFc hP1 hD1
  generalize H1 = H at hP hS ⊢
  obtain ⟨hn9, hw⟩ := hw
  exact ((W.zret (v := r1) hx hb hr hn9 (fun t ht hW => ⟨⟨r1, (), rfl, hw, by rw [ht]; exact hP, va_K.moved hW.alike hK, hD⟩, hS.F ht⟩) hS.2.2 (dt_of tkX2_isSafe_k0 4 rfl)))
theorem ui_X1_still_X1 : ∀ w ∈ u_ws RX1 TX1 4, w ∈ wsX1_still := uiM mbX1_still euX1 (by decide +kernel)
theorem uw_X1_still_f13 : (.fieldLink RX1 13 "MarchHares$Days" "row" "[I" : Cond) ∈ wsX1_still := mbX1_still 276 (by decide +kernel)
set_option maxHeartbeats 4000000 in
set_option maxRecDepth 100000 in
theorem ck_X1_still (l : Launch) (dC : Nat → ClassId) (dI : Nat → Nat → Nat) (cyB cyI cyJ cyP : ClassId) (a0 a0_row : Nat) (sz : Nat) (z0_owedEach : Value) (z0_down : Value) (z0_law : Value) (f0_row : Nat → Int32)  (p1 : Int32) {Q : Int32 → Prop} (hw : wq_X1_still f0_row  p1 Q) : Met l yX1_still wsX1_still ({ frames := 0, cells := 0, slots := 0, locals := 0 }) (va_Pc [.ref a0, .int p1] (cPc (dC, dI) (kT cyB cyI cyJ cyP) (wd00_4 a0 a0_row z0_owedEach z0_down z0_law a0_row cyI f0_row) sz)) (va_Qi (fun (r : Int32) (_ : Unit) => Q r ) (cB (dC, dI) (kT cyB cyI cyJ cyP) (va_A (wd00_4 a0 a0_row z0_owedEach z0_down z0_law a0_row cyI f0_row) sz) (fun u : Unit => ((wd00_4 a0 a0_row z0_owedEach z0_down z0_law a0_row cyI f0_row) : va_W))) (va_A (wd00_4 a0 a0_row z0_owedEach z0_down z0_law a0_row cyI f0_row) sz)) 0 0 (va_A (wd00_4 a0 a0_row z0_owedEach z0_down z0_law a0_row cyI f0_row) sz) := by
  refine Met.ofW (cc := cX1_still) (maxL := 2) (ret := (some .int)) (by decide) rfl ?_
  intro p e s m args below meth c s₁ B hml hv
  obtain ⟨rfl, hsz, hP, hK, hD0, hNw⟩ := hv
  have hx := B.exec
  have hb := B.bytes
  have hr := B.returns
  have hts := atoms_spec (ws := wsX1_still) B.pre
  have hown : s.vm.findClass RX1 = some m.cls := findClass_of_methodNamed B.named
  have hlocks := B.notSynchronized
  subst hsz
  have hD := hD0.self (sz := s.heap.size)
  generalize hAe : va_A (wd00_4 a0 a0_row z0_owedEach z0_down z0_law a0_row cyI f0_row) s.heap.size = A at hD ⊢
  have hA : ∀ q : Nat, s.heap.size ≤ q → A q := fun q h => by rw [← hAe]; exact Or.inr h
  have hS : va_S A s.heap s.heap [] := va_S.rf
  have hP : va_P (dC, dI) vwCl (wd00_4 a0 a0_row z0_owedEach z0_down z0_law a0_row cyI f0_row) s.heap := hP
  have hl := lv_entry ([.ref a0, .int p1]) (n := 2) (Nat.le_of_ble_eq_true rfl)
  rw [lg_entry_eq]
  generalize (lg_sl ([.ref a0, .int p1]) ++ List.replicate (2 - (lg_sl ([.ref a0, .int p1])).length) Slot.unset).toArray = ls at hl ⊢
  have hl : lv_has ls 2 [(0, .ref a0), (1, .int p1)] := hl
  have C0 : cfx p s m _ meth c cX1_still (some .int) wsX1_still RX1 2 A (dC, dI) (kT cyB cyI cyJ cyP) := ⟨hx, hb, hr, hts, hown, hlocks, hml, hA, hK, hNw⟩
  clear hAe
  obtain ⟨H, hH⟩ : ∃ H, H = s.heap := ⟨_, rfl⟩
  rw [← hH] at hP ⊢
  have hS : va_S A s.heap H [] := by rw [hH]; exact va_S.rf
  have hS := hS
  refine lv_aload_n hx hb (dt_of tkX1_still_k0 0 rfl) rfl (lv_at hl 0 rfl) ?_
  refine va_get (D := (dC, dI)) (ci := 1) (v := .ref a0_row) (C := RX1) (T := TX1) (N := 4) hx hb hts ui_X1_still_X1 hown hK hP 0 rfl rfl 0 (by decide) (hts _ uw_X1_still_f13) (fun _ h9 => h9) rfl (dt_of tkX1_still_k0 1 rfl) ?_
  refine lv_bipush (v := 16) hx hb (dt_of tkX1_still_k0 2 rfl) (by decide) ?_
  refine lv_iload_n hx hb (dt_of tkX1_still_k0 3 rfl) rfl (lv_at hl 1 rfl) ?_
  refine lv_iadd hx hb (dt_of tkX1_still_k0 4 rfl) ?_
  refine lv_topi (fun x1 ex1 => ?_)
  have hw := hw x1 ex1
  obtain ⟨hi9, hw⟩ := hw
  refine va_iald hx hb hK hP 1 1 rfl rfl hi9 (dt_of tkX1_still_k0 5 rfl) ?_
  refine lv_topi (fun x2 ex2 => ?_)
  have hw := hw x2 ex2
  exact ((W.iret (v := x2) hx hb hr (fun t ht hW => ⟨⟨x2, (), rfl, hw, by rw [ht]; exact hP, va_K.moved hW.alike hK, hD⟩, hS.F ht⟩) hS.2.2 (dt_of tkX1_still_k0 6 rfl)))
theorem ui_X1_endangered_X1 : ∀ w ∈ u_ws RX1 TX1 4, w ∈ wsX1_endangered := uiM mbX1_endangered euX1 (by decide +kernel)
theorem ui_X1_endangered_X2 : ∀ w ∈ u_ws RX2 TX2 12, w ∈ wsX1_endangered := uiM mbX1_endangered euX2 (by decide +kernel)
theorem uw_X1_endangered_f24 : (.fieldLink RX1 24 "MarchHares$Days" "down" "LMarchHares$Down;" : Cond) ∈ wsX1_endangered := mbX1_endangered 322 (by decide +kernel)
theorem uw_X1_endangered_f32 : (.fieldLink RX1 32 "MarchHares$Down" "hares" "I" : Cond) ∈ wsX1_endangered := mbX1_endangered 324 (by decide +kernel)
set_option maxHeartbeats 4000000 in
set_option maxRecDepth 100000 in
theorem kb_X1_endangered_53 {p : Program} {l : Launch} {e : Env} {s : State} {m : MethodId} {args : Array Value} {below : List Frame} {meth : Method} {c : Code} {A : Nat → Prop} (dC : Nat → ClassId) (dI : Nat → Nat → Nat) (cyB cyI cyJ cyP : ClassId) (a0 a0_down a0_row : Nat) (z0_owedEach : Value) (z0_law : Value) (z0_down_formX : Value) (z0_down_formY : Value) (z0_down_foxX : Value) (z0_down_foxY : Value) (z0_down_seat : Value) (z0_down_strength : Value) (z0_down_debts : Value) (z0_down_near : Value) (z0_down_forms : Value) (z0_down_foxes : Value) (v0_down_hares : Int32) (v0_down_safe : Int32) (f0_row : Nat → Int32) (Q : Int32 → Prop) (K4 : Int32 → Int32 → Prop) (hK4 : ∀ (H : Heap) (locs : List Loc) (ls : Array Slot) (l1 : Int32) (l2 : Int32), va_P (dC, dI) vwCl (wd00_6 a0 a0_row z0_owedEach a0_down z0_law a0_down z0_down_formX z0_down_formY z0_down_foxX z0_down_foxY z0_down_seat z0_down_strength z0_down_debts z0_down_near z0_down_forms v0_down_hares z0_down_foxes v0_down_safe a0_row cyI f0_row) H → va_D A (wd00_6 a0 a0_row z0_owedEach a0_down z0_law a0_down z0_down_formX z0_down_formY z0_down_foxX z0_down_foxY z0_down_seat z0_down_strength z0_down_debts z0_down_near z0_down_forms v0_down_hares z0_down_foxes v0_down_safe a0_row cyI f0_row) → va_S A s.heap H locs → lv_has ls 3 [(0, .ref a0), (1, .int l1), (2, .int l2)] → K4 l1 l2 → W p l e (headSpec wsX1_endangered ({ frames := 2, cells := 0, slots := 0, locals := 42 })).room s m args below meth c H locs 0 0 (MQ below (va_Qi (fun (r : Int32) (_ : Unit) => Q r ) (cB (dC, dI) (kT cyB cyI cyJ cyP) A (fun u : Unit => ((wd00_6 a0 a0_row z0_owedEach a0_down z0_law a0_down z0_down_formX z0_down_formY z0_down_foxX z0_down_foxY z0_down_seat z0_down_strength z0_down_debts z0_down_near z0_down_forms v0_down_hares z0_down_foxes v0_down_safe a0_row cyI f0_row) : va_W))) A) args s 0 0 A) (F0 m 4 ls [])) (C0 : cfx p s m args meth c cX1_endangered (some .int) wsX1_endangered RX1 3 A (dC, dI) (kT cyB cyI cyJ cyP)) : ∀ (H : Heap) (locs : List Loc) (ls : Array Slot) (l1 : Int32) (l2 : Int32), va_P (dC, dI) vwCl (wd00_6 a0 a0_row z0_owedEach a0_down z0_law a0_down z0_down_formX z0_down_formY z0_down_foxX z0_down_foxY z0_down_seat z0_down_strength z0_down_debts z0_down_near z0_down_forms v0_down_hares z0_down_foxes v0_down_safe a0_row cyI f0_row) H → va_D A (wd00_6 a0 a0_row z0_owedEach a0_down z0_law a0_down z0_down_formX z0_down_formY z0_down_foxX z0_down_foxY z0_down_seat z0_down_strength z0_down_debts z0_down_near z0_down_forms v0_down_hares z0_down_foxes v0_down_safe a0_row cyI f0_row) → va_S A s.heap H locs → lv_has ls 3 [(0, .ref a0), (1, .int l1), (2, .int l2)] → wb_X1_endangered_53 v0_down_hares v0_down_safe f0_row Q K4 l1 l2 → W p l e (headSpec wsX1_endangered ({ frames := 2, cells := 0, slots := 0, locals := 42 })).room s m args below meth c H locs 0 0 (MQ below (va_Qi (fun (r : Int32) (_ : Unit) => Q r ) (cB (dC, dI) (kT cyB cyI cyJ cyP) A (fun u : Unit => ((wd00_6 a0 a0_row z0_owedEach a0_down z0_law a0_down z0_down_formX z0_down_formY z0_down_foxX z0_down_foxY z0_down_seat z0_down_strength z0_down_debts z0_down_near z0_down_forms v0_down_hares z0_down_foxes v0_down_safe a0_row cyI f0_row) : va_W))) A) args s 0 0 A) (F0 m 53 ls []) := by
  obtain ⟨hx, hb, hr, hts, hown, hlocks, hml, hA, hK, hNw⟩ := id C0
  intro H locs ls l1 l2 hP hD hS hl hw
  obtain ⟨x10, ex10⟩ : ∃ y : Int32, y = l2 + 1 := ⟨_, rfl⟩
  have hw := hw x10 ex10
  refine lv_iinc (v := x10) (lv' := [(2, .int x10), (0, .ref a0), (1, .int l1)]) hx hb (dt_of tkX1_endangered_k28 15 rfl) hl (k := 2) rfl (by rw [ex10]; rfl) (by decide) rfl (fun ls hl => ?_)
  refine lv_goto (tgt := 4) hx hb (dt_of tkX1_endangered_k56 0 rfl) (by decide) ?_
  exact hK4 _ _ _ l1 x10 hP hD hS (lv_sub hl [1, 2, 0] rfl) hw
set_option maxHeartbeats 4000000 in
set_option maxRecDepth 100000 in
theorem kl_X1_endangered_4 {p : Program} {l : Launch} {e : Env} {s : State} {m : MethodId} {args : Array Value} {below : List Frame} {meth : Method} {c : Code} {A : Nat → Prop} (dC : Nat → ClassId) (dI : Nat → Nat → Nat) (cyB cyI cyJ cyP : ClassId) (a0 a0_down a0_row : Nat) (z0_owedEach : Value) (z0_law : Value) (z0_down_formX : Value) (z0_down_formY : Value) (z0_down_foxX : Value) (z0_down_foxY : Value) (z0_down_seat : Value) (z0_down_strength : Value) (z0_down_debts : Value) (z0_down_near : Value) (z0_down_forms : Value) (z0_down_foxes : Value) (v0_down_hares : Int32) (v0_down_safe : Int32) (f0_row : Nat → Int32) (Q : Int32 → Prop)  (C0 : cfx p s m args meth c cX1_endangered (some .int) wsX1_endangered RX1 3 A (dC, dI) (kT cyB cyI cyJ cyP)) : ∀ (n : Nat) (H : Heap) (locs : List Loc) (ls : Array Slot) (l1 : Int32) (l2 : Int32), va_P (dC, dI) vwCl (wd00_6 a0 a0_row z0_owedEach a0_down z0_law a0_down z0_down_formX z0_down_formY z0_down_foxX z0_down_foxY z0_down_seat z0_down_strength z0_down_debts z0_down_near z0_down_forms v0_down_hares z0_down_foxes v0_down_safe a0_row cyI f0_row) H → va_D A (wd00_6 a0 a0_row z0_owedEach a0_down z0_law a0_down z0_down_formX z0_down_formY z0_down_foxX z0_down_foxY z0_down_seat z0_down_strength z0_down_debts z0_down_near z0_down_forms v0_down_hares z0_down_foxes v0_down_safe a0_row cyI f0_row) → va_S A s.heap H locs → lv_has ls 3 [(0, .ref a0), (1, .int l1), (2, .int l2)] → wl_X1_endangered_4 v0_down_hares v0_down_safe f0_row Q  n l1 l2 → W p l e (headSpec wsX1_endangered ({ frames := 2, cells := 0, slots := 0, locals := 42 })).room s m args below meth c H locs 0 0 (MQ below (va_Qi (fun (r : Int32) (_ : Unit) => Q r ) (cB (dC, dI) (kT cyB cyI cyJ cyP) A (fun u : Unit => ((wd00_6 a0 a0_row z0_owedEach a0_down z0_law a0_down z0_down_formX z0_down_formY z0_down_foxX z0_down_foxY z0_down_seat z0_down_strength z0_down_debts z0_down_near z0_down_forms v0_down_hares z0_down_foxes v0_down_safe a0_row cyI f0_row) : va_W))) A) args s 0 0 A) (F0 m 4 ls []) := by
  obtain ⟨hx, hb, hr, hts, hown, hlocks, hml, hA, hK, hNw⟩ := id C0
  intro n
  induction n with
  | zero => intro H locs ls l1 l2 hP hD hS hl hw; exact False.elim hw
  | succ n ih =>
    intro H locs ls l1 l2 hP hD hS hl hw
    refine lv_iload_n hx hb (dt_of tkX1_endangered_k0 4 rfl) rfl (lv_at hl 2 rfl) ?_
    refine lv_aload_n hx hb (dt_of tkX1_endangered_k0 5 rfl) rfl (lv_at hl 0 rfl) ?_
    refine va_get (D := (dC, dI)) (ci := 1) (v := .ref a0_down) (C := RX1) (T := TX1) (N := 4) hx hb hts ui_X1_endangered_X1 hown hK hP 0 rfl rfl 2 (by decide) (hts _ uw_X1_endangered_f24) (fun _ h9 => h9) rfl (dt_of tkX1_endangered_k0 6 rfl) ?_
    refine va_get (D := (dC, dI)) (ci := 2) (v := .int v0_down_hares) (C := RX2) (T := TX2) (N := 12) hx hb hts ui_X1_endangered_X2 hown hK hP 1 rfl rfl 9 (by decide) (hts _ uw_X1_endangered_f32) (fun _ h9 => h9) rfl (dt_of tkX1_endangered_k0 7 rfl) ?_
    refine lv_icmp_ge (tgt := 59) hx hb (dt_of tkX1_endangered_k0 8 rfl) (by decide) (fun c1 => ?_) (fun c1 => ?_)
    · have hw := hw.1 c1
      refine lv_iload_n hx hb (dt_of tkX1_endangered_k56 1 rfl) rfl (lv_at hl 1 rfl) ?_
      exact ((W.iret (v := l1) hx hb hr (fun t ht hW => ⟨⟨l1, (), rfl, hw, by rw [ht]; exact hP, va_K.moved hW.alike hK, hD⟩, hS.F ht⟩) hS.2.2 (dt_of tkX1_endangered_k56 2 rfl)))
    · have hw := hw.2 c1
      refine lv_aload_n hx hb (dt_of tkX1_endangered_k0 9 rfl) rfl (lv_at hl 0 rfl) ?_
      refine lv_iload_n hx hb (dt_of tkX1_endangered_k0 10 rfl) rfl (lv_at hl 2 rfl) ?_
      obtain ⟨hCc, hPc, hDc, hFc⟩ := va_pick (ws' := (wd00_7 a0 a0_row z0_owedEach a0_down z0_law a0_row cyI f0_row)) hP hD hS hA [0, 2] (by decide +kernel) rfl
      refine va_calli (va_runV (As := [.int l2]) (rest := []) ⟨hx, hb, hml, hown, hts⟩ (ck_X1_isCaught l dC dI cyB cyI cyJ cyP a0 a0_row H.size (z0_owedEach) (.ref a0_down) (z0_law) f0_row  l2 hw) (cwV 1 hts gX1_endangered_X1_isCaught rfl rfl rfl (by decide +kernel) ⟨Nat.le_of_ble_eq_true rfl, Nat.le_of_ble_eq_true rfl⟩) ⟨cPc_blind, va_recv (q := (RX1, TX1, 4)) hK hPc (ci := 1) (q0 := 0) rfl rfl, cPc_pre hPc hK hDc hNw⟩ rfl rfl hl.1 rfl (lv_room (Nat.le_of_ble_eq_true rfl)) (dt_of tkX1_endangered_k0 11 rfl) ⟨Nat.le_of_ble_eq_true rfl, Nat.le_of_ble_eq_true rfl⟩) hS (fun q _ h => hFc q h) hFc (fun r2 u t H1 locs ht hvm hw hB hz1 hk1 hS => ?_)
      obtain ⟨hP1, hK1, hD1⟩ := hB
      rw [ht] at hP1
      obtain ⟨hP, hD⟩ := va_joinN (wr := (wd00_8 a0_down z0_down_formX z0_down_formY z0_down_foxX z0_down_foxY z0_down_seat z0_down_strength z0_down_debts z0_down_near z0_down_forms v0_down_hares z0_down_foxes v0_down_safe)) (w1 := (wd00_7 a0 a0_row z0_owedEach a0_down z0_law a0_row cyI f0_row)) (wn := (wd00_6 a0 a0_row z0_owedEach a0_down z0_law a0_down z0_down_formX z0_down_formY z0_down_foxX z0_down_foxY z0_down_seat z0_down_strength z0_down_debts z0_down_near z0_down_forms v0_down_hares z0_down_foxes v0_down_safe a0_row cyI f0_row)) hP hD [0, 2] [1] [1, 0, 2] hCc rfl (by decide +kernel) (by decide +kernel) (by decide +kernel) rfl hk1 hFc hP1 hD1
      generalize H1 = H at hP hS ⊢
      refine lv_if_ne (tgt := 53) hx hb (dt_of tkX1_endangered_k0 12 rfl) (by decide) (fun c3 => ?_) (fun c3 => ?_)
      · have hw := hw.1 c3
        exact kb_X1_endangered_53 dC dI cyB cyI cyJ cyP a0 a0_down a0_row z0_owedEach z0_law z0_down_formX z0_down_formY z0_down_foxX z0_down_foxY z0_down_seat z0_down_strength z0_down_debts z0_down_near z0_down_forms z0_down_foxes v0_down_hares v0_down_safe f0_row Q (wl_X1_endangered_4 v0_down_hares v0_down_safe f0_row Q  n) ih C0 _ _ _ l1 l2 hP hD hS (lv_sub hl [0, 1, 2] rfl) hw
      · have hw := hw.2 c3
        refine lv_aload_n hx hb (dt_of tkX1_endangered_k0 13 rfl) rfl (lv_at hl 0 rfl) ?_
        refine va_get (D := (dC, dI)) (ci := 1) (v := .ref a0_down) (C := RX1) (T := TX1) (N := 4) hx hb hts ui_X1_endangered_X1 hown hK hP 0 rfl rfl 2 (by decide) (hts _ uw_X1_endangered_f24) (fun _ h9 => h9) rfl (dt_of tkX1_endangered_k0 14 rfl) ?_
        refine lv_aload_n hx hb (dt_of tkX1_endangered_k0 15 rfl) rfl (lv_at hl 0 rfl) ?_
        refine lv_iload_n hx hb (dt_of tkX1_endangered_k28 0 rfl) rfl (lv_at hl 2 rfl) ?_
        obtain ⟨hCc, hPc, hDc, hFc⟩ := va_pick (ws' := (wd00_7 a0 a0_row z0_owedEach a0_down z0_law a0_row cyI f0_row)) hP hD hS hA [0, 2] (by decide +kernel) rfl
        refine va_calli (va_runV (As := [.int l2]) (rest := [.ref a0_down]) ⟨hx, hb, hml, hown, hts⟩ (ck_X1_sits l dC dI cyB cyI cyJ cyP a0 a0_row H.size (z0_owedEach) (.ref a0_down) (z0_law) f0_row  l2 hw) (cwV 1 hts gX1_endangered_X1_sits rfl rfl rfl (by decide +kernel) ⟨Nat.le_of_ble_eq_true rfl, Nat.le_of_ble_eq_true rfl⟩) ⟨cPc_blind, va_recv (q := (RX1, TX1, 4)) hK hPc (ci := 1) (q0 := 0) rfl rfl, cPc_pre hPc hK hDc hNw⟩ rfl rfl hl.1 rfl (lv_room (Nat.le_of_ble_eq_true rfl)) (dt_of tkX1_endangered_k28 1 rfl) ⟨Nat.le_of_ble_eq_true rfl, Nat.le_of_ble_eq_true rfl⟩) hS (fun q _ h => hFc q h) hFc (fun r4 u t H1 locs ht hvm hw hB hz1 hk1 hS => ?_)
        obtain ⟨hP1, hK1, hD1⟩ := hB
        rw [ht] at hP1
        obtain ⟨hP, hD⟩ := va_joinN (wr := (wd00_8 a0_down z0_down_formX z0_down_formY z0_down_foxX z0_down_foxY z0_down_seat z0_down_strength z0_down_debts z0_down_near z0_down_forms v0_down_hares z0_down_foxes v0_down_safe)) (w1 := (wd00_7 a0 a0_row z0_owedEach a0_down z0_law a0_row cyI f0_row)) (wn := (wd00_6 a0 a0_row z0_owedEach a0_down z0_law a0_down z0_down_formX z0_down_formY z0_down_foxX z0_down_foxY z0_down_seat z0_down_strength z0_down_debts z0_down_near z0_down_forms v0_down_hares z0_down_foxes v0_down_safe a0_row cyI f0_row)) hP hD [0, 2] [1] [1, 0, 2] hCc rfl (by decide +kernel) (by decide +kernel) (by decide +kernel) rfl hk1 hFc hP1 hD1
        generalize H1 = H at hP hS ⊢
        obtain ⟨hCc, hPc, hDc, hFc⟩ := va_pick (ws' := (wd00_8 a0_down z0_down_formX z0_down_formY z0_down_foxX z0_down_foxY z0_down_seat z0_down_strength z0_down_debts z0_down_near z0_down_forms v0_down_hares z0_down_foxes v0_down_safe)) hP hD hS hA [1] (by decide +kernel) rfl
        refine va_calli (va_runV (As := [.int r4]) (rest := []) ⟨hx, hb, hml, hown, hts⟩ (ck_X2_isSafe l dC dI cyB cyI cyJ cyP a0_down H.size (z0_down_formX) (z0_down_formY) (z0_down_foxX) (z0_down_foxY) (z0_down_seat) (z0_down_strength) (z0_down_debts) (z0_down_near) (z0_down_forms) (.int v0_down_hares) (z0_down_foxes) v0_down_safe  r4 hw) (cwV 1 hts gX1_endangered_X2_isSafe rfl rfl rfl (by decide +kernel) ⟨Nat.le_of_ble_eq_true rfl, Nat.le_of_ble_eq_true rfl⟩) ⟨cPc_blind, va_recv (q := (RX2, TX2, 12)) hK hPc (ci := 2) (q0 := 0) rfl rfl, cPc_pre hPc hK hDc hNw⟩ rfl rfl hl.1 rfl (lv_room (Nat.le_of_ble_eq_true rfl)) (dt_of tkX1_endangered_k28 2 rfl) ⟨Nat.le_of_ble_eq_true rfl, Nat.le_of_ble_eq_true rfl⟩) hS (fun q _ h => hFc q h) hFc (fun r5 u t H1 locs ht hvm hw hB hz1 hk1 hS => ?_)
        obtain ⟨hP1, hK1, hD1⟩ := hB
        rw [ht] at hP1
        obtain ⟨hP, hD⟩ := va_joinN (wr := (wd00_7 a0 a0_row z0_owedEach a0_down z0_law a0_row cyI f0_row)) (w1 := (wd00_8 a0_down z0_down_formX z0_down_formY z0_down_foxX z0_down_foxY z0_down_seat z0_down_strength z0_down_debts z0_down_near z0_down_forms v0_down_hares z0_down_foxes v0_down_safe)) (wn := (wd00_6 a0 a0_row z0_owedEach a0_down z0_law a0_down z0_down_formX z0_down_formY z0_down_foxX z0_down_foxY z0_down_seat z0_down_strength z0_down_debts z0_down_near z0_down_forms v0_down_hares z0_down_foxes v0_down_safe a0_row cyI f0_row)) hP hD [1] [0, 2] [0, 2, 1] hCc rfl (by decide +kernel) (by decide +kernel) (by decide +kernel) rfl hk1 hFc hP1 hD1
        generalize H1 = H at hP hS ⊢
        refine lv_if_ne (tgt := 53) hx hb (dt_of tkX1_endangered_k28 3 rfl) (by decide) (fun c6 => ?_) (fun c6 => ?_)
        · have hw := hw.1 c6
          exact kb_X1_endangered_53 dC dI cyB cyI cyJ cyP a0 a0_down a0_row z0_owedEach z0_law z0_down_formX z0_down_formY z0_down_foxX z0_down_foxY z0_down_seat z0_down_strength z0_down_debts z0_down_near z0_down_forms z0_down_foxes v0_down_hares v0_down_safe f0_row Q (wl_X1_endangered_4 v0_down_hares v0_down_safe f0_row Q  n) ih C0 _ _ _ l1 l2 hP hD hS (lv_sub hl [0, 1, 2] rfl) hw
        · have hw := hw.2 c6
          refine lv_aload_n hx hb (dt_of tkX1_endangered_k28 4 rfl) rfl (lv_at hl 0 rfl) ?_
          refine lv_iload_n hx hb (dt_of tkX1_endangered_k28 5 rfl) rfl (lv_at hl 2 rfl) ?_
          obtain ⟨hCc, hPc, hDc, hFc⟩ := va_pick (ws' := (wd00_7 a0 a0_row z0_owedEach a0_down z0_law a0_row cyI f0_row)) hP hD hS hA [0, 2] (by decide +kernel) rfl
          refine va_calli (va_runV (As := [.int l2]) (rest := []) ⟨hx, hb, hml, hown, hts⟩ (ck_X1_still l dC dI cyB cyI cyJ cyP a0 a0_row H.size (z0_owedEach) (.ref a0_down) (z0_law) f0_row  l2 hw) (cwV 1 hts gX1_endangered_X1_still rfl rfl rfl (by decide +kernel) ⟨Nat.le_of_ble_eq_true rfl, Nat.le_of_ble_eq_true rfl⟩) ⟨cPc_blind, va_recv (q := (RX1, TX1, 4)) hK hPc (ci := 1) (q0 := 0) rfl rfl, cPc_pre hPc hK hDc hNw⟩ rfl rfl hl.1 rfl (lv_room (Nat.le_of_ble_eq_true rfl)) (dt_of tkX1_endangered_k28 6 rfl) ⟨Nat.le_of_ble_eq_true rfl, Nat.le_of_ble_eq_true rfl⟩) hS (fun q _ h => hFc q h) hFc (fun r7 u t H1 locs ht hvm hw hB hz1 hk1 hS => ?_)
          obtain ⟨hP1, hK1, hD1⟩ := hB
          rw [ht] at hP1
          obtain ⟨hP, hD⟩ := va_joinN (wr := (wd00_8 a0_down z0_down_formX z0_down_formY z0_down_foxX z0_down_foxY z0_down_seat z0_down_strength z0_down_debts z0_down_near z0_down_forms v0_down_hares z0_down_foxes v0_down_safe)) (w1 := (wd00_7 a0 a0_row z0_owedEach a0_down z0_law a0_row cyI f0_row)) (wn := (wd00_6 a0 a0_row z0_owedEach a0_down z0_law a0_down z0_down_formX z0_down_formY z0_down_foxX z0_down_foxY z0_down_seat z0_down_strength z0_down_debts z0_down_near z0_down_forms v0_down_hares z0_down_foxes v0_down_safe a0_row cyI f0_row)) hP hD [0, 2] [1] [1, 0, 2] hCc rfl (by decide +kernel) (by decide +kernel) (by decide +kernel) rfl hk1 hFc hP1 hD1
          generalize H1 = H at hP hS ⊢
          refine lv_iconst (v := 3) hx hb (dt_of tkX1_endangered_k28 7 rfl) (by decide) ?_
          refine lv_icmp_ge (tgt := 53) hx hb (dt_of tkX1_endangered_k28 8 rfl) (by decide) (fun c8 => ?_) (fun c8 => ?_)
          · have hw := hw.1 c8
            exact kb_X1_endangered_53 dC dI cyB cyI cyJ cyP a0 a0_down a0_row z0_owedEach z0_law z0_down_formX z0_down_formY z0_down_foxX z0_down_foxY z0_down_seat z0_down_strength z0_down_debts z0_down_near z0_down_forms z0_down_foxes v0_down_hares v0_down_safe f0_row Q (wl_X1_endangered_4 v0_down_hares v0_down_safe f0_row Q  n) ih C0 _ _ _ l1 l2 hP hD hS (lv_sub hl [0, 1, 2] rfl) hw
          · have hw := hw.2 c8
            refine lv_iload_n hx hb (dt_of tkX1_endangered_k28 9 rfl) rfl (lv_at hl 1 rfl) ?_
            refine lv_iconst (v := 1) hx hb (dt_of tkX1_endangered_k28 10 rfl) (by decide) ?_
            refine lv_iload_n hx hb (dt_of tkX1_endangered_k28 11 rfl) rfl (lv_at hl 2 rfl) ?_
            refine lv_ishl hx hb (dt_of tkX1_endangered_k28 12 rfl) ?_
            refine lv_ior hx hb (dt_of tkX1_endangered_k28 13 rfl) ?_
            refine lv_topi (fun x9 ex9 => ?_)
            have hw := hw x9 ex9
            refine lv_istore_n (lv' := [(1, .int x9), (0, .ref a0), (2, .int l2)]) hx hb (dt_of tkX1_endangered_k28 14 rfl) rfl hl (by decide) rfl (fun ls hl => ?_)
            exact kb_X1_endangered_53 dC dI cyB cyI cyJ cyP a0 a0_down a0_row z0_owedEach z0_law z0_down_formX z0_down_formY z0_down_foxX z0_down_foxY z0_down_seat z0_down_strength z0_down_debts z0_down_near z0_down_forms z0_down_foxes v0_down_hares v0_down_safe f0_row Q (wl_X1_endangered_4 v0_down_hares v0_down_safe f0_row Q  n) ih C0 _ _ _ x9 l2 hP hD hS (lv_sub hl [1, 0, 2] rfl) hw
set_option maxHeartbeats 4000000 in
set_option maxRecDepth 100000 in
theorem ck_X1_endangered (l : Launch) (dC : Nat → ClassId) (dI : Nat → Nat → Nat) (cyB cyI cyJ cyP : ClassId) (a0 a0_down a0_row : Nat) (sz : Nat) (z0_owedEach : Value) (z0_law : Value) (z0_down_formX : Value) (z0_down_formY : Value) (z0_down_foxX : Value) (z0_down_foxY : Value) (z0_down_seat : Value) (z0_down_strength : Value) (z0_down_debts : Value) (z0_down_near : Value) (z0_down_forms : Value) (z0_down_foxes : Value) (v0_down_hares : Int32) (v0_down_safe : Int32) (f0_row : Nat → Int32)   {Q : Int32 → Prop} (hw : wq_X1_endangered v0_down_hares v0_down_safe f0_row   Q) : Met l yX1_endangered wsX1_endangered ({ frames := 2, cells := 0, slots := 0, locals := 42 }) (va_Pc [.ref a0] (cPc (dC, dI) (kT cyB cyI cyJ cyP) (wd00_6 a0 a0_row z0_owedEach a0_down z0_law a0_down z0_down_formX z0_down_formY z0_down_foxX z0_down_foxY z0_down_seat z0_down_strength z0_down_debts z0_down_near z0_down_forms v0_down_hares z0_down_foxes v0_down_safe a0_row cyI f0_row) sz)) (va_Qi (fun (r : Int32) (_ : Unit) => Q r ) (cB (dC, dI) (kT cyB cyI cyJ cyP) (va_A (wd00_6 a0 a0_row z0_owedEach a0_down z0_law a0_down z0_down_formX z0_down_formY z0_down_foxX z0_down_foxY z0_down_seat z0_down_strength z0_down_debts z0_down_near z0_down_forms v0_down_hares z0_down_foxes v0_down_safe a0_row cyI f0_row) sz) (fun u : Unit => ((wd00_6 a0 a0_row z0_owedEach a0_down z0_law a0_down z0_down_formX z0_down_formY z0_down_foxX z0_down_foxY z0_down_seat z0_down_strength z0_down_debts z0_down_near z0_down_forms v0_down_hares z0_down_foxes v0_down_safe a0_row cyI f0_row) : va_W))) (va_A (wd00_6 a0 a0_row z0_owedEach a0_down z0_law a0_down z0_down_formX z0_down_formY z0_down_foxX z0_down_foxY z0_down_seat z0_down_strength z0_down_debts z0_down_near z0_down_forms v0_down_hares z0_down_foxes v0_down_safe a0_row cyI f0_row) sz)) 0 0 (va_A (wd00_6 a0 a0_row z0_owedEach a0_down z0_law a0_down z0_down_formX z0_down_formY z0_down_foxX z0_down_foxY z0_down_seat z0_down_strength z0_down_debts z0_down_near z0_down_forms v0_down_hares z0_down_foxes v0_down_safe a0_row cyI f0_row) sz) := by
  refine Met.ofW (cc := cX1_endangered) (maxL := 3) (ret := (some .int)) (by decide) rfl ?_
  intro p e s m args below meth c s₁ B hml hv
  obtain ⟨rfl, hsz, hP, hK, hD0, hNw⟩ := hv
  have hx := B.exec
  have hb := B.bytes
  have hr := B.returns
  have hts := atoms_spec (ws := wsX1_endangered) B.pre
  have hown : s.vm.findClass RX1 = some m.cls := findClass_of_methodNamed B.named
  have hlocks := B.notSynchronized
  subst hsz
  have hD := hD0.self (sz := s.heap.size)
  generalize hAe : va_A (wd00_6 a0 a0_row z0_owedEach a0_down z0_law a0_down z0_down_formX z0_down_formY z0_down_foxX z0_down_foxY z0_down_seat z0_down_strength z0_down_debts z0_down_near z0_down_forms v0_down_hares z0_down_foxes v0_down_safe a0_row cyI f0_row) s.heap.size = A at hD ⊢
  have hA : ∀ q : Nat, s.heap.size ≤ q → A q := fun q h => by rw [← hAe]; exact Or.inr h
  have hS : va_S A s.heap s.heap [] := va_S.rf
  have hP : va_P (dC, dI) vwCl (wd00_6 a0 a0_row z0_owedEach a0_down z0_law a0_down z0_down_formX z0_down_formY z0_down_foxX z0_down_foxY z0_down_seat z0_down_strength z0_down_debts z0_down_near z0_down_forms v0_down_hares z0_down_foxes v0_down_safe a0_row cyI f0_row) s.heap := hP
  have hl := lv_entry ([.ref a0]) (n := 3) (Nat.le_of_ble_eq_true rfl)
  rw [lg_entry_eq]
  generalize (lg_sl ([.ref a0]) ++ List.replicate (3 - (lg_sl ([.ref a0])).length) Slot.unset).toArray = ls at hl ⊢
  have hl : lv_has ls 3 [(0, .ref a0)] := hl
  have C0 : cfx p s m _ meth c cX1_endangered (some .int) wsX1_endangered RX1 3 A (dC, dI) (kT cyB cyI cyJ cyP) := ⟨hx, hb, hr, hts, hown, hlocks, hml, hA, hK, hNw⟩
  clear hAe
  obtain ⟨H, hH⟩ : ∃ H, H = s.heap := ⟨_, rfl⟩
  rw [← hH] at hP ⊢
  have hS : va_S A s.heap H [] := by rw [hH]; exact va_S.rf
  have hS := hS
  refine lv_iconst (v := 0) hx hb (dt_of tkX1_endangered_k0 0 rfl) (by decide) ?_
  refine lv_istore_n (lv' := [(1, .int 0), (0, .ref a0)]) hx hb (dt_of tkX1_endangered_k0 1 rfl) rfl hl (by decide) rfl (fun ls hl => ?_)
  refine lv_iconst (v := 0) hx hb (dt_of tkX1_endangered_k0 2 rfl) (by decide) ?_
  refine lv_istore_n (lv' := [(2, .int 0), (1, .int 0), (0, .ref a0)]) hx hb (dt_of tkX1_endangered_k0 3 rfl) rfl hl (by decide) rfl (fun ls hl => ?_)
  obtain ⟨n9, hw⟩ := hw
  exact kl_X1_endangered_4 dC dI cyB cyI cyJ cyP a0 a0_down a0_row z0_owedEach z0_law z0_down_formX z0_down_formY z0_down_foxX z0_down_foxY z0_down_seat z0_down_strength z0_down_debts z0_down_near z0_down_forms z0_down_foxes v0_down_hares v0_down_safe f0_row Q  C0 n9 _ _ _ 0 0 hP hD hS (lv_sub hl [2, 1, 0] rfl) hw
theorem ui_X1_dropDebts_X1 : ∀ w ∈ u_ws RX1 TX1 4, w ∈ wsX1_dropDebts := uiM mbX1_dropDebts euX1 (by decide +kernel)
theorem ui_X1_dropDebts_X2 : ∀ w ∈ u_ws RX2 TX2 12, w ∈ wsX1_dropDebts := uiM mbX1_dropDebts euX2 (by decide +kernel)
theorem uw_X1_dropDebts_f13 : (.fieldLink RX1 13 "MarchHares$Days" "row" "[I" : Cond) ∈ wsX1_dropDebts := mbX1_dropDebts 276 (by decide +kernel)
theorem uw_X1_dropDebts_f24 : (.fieldLink RX1 24 "MarchHares$Days" "down" "LMarchHares$Down;" : Cond) ∈ wsX1_dropDebts := mbX1_dropDebts 322 (by decide +kernel)
theorem uw_X1_dropDebts_f32 : (.fieldLink RX1 32 "MarchHares$Down" "hares" "I" : Cond) ∈ wsX1_dropDebts := mbX1_dropDebts 324 (by decide +kernel)
set_option maxHeartbeats 4000000 in
set_option maxRecDepth 100000 in
theorem kl_X1_dropDebts_2 {p : Program} {l : Launch} {e : Env} {s : State} {m : MethodId} {args : Array Value} {below : List Frame} {meth : Method} {c : Code} {A : Nat → Prop} (dC : Nat → ClassId) (dI : Nat → Nat → Nat) (cyB cyI cyJ cyP : ClassId) (a0 a0_down a0_row : Nat) (z0_owedEach : Value) (z0_law : Value) (z0_down_formX : Value) (z0_down_formY : Value) (z0_down_foxX : Value) (z0_down_foxY : Value) (z0_down_seat : Value) (z0_down_strength : Value) (z0_down_debts : Value) (z0_down_near : Value) (z0_down_forms : Value) (z0_down_foxes : Value) (z0_down_safe : Value) (v0_down_hares : Int32) (Q : (Nat → Int32) → Prop)  (C0 : cfx p s m args meth c cX1_dropDebts none wsX1_dropDebts RX1 3 A (dC, dI) (kT cyB cyI cyJ cyP)) : ∀ (n : Nat) (H : Heap) (locs : List Loc) (ls : Array Slot) (f0_row : Nat → Int32) (l1 : Int32) (l2 : Int32), va_P (dC, dI) vwCl (wd00_9 a0 a0_row z0_owedEach a0_down z0_law a0_down z0_down_formX z0_down_formY z0_down_foxX z0_down_foxY z0_down_seat z0_down_strength z0_down_debts z0_down_near z0_down_forms v0_down_hares z0_down_foxes z0_down_safe a0_row cyI f0_row) H → va_D A (wd00_9 a0 a0_row z0_owedEach a0_down z0_law a0_down z0_down_formX z0_down_formY z0_down_foxX z0_down_foxY z0_down_seat z0_down_strength z0_down_debts z0_down_near z0_down_forms v0_down_hares z0_down_foxes z0_down_safe a0_row cyI f0_row) → va_S A s.heap H locs → lv_has ls 3 [(0, .ref a0), (1, .int l1), (2, .int l2)] → wl_X1_dropDebts_2 v0_down_hares Q  n f0_row l1 l2 → W p l e (headSpec wsX1_dropDebts ({ frames := 0, cells := 0, slots := 0, locals := 0 })).room s m args below meth c H locs 0 0 (MQ below (va_Qv (fun (u : (Nat → Int32)) => Q u) (cB (dC, dI) (kT cyB cyI cyJ cyP) A (fun u : (Nat → Int32) => ((wd00_9 a0 a0_row z0_owedEach a0_down z0_law a0_down z0_down_formX z0_down_formY z0_down_foxX z0_down_foxY z0_down_seat z0_down_strength z0_down_debts z0_down_near z0_down_forms v0_down_hares z0_down_foxes z0_down_safe a0_row cyI u) : va_W))) A) args s 0 0 A) (F0 m 2 ls []) := by
  obtain ⟨hx, hb, hr, hts, hown, hlocks, hml, hA, hK, hNw⟩ := id C0
  intro n
  induction n with
  | zero => intro H locs ls f0_row l1 l2 hP hD hS hl hw; exact False.elim hw
  | succ n ih =>
    intro H locs ls f0_row l1 l2 hP hD hS hl hw
    refine lv_iload_n hx hb (dt_of tkX1_dropDebts_k0 2 rfl) rfl (lv_at hl 2 rfl) ?_
    refine lv_aload_n hx hb (dt_of tkX1_dropDebts_k0 3 rfl) rfl (lv_at hl 0 rfl) ?_
    refine va_get (D := (dC, dI)) (ci := 1) (v := .ref a0_down) (C := RX1) (T := TX1) (N := 4) hx hb hts ui_X1_dropDebts_X1 hown hK hP 0 rfl rfl 2 (by decide) (hts _ uw_X1_dropDebts_f24) (fun _ h9 => h9) rfl (dt_of tkX1_dropDebts_k0 4 rfl) ?_
    refine va_get (D := (dC, dI)) (ci := 2) (v := .int v0_down_hares) (C := RX2) (T := TX2) (N := 12) hx hb hts ui_X1_dropDebts_X2 hown hK hP 1 rfl rfl 9 (by decide) (hts _ uw_X1_dropDebts_f32) (fun _ h9 => h9) rfl (dt_of tkX1_dropDebts_k0 5 rfl) ?_
    refine lv_icmp_ge (tgt := 49) hx hb (dt_of tkX1_dropDebts_k0 6 rfl) (by decide) (fun c1 => ?_) (fun c1 => ?_)
    · have hw := hw.1 c1
      exact ((W.vret hx hb hr (fun t ht hW => ⟨⟨(f0_row), rfl, hw, by rw [ht]; exact hP, va_K.moved hW.alike hK, hD⟩, hS.F ht⟩) hS.2.2 (dt_of tkX1_dropDebts_k26 15 rfl)))
    · have hw := hw.2 c1
      refine lv_aload_n hx hb (dt_of tkX1_dropDebts_k0 7 rfl) rfl (lv_at hl 0 rfl) ?_
      refine va_get (D := (dC, dI)) (ci := 1) (v := .ref a0_row) (C := RX1) (T := TX1) (N := 4) hx hb hts ui_X1_dropDebts_X1 hown hK hP 0 rfl rfl 0 (by decide) (hts _ uw_X1_dropDebts_f13) (fun _ h9 => h9) rfl (dt_of tkX1_dropDebts_k0 8 rfl) ?_
      refine lv_bipush (v := 28) hx hb (dt_of tkX1_dropDebts_k0 9 rfl) (by decide) ?_
      refine lv_iload_n hx hb (dt_of tkX1_dropDebts_k0 10 rfl) rfl (lv_at hl 1 rfl) ?_
      refine lv_bipush (v := 6) hx hb (dt_of tkX1_dropDebts_k0 11 rfl) (by decide) ?_
      refine lv_imul hx hb (dt_of tkX1_dropDebts_k0 12 rfl) ?_
      refine lv_iadd hx hb (dt_of tkX1_dropDebts_k0 13 rfl) ?_
      refine lv_topi (fun x2 ex2 => ?_)
      have hw := hw x2 ex2
      refine lv_iload_n hx hb (dt_of tkX1_dropDebts_k0 14 rfl) rfl (lv_at hl 2 rfl) ?_
      refine lv_iadd hx hb (dt_of tkX1_dropDebts_k0 15 rfl) ?_
      refine lv_topi (fun x3 ex3 => ?_)
      have hw := hw x3 ex3
      refine lv_iconst (v := 0) hx hb (dt_of tkX1_dropDebts_k26 0 rfl) (by decide) ?_
      obtain ⟨hi9, hw⟩ := hw
      refine va_iast hx hb hK hP hD hS 2 1 rfl rfl hi9 (dt_of tkX1_dropDebts_k26 1 rfl) (fun H locs hP hD hS => ?_)
      obtain ⟨f4, ef4⟩ : ∃ y : Nat → Int32, y = upd f0_row x3.toNatClampNeg 0 := ⟨_, rfl⟩
      have hw := hw f4 ef4
      have hP : va_P (dC, dI) vwCl (wd00_9 a0 a0_row z0_owedEach a0_down z0_law a0_down z0_down_formX z0_down_formY z0_down_foxX z0_down_foxY z0_down_seat z0_down_strength z0_down_debts z0_down_near z0_down_forms v0_down_hares z0_down_foxes z0_down_safe a0_row cyI f4) H := by rw [ef4]; exact hP
      have hD : va_D A (wd00_9 a0 a0_row z0_owedEach a0_down z0_law a0_down z0_down_formX z0_down_formY z0_down_foxX z0_down_foxY z0_down_seat z0_down_strength z0_down_debts z0_down_near z0_down_forms v0_down_hares z0_down_foxes z0_down_safe a0_row cyI f4) := by rw [ef4]; exact hD
      refine lv_aload_n hx hb (dt_of tkX1_dropDebts_k26 2 rfl) rfl (lv_at hl 0 rfl) ?_
      refine va_get (D := (dC, dI)) (ci := 1) (v := .ref a0_row) (C := RX1) (T := TX1) (N := 4) hx hb hts ui_X1_dropDebts_X1 hown hK hP 0 rfl rfl 0 (by decide) (hts _ uw_X1_dropDebts_f13) (fun _ h9 => h9) rfl (dt_of tkX1_dropDebts_k26 3 rfl) ?_
      refine lv_bipush (v := 28) hx hb (dt_of tkX1_dropDebts_k26 4 rfl) (by decide) ?_
      refine lv_iload_n hx hb (dt_of tkX1_dropDebts_k26 5 rfl) rfl (lv_at hl 2 rfl) ?_
      refine lv_bipush (v := 6) hx hb (dt_of tkX1_dropDebts_k26 6 rfl) (by decide) ?_
      refine lv_imul hx hb (dt_of tkX1_dropDebts_k26 7 rfl) ?_
      refine lv_iadd hx hb (dt_of tkX1_dropDebts_k26 8 rfl) ?_
      refine lv_topi (fun x5 ex5 => ?_)
      have hw := hw x5 ex5
      refine lv_iload_n hx hb (dt_of tkX1_dropDebts_k26 9 rfl) rfl (lv_at hl 1 rfl) ?_
      refine lv_iadd hx hb (dt_of tkX1_dropDebts_k26 10 rfl) ?_
      refine lv_topi (fun x6 ex6 => ?_)
      have hw := hw x6 ex6
      refine lv_iconst (v := 0) hx hb (dt_of tkX1_dropDebts_k26 11 rfl) (by decide) ?_
      obtain ⟨hi9, hw⟩ := hw
      refine va_iast hx hb hK hP hD hS 2 1 rfl rfl hi9 (dt_of tkX1_dropDebts_k26 12 rfl) (fun H locs hP hD hS => ?_)
      obtain ⟨f7, ef7⟩ : ∃ y : Nat → Int32, y = upd f4 x6.toNatClampNeg 0 := ⟨_, rfl⟩
      have hw := hw f7 ef7
      have hP : va_P (dC, dI) vwCl (wd00_9 a0 a0_row z0_owedEach a0_down z0_law a0_down z0_down_formX z0_down_formY z0_down_foxX z0_down_foxY z0_down_seat z0_down_strength z0_down_debts z0_down_near z0_down_forms v0_down_hares z0_down_foxes z0_down_safe a0_row cyI f7) H := by rw [ef7]; exact hP
      have hD : va_D A (wd00_9 a0 a0_row z0_owedEach a0_down z0_law a0_down z0_down_formX z0_down_formY z0_down_foxX z0_down_foxY z0_down_seat z0_down_strength z0_down_debts z0_down_near z0_down_forms v0_down_hares z0_down_foxes z0_down_safe a0_row cyI f7) := by rw [ef7]; exact hD
      obtain ⟨x8, ex8⟩ : ∃ y : Int32, y = l2 + 1 := ⟨_, rfl⟩
      have hw := hw x8 ex8
      refine lv_iinc (v := x8) (lv' := [(2, .int x8), (0, .ref a0), (1, .int l1)]) hx hb (dt_of tkX1_dropDebts_k26 13 rfl) hl (k := 2) rfl (by rw [ex8]; rfl) (by decide) rfl (fun ls hl => ?_)
      refine lv_goto (tgt := 2) hx hb (dt_of tkX1_dropDebts_k26 14 rfl) (by decide) ?_
      exact ih _ _ _ f7 l1 x8 hP hD hS (lv_sub hl [1, 2, 0] rfl) hw
set_option maxHeartbeats 4000000 in
set_option maxRecDepth 100000 in
theorem ck_X1_dropDebts (l : Launch) (dC : Nat → ClassId) (dI : Nat → Nat → Nat) (cyB cyI cyJ cyP : ClassId) (a0 a0_down a0_row : Nat) (sz : Nat) (z0_owedEach : Value) (z0_law : Value) (z0_down_formX : Value) (z0_down_formY : Value) (z0_down_foxX : Value) (z0_down_foxY : Value) (z0_down_seat : Value) (z0_down_strength : Value) (z0_down_debts : Value) (z0_down_near : Value) (z0_down_forms : Value) (z0_down_foxes : Value) (z0_down_safe : Value) (v0_down_hares : Int32) (f0_row : Nat → Int32) (p1 : Int32) {Q : (Nat → Int32) → Prop} (hw : wq_X1_dropDebts v0_down_hares f0_row p1 Q) : Met l yX1_dropDebts wsX1_dropDebts ({ frames := 0, cells := 0, slots := 0, locals := 0 }) (va_Pc [.ref a0, .int p1] (cPc (dC, dI) (kT cyB cyI cyJ cyP) (wd00_9 a0 a0_row z0_owedEach a0_down z0_law a0_down z0_down_formX z0_down_formY z0_down_foxX z0_down_foxY z0_down_seat z0_down_strength z0_down_debts z0_down_near z0_down_forms v0_down_hares z0_down_foxes z0_down_safe a0_row cyI f0_row) sz)) (va_Qv (fun (u : (Nat → Int32)) => Q u) (cB (dC, dI) (kT cyB cyI cyJ cyP) (va_A (wd00_9 a0 a0_row z0_owedEach a0_down z0_law a0_down z0_down_formX z0_down_formY z0_down_foxX z0_down_foxY z0_down_seat z0_down_strength z0_down_debts z0_down_near z0_down_forms v0_down_hares z0_down_foxes z0_down_safe a0_row cyI f0_row) sz) (fun u : (Nat → Int32) => ((wd00_9 a0 a0_row z0_owedEach a0_down z0_law a0_down z0_down_formX z0_down_formY z0_down_foxX z0_down_foxY z0_down_seat z0_down_strength z0_down_debts z0_down_near z0_down_forms v0_down_hares z0_down_foxes z0_down_safe a0_row cyI u) : va_W))) (va_A (wd00_9 a0 a0_row z0_owedEach a0_down z0_law a0_down z0_down_formX z0_down_formY z0_down_foxX z0_down_foxY z0_down_seat z0_down_strength z0_down_debts z0_down_near z0_down_forms v0_down_hares z0_down_foxes z0_down_safe a0_row cyI f0_row) sz)) 0 0 (va_A (wd00_9 a0 a0_row z0_owedEach a0_down z0_law a0_down z0_down_formX z0_down_formY z0_down_foxX z0_down_foxY z0_down_seat z0_down_strength z0_down_debts z0_down_near z0_down_forms v0_down_hares z0_down_foxes z0_down_safe a0_row cyI f0_row) sz) := by
  refine Met.ofW (cc := cX1_dropDebts) (maxL := 3) (ret := none) (by decide) rfl ?_
  intro p e s m args below meth c s₁ B hml hv
  obtain ⟨rfl, hsz, hP, hK, hD0, hNw⟩ := hv
  have hx := B.exec
  have hb := B.bytes
  have hr := B.returns
  have hts := atoms_spec (ws := wsX1_dropDebts) B.pre
  have hown : s.vm.findClass RX1 = some m.cls := findClass_of_methodNamed B.named
  have hlocks := B.notSynchronized
  subst hsz
  have hD := hD0.self (sz := s.heap.size)
  generalize hAe : va_A (wd00_9 a0 a0_row z0_owedEach a0_down z0_law a0_down z0_down_formX z0_down_formY z0_down_foxX z0_down_foxY z0_down_seat z0_down_strength z0_down_debts z0_down_near z0_down_forms v0_down_hares z0_down_foxes z0_down_safe a0_row cyI f0_row) s.heap.size = A at hD ⊢
  have hA : ∀ q : Nat, s.heap.size ≤ q → A q := fun q h => by rw [← hAe]; exact Or.inr h
  have hS : va_S A s.heap s.heap [] := va_S.rf
  have hP : va_P (dC, dI) vwCl (wd00_9 a0 a0_row z0_owedEach a0_down z0_law a0_down z0_down_formX z0_down_formY z0_down_foxX z0_down_foxY z0_down_seat z0_down_strength z0_down_debts z0_down_near z0_down_forms v0_down_hares z0_down_foxes z0_down_safe a0_row cyI f0_row) s.heap := hP
  have hl := lv_entry ([.ref a0, .int p1]) (n := 3) (Nat.le_of_ble_eq_true rfl)
  rw [lg_entry_eq]
  generalize (lg_sl ([.ref a0, .int p1]) ++ List.replicate (3 - (lg_sl ([.ref a0, .int p1])).length) Slot.unset).toArray = ls at hl ⊢
  have hl : lv_has ls 3 [(0, .ref a0), (1, .int p1)] := hl
  have C0 : cfx p s m _ meth c cX1_dropDebts none wsX1_dropDebts RX1 3 A (dC, dI) (kT cyB cyI cyJ cyP) := ⟨hx, hb, hr, hts, hown, hlocks, hml, hA, hK, hNw⟩
  clear hAe
  obtain ⟨H, hH⟩ : ∃ H, H = s.heap := ⟨_, rfl⟩
  rw [← hH] at hP ⊢
  have hS : va_S A s.heap H [] := by rw [hH]; exact va_S.rf
  have hS := hS
  refine lv_iconst (v := 0) hx hb (dt_of tkX1_dropDebts_k0 0 rfl) (by decide) ?_
  refine lv_istore_n (lv' := [(2, .int 0), (0, .ref a0), (1, .int p1)]) hx hb (dt_of tkX1_dropDebts_k0 1 rfl) rfl hl (by decide) rfl (fun ls hl => ?_)
  obtain ⟨n9, hw⟩ := hw
  exact kl_X1_dropDebts_2 dC dI cyB cyI cyJ cyP a0 a0_down a0_row z0_owedEach z0_law z0_down_formX z0_down_formY z0_down_foxX z0_down_foxY z0_down_seat z0_down_strength z0_down_debts z0_down_near z0_down_forms z0_down_foxes z0_down_safe v0_down_hares Q  C0 n9 _ _ _ f0_row p1 0 hP hD hS (lv_sub hl [1, 2, 0] rfl) hw
theorem ui_X1_strike_X1 : ∀ w ∈ u_ws RX1 TX1 4, w ∈ wsX1_strike := uiM mbX1_strike euX1 (by decide +kernel)
theorem ui_X1_strike_X2 : ∀ w ∈ u_ws RX2 TX2 12, w ∈ wsX1_strike := uiM mbX1_strike euX2 (by decide +kernel)
theorem uw_X1_strike_f13 : (.fieldLink RX1 13 "MarchHares$Days" "row" "[I" : Cond) ∈ wsX1_strike := mbX1_strike 276 (by decide +kernel)
theorem uw_X1_strike_f24 : (.fieldLink RX1 24 "MarchHares$Days" "down" "LMarchHares$Down;" : Cond) ∈ wsX1_strike := mbX1_strike 322 (by decide +kernel)
theorem uw_X1_strike_f32 : (.fieldLink RX1 32 "MarchHares$Down" "hares" "I" : Cond) ∈ wsX1_strike := mbX1_strike 324 (by decide +kernel)
theorem uw_X1_strike_f39 : (.fieldLink RX1 39 "MarchHares$Down" "strength" "[I" : Cond) ∈ wsX1_strike := mbX1_strike 326 (by decide +kernel)
theorem uw_X1_strike_iniRX10 : (.initialized RX10 : Cond) ∈ wsX1_strike := mbX1_strike 2 (by decide +kernel)
theorem uw_X1_strike_stX10_holds : (.static yX10_holds : Cond) ∈ wsX1_strike := mbX1_strike 2052 (by decide +kernel)
set_option maxHeartbeats 4000000 in
set_option maxRecDepth 100000 in
theorem kb_X1_strike_74 {p : Program} {l : Launch} {e : Env} {s : State} {m : MethodId} {args : Array Value} {below : List Frame} {meth : Method} {c : Code} {A : Nat → Prop} (dC : Nat → ClassId) (dI : Nat → Nat → Nat) (cyB cyI cyJ cyP : ClassId) (a0 a0_down a0_row a0_down_strength : Nat) (z0_owedEach : Value) (z0_law : Value) (z0_down_formX : Value) (z0_down_formY : Value) (z0_down_foxX : Value) (z0_down_foxY : Value) (z0_down_seat : Value) (z0_down_debts : Value) (z0_down_near : Value) (z0_down_forms : Value) (z0_down_foxes : Value) (v0_down_hares : Int32) (v0_down_safe : Int32) (f0_down_strength : Nat → Int32) (Q : (Nat → Int32) → Prop) (K7 : (Nat → Int32) → Int32 → Int32 → Prop) (hK7 : ∀ (H : Heap) (locs : List Loc) (ls : Array Slot) (f0_row : Nat → Int32) (l1 : Int32) (l2 : Int32), va_P (dC, dI) vwCl (wd00_10 a0 a0_row z0_owedEach a0_down z0_law a0_down z0_down_formX z0_down_formY z0_down_foxX z0_down_foxY z0_down_seat a0_down_strength z0_down_debts z0_down_near z0_down_forms v0_down_hares z0_down_foxes v0_down_safe a0_row cyI f0_row a0_down_strength cyI f0_down_strength) H → va_D A (wd00_10 a0 a0_row z0_owedEach a0_down z0_law a0_down z0_down_formX z0_down_formY z0_down_foxX z0_down_foxY z0_down_seat a0_down_strength z0_down_debts z0_down_near z0_down_forms v0_down_hares z0_down_foxes v0_down_safe a0_row cyI f0_row a0_down_strength cyI f0_down_strength) → va_S A s.heap H locs → lv_has ls 3 [(0, .ref a0), (1, .int l1), (2, .int l2)] → K7 f0_row l1 l2 → W p l e (headSpec wsX1_strike ({ frames := 3, cells := 0, slots := 0, locals := 64 })).room s m args below meth c H locs 0 0 (MQ below (va_Qv (fun (u : (Nat → Int32)) => Q u) (cB (dC, dI) (kT cyB cyI cyJ cyP) A (fun u : (Nat → Int32) => ((wd00_10 a0 a0_row z0_owedEach a0_down z0_law a0_down z0_down_formX z0_down_formY z0_down_foxX z0_down_foxY z0_down_seat a0_down_strength z0_down_debts z0_down_near z0_down_forms v0_down_hares z0_down_foxes v0_down_safe a0_row cyI u a0_down_strength cyI f0_down_strength) : va_W))) A) args s 0 0 A) (F0 m 7 ls [])) (C0 : cfx p s m args meth c cX1_strike none wsX1_strike RX1 3 A (dC, dI) (kT cyB cyI cyJ cyP)) : ∀ (H : Heap) (locs : List Loc) (ls : Array Slot) (f0_row : Nat → Int32) (l1 : Int32) (l2 : Int32), va_P (dC, dI) vwCl (wd00_10 a0 a0_row z0_owedEach a0_down z0_law a0_down z0_down_formX z0_down_formY z0_down_foxX z0_down_foxY z0_down_seat a0_down_strength z0_down_debts z0_down_near z0_down_forms v0_down_hares z0_down_foxes v0_down_safe a0_row cyI f0_row a0_down_strength cyI f0_down_strength) H → va_D A (wd00_10 a0 a0_row z0_owedEach a0_down z0_law a0_down z0_down_formX z0_down_formY z0_down_foxX z0_down_foxY z0_down_seat a0_down_strength z0_down_debts z0_down_near z0_down_forms v0_down_hares z0_down_foxes v0_down_safe a0_row cyI f0_row a0_down_strength cyI f0_down_strength) → va_S A s.heap H locs → lv_has ls 3 [(0, .ref a0), (1, .int l1), (2, .int l2)] → wb_X1_strike_74 v0_down_hares v0_down_safe f0_down_strength Q K7 f0_row l1 l2 → W p l e (headSpec wsX1_strike ({ frames := 3, cells := 0, slots := 0, locals := 64 })).room s m args below meth c H locs 0 0 (MQ below (va_Qv (fun (u : (Nat → Int32)) => Q u) (cB (dC, dI) (kT cyB cyI cyJ cyP) A (fun u : (Nat → Int32) => ((wd00_10 a0 a0_row z0_owedEach a0_down z0_law a0_down z0_down_formX z0_down_formY z0_down_foxX z0_down_foxY z0_down_seat a0_down_strength z0_down_debts z0_down_near z0_down_forms v0_down_hares z0_down_foxes v0_down_safe a0_row cyI u a0_down_strength cyI f0_down_strength) : va_W))) A) args s 0 0 A) (F0 m 74 ls []) := by
  obtain ⟨hx, hb, hr, hts, hown, hlocks, hml, hA, hK, hNw⟩ := id C0
  intro H locs ls f0_row l1 l2 hP hD hS hl hw
  obtain ⟨x14, ex14⟩ : ∃ y : Int32, y = l2 + 1 := ⟨_, rfl⟩
  have hw := hw x14 ex14
  refine lv_iinc (v := x14) (lv' := [(2, .int x14), (0, .ref a0), (1, .int l1)]) hx hb (dt_of tkX1_strike_k53 14 rfl) hl (k := 2) rfl (by rw [ex14]; rfl) (by decide) rfl (fun ls hl => ?_)
  refine lv_goto (tgt := 7) hx hb (dt_of tkX1_strike_k53 15 rfl) (by decide) ?_
  exact hK7 _ _ _ f0_row l1 x14 hP hD hS (lv_sub hl [1, 2, 0] rfl) hw
set_option maxHeartbeats 4000000 in
set_option maxRecDepth 100000 in
theorem kl_X1_strike_7 {p : Program} {l : Launch} {e : Env} {s : State} {m : MethodId} {args : Array Value} {below : List Frame} {meth : Method} {c : Code} {A : Nat → Prop} (dC : Nat → ClassId) (dI : Nat → Nat → Nat) (cyB cyI cyJ cyP : ClassId) (a0 a0_down a0_row a0_down_strength : Nat) (z0_owedEach : Value) (z0_law : Value) (z0_down_formX : Value) (z0_down_formY : Value) (z0_down_foxX : Value) (z0_down_foxY : Value) (z0_down_seat : Value) (z0_down_debts : Value) (z0_down_near : Value) (z0_down_forms : Value) (z0_down_foxes : Value) (v0_down_hares : Int32) (v0_down_safe : Int32) (f0_down_strength : Nat → Int32) (Q : (Nat → Int32) → Prop)  (C0 : cfx p s m args meth c cX1_strike none wsX1_strike RX1 3 A (dC, dI) (kT cyB cyI cyJ cyP)) : ∀ (n : Nat) (H : Heap) (locs : List Loc) (ls : Array Slot) (f0_row : Nat → Int32) (l1 : Int32) (l2 : Int32), va_P (dC, dI) vwCl (wd00_10 a0 a0_row z0_owedEach a0_down z0_law a0_down z0_down_formX z0_down_formY z0_down_foxX z0_down_foxY z0_down_seat a0_down_strength z0_down_debts z0_down_near z0_down_forms v0_down_hares z0_down_foxes v0_down_safe a0_row cyI f0_row a0_down_strength cyI f0_down_strength) H → va_D A (wd00_10 a0 a0_row z0_owedEach a0_down z0_law a0_down z0_down_formX z0_down_formY z0_down_foxX z0_down_foxY z0_down_seat a0_down_strength z0_down_debts z0_down_near z0_down_forms v0_down_hares z0_down_foxes v0_down_safe a0_row cyI f0_row a0_down_strength cyI f0_down_strength) → va_S A s.heap H locs → lv_has ls 3 [(0, .ref a0), (1, .int l1), (2, .int l2)] → wl_X1_strike_7 v0_down_hares v0_down_safe f0_down_strength Q  n f0_row l1 l2 → W p l e (headSpec wsX1_strike ({ frames := 3, cells := 0, slots := 0, locals := 64 })).room s m args below meth c H locs 0 0 (MQ below (va_Qv (fun (u : (Nat → Int32)) => Q u) (cB (dC, dI) (kT cyB cyI cyJ cyP) A (fun u : (Nat → Int32) => ((wd00_10 a0 a0_row z0_owedEach a0_down z0_law a0_down z0_down_formX z0_down_formY z0_down_foxX z0_down_foxY z0_down_seat a0_down_strength z0_down_debts z0_down_near z0_down_forms v0_down_hares z0_down_foxes v0_down_safe a0_row cyI u a0_down_strength cyI f0_down_strength) : va_W))) A) args s 0 0 A) (F0 m 7 ls []) := by
  obtain ⟨hx, hb, hr, hts, hown, hlocks, hml, hA, hK, hNw⟩ := id C0
  intro n
  induction n with
  | zero => intro H locs ls f0_row l1 l2 hP hD hS hl hw; exact False.elim hw
  | succ n ih =>
    intro H locs ls f0_row l1 l2 hP hD hS hl hw
    refine lv_iload_n hx hb (dt_of tkX1_strike_k0 5 rfl) rfl (lv_at hl 2 rfl) ?_
    refine lv_aload_n hx hb (dt_of tkX1_strike_k0 6 rfl) rfl (lv_at hl 0 rfl) ?_
    refine va_get (D := (dC, dI)) (ci := 1) (v := .ref a0_down) (C := RX1) (T := TX1) (N := 4) hx hb hts ui_X1_strike_X1 hown hK hP 0 rfl rfl 2 (by decide) (hts _ uw_X1_strike_f24) (fun _ h9 => h9) rfl (dt_of tkX1_strike_k0 7 rfl) ?_
    refine va_get (D := (dC, dI)) (ci := 2) (v := .int v0_down_hares) (C := RX2) (T := TX2) (N := 12) hx hb hts ui_X1_strike_X2 hown hK hP 1 rfl rfl 9 (by decide) (hts _ uw_X1_strike_f32) (fun _ h9 => h9) rfl (dt_of tkX1_strike_k0 8 rfl) ?_
    refine lv_icmp_ge (tgt := 80) hx hb (dt_of tkX1_strike_k0 9 rfl) (by decide) (fun c2 => ?_) (fun c2 => ?_)
    · have hw := hw.1 c2
      exact ((W.vret hx hb hr (fun t ht hW => ⟨⟨(f0_row), rfl, hw, by rw [ht]; exact hP, va_K.moved hW.alike hK, hD⟩, hS.F ht⟩) hS.2.2 (dt_of tkX1_strike_k80 0 rfl)))
    · have hw := hw.2 c2
      refine lv_iload_n hx hb (dt_of tkX1_strike_k0 10 rfl) rfl (lv_at hl 1 rfl) ?_
      refine lv_iload_n hx hb (dt_of tkX1_strike_k0 11 rfl) rfl (lv_at hl 2 rfl) ?_
      obtain ⟨hCc, hPc, hDc, hFc⟩ := va_pick (ws' := []) hP hD hS hA [] (by decide +kernel) rfl
      refine va_calli (va_runSN (As := [.int l1, .int l2]) (rest := []) ⟨hx, hb, hml, hown, hts⟩ (ck_X10_holds l dC dI cyB cyI cyJ cyP  H.size    l1 l2 hw) ⟨(va_cnB 2 hts gX1_strike_X10_holds_n120 rfl rfl rfl (nw_9 hNw) (hts _ uw_X1_strike_iniRX10) (by decide +kernel) ⟨Nat.le_of_ble_eq_true rfl, Nat.le_of_ble_eq_true rfl⟩), (hts _ uw_X1_strike_stX10_holds), trivial⟩ ⟨cPc_blind, cPc_pre hPc hK hDc hNw⟩ rfl rfl hl.1 rfl (lv_room (Nat.le_of_ble_eq_true rfl)) (dt_of tkX1_strike_k0 12 rfl) ⟨Nat.le_of_ble_eq_true rfl, Nat.le_of_ble_eq_true rfl⟩) hS (fun q _ h => hFc q h) hFc (fun r3 u t H1 locs ht hvm hw hB hz1 hk1 hS => ?_)
      obtain ⟨hP1, hK1, hD1⟩ := hB
      rw [ht] at hP1
      obtain ⟨hP, hD⟩ := va_joinI (wr := (wd00_10 a0 a0_row z0_owedEach a0_down z0_law a0_down z0_down_formX z0_down_formY z0_down_foxX z0_down_foxY z0_down_seat a0_down_strength z0_down_debts z0_down_near z0_down_forms v0_down_hares z0_down_foxes v0_down_safe a0_row cyI f0_row a0_down_strength cyI f0_down_strength)) (w1 := []) (wn := (wd00_10 a0 a0_row z0_owedEach a0_down z0_law a0_down z0_down_formX z0_down_formY z0_down_foxX z0_down_foxY z0_down_seat a0_down_strength z0_down_debts z0_down_near z0_down_forms v0_down_hares z0_down_foxes v0_down_safe a0_row cyI f0_row a0_down_strength cyI f0_down_strength)) hP hD [] [0, 1, 2, 3] hCc rfl (by decide +kernel) (by decide +kernel) rfl hk1 hFc hP1 hD1
      generalize H1 = H at hP hS ⊢
      refine lv_if_eq (tgt := 46) hx hb (dt_of tkX1_strike_k0 13 rfl) (by decide) (fun c4 => ?_) (fun c4 => ?_)
      · have hw := hw.1 c4
        refine lv_aload_n hx hb (dt_of tkX1_strike_k30 12 rfl) rfl (lv_at hl 0 rfl) ?_
        refine va_get (D := (dC, dI)) (ci := 1) (v := .ref a0_row) (C := RX1) (T := TX1) (N := 4) hx hb hts ui_X1_strike_X1 hown hK hP 0 rfl rfl 0 (by decide) (hts _ uw_X1_strike_f13) (fun _ h9 => h9) rfl (dt_of tkX1_strike_k30 13 rfl) ?_
        refine lv_bipush (v := 10) hx hb (dt_of tkX1_strike_k30 14 rfl) (by decide) ?_
        refine lv_iload_n hx hb (dt_of tkX1_strike_k30 15 rfl) rfl (lv_at hl 2 rfl) ?_
        refine lv_iadd hx hb (dt_of tkX1_strike_k53 0 rfl) ?_
        refine lv_topi (fun x5 ex5 => ?_)
        have hw := hw x5 ex5
        refine lv_aload_n hx hb (dt_of tkX1_strike_k53 1 rfl) rfl (lv_at hl 0 rfl) ?_
        refine va_get (D := (dC, dI)) (ci := 1) (v := .ref a0_down) (C := RX1) (T := TX1) (N := 4) hx hb hts ui_X1_strike_X1 hown hK hP 0 rfl rfl 2 (by decide) (hts _ uw_X1_strike_f24) (fun _ h9 => h9) rfl (dt_of tkX1_strike_k53 2 rfl) ?_
        refine va_get (D := (dC, dI)) (ci := 2) (v := .ref a0_down_strength) (C := RX2) (T := TX2) (N := 12) hx hb hts ui_X1_strike_X2 hown hK hP 1 rfl rfl 5 (by decide) (hts _ uw_X1_strike_f39) (fun _ h9 => h9) rfl (dt_of tkX1_strike_k53 3 rfl) ?_
        refine lv_iload_n hx hb (dt_of tkX1_strike_k53 4 rfl) rfl (lv_at hl 2 rfl) ?_
        obtain ⟨hi9, hw⟩ := hw
        refine va_iald hx hb hK hP 3 1 rfl rfl hi9 (dt_of tkX1_strike_k53 5 rfl) ?_
        refine lv_topi (fun x6 ex6 => ?_)
        have hw := hw x6 ex6
        obtain ⟨hi9, hw⟩ := hw
        refine va_iast hx hb hK hP hD hS 2 1 rfl rfl hi9 (dt_of tkX1_strike_k53 6 rfl) (fun H locs hP hD hS => ?_)
        obtain ⟨f7, ef7⟩ : ∃ y : Nat → Int32, y = upd f0_row x5.toNatClampNeg x6 := ⟨_, rfl⟩
        have hw := hw f7 ef7
        have hP : va_P (dC, dI) vwCl (wd00_10 a0 a0_row z0_owedEach a0_down z0_law a0_down z0_down_formX z0_down_formY z0_down_foxX z0_down_foxY z0_down_seat a0_down_strength z0_down_debts z0_down_near z0_down_forms v0_down_hares z0_down_foxes v0_down_safe a0_row cyI f7 a0_down_strength cyI f0_down_strength) H := by rw [ef7]; exact hP
        have hD : va_D A (wd00_10 a0 a0_row z0_owedEach a0_down z0_law a0_down z0_down_formX z0_down_formY z0_down_foxX z0_down_foxY z0_down_seat a0_down_strength z0_down_debts z0_down_near z0_down_forms v0_down_hares z0_down_foxes v0_down_safe a0_row cyI f7 a0_down_strength cyI f0_down_strength) := by rw [ef7]; exact hD
        refine lv_aload_n hx hb (dt_of tkX1_strike_k53 7 rfl) rfl (lv_at hl 0 rfl) ?_
        refine va_get (D := (dC, dI)) (ci := 1) (v := .ref a0_row) (C := RX1) (T := TX1) (N := 4) hx hb hts ui_X1_strike_X1 hown hK hP 0 rfl rfl 0 (by decide) (hts _ uw_X1_strike_f13) (fun _ h9 => h9) rfl (dt_of tkX1_strike_k53 8 rfl) ?_
        refine lv_bipush (v := 16) hx hb (dt_of tkX1_strike_k53 9 rfl) (by decide) ?_
        refine lv_iload_n hx hb (dt_of tkX1_strike_k53 10 rfl) rfl (lv_at hl 2 rfl) ?_
        refine lv_iadd hx hb (dt_of tkX1_strike_k53 11 rfl) ?_
        refine lv_topi (fun x8 ex8 => ?_)
        have hw := hw x8 ex8
        refine lv_iconst (v := 0) hx hb (dt_of tkX1_strike_k53 12 rfl) (by decide) ?_
        obtain ⟨hi9, hw⟩ := hw
        refine va_iast hx hb hK hP hD hS 2 1 rfl rfl hi9 (dt_of tkX1_strike_k53 13 rfl) (fun H locs hP hD hS => ?_)
        obtain ⟨f9, ef9⟩ : ∃ y : Nat → Int32, y = upd f7 x8.toNatClampNeg 0 := ⟨_, rfl⟩
        have hw := hw f9 ef9
        have hP : va_P (dC, dI) vwCl (wd00_10 a0 a0_row z0_owedEach a0_down z0_law a0_down z0_down_formX z0_down_formY z0_down_foxX z0_down_foxY z0_down_seat a0_down_strength z0_down_debts z0_down_near z0_down_forms v0_down_hares z0_down_foxes v0_down_safe a0_row cyI f9 a0_down_strength cyI f0_down_strength) H := by rw [ef9]; exact hP
        have hD : va_D A (wd00_10 a0 a0_row z0_owedEach a0_down z0_law a0_down z0_down_formX z0_down_formY z0_down_foxX z0_down_foxY z0_down_seat a0_down_strength z0_down_debts z0_down_near z0_down_forms v0_down_hares z0_down_foxes v0_down_safe a0_row cyI f9 a0_down_strength cyI f0_down_strength) := by rw [ef9]; exact hD
        exact kb_X1_strike_74 dC dI cyB cyI cyJ cyP a0 a0_down a0_row a0_down_strength z0_owedEach z0_law z0_down_formX z0_down_formY z0_down_foxX z0_down_foxY z0_down_seat z0_down_debts z0_down_near z0_down_forms z0_down_foxes v0_down_hares v0_down_safe f0_down_strength Q (wl_X1_strike_7 v0_down_hares v0_down_safe f0_down_strength Q  n) ih C0 _ _ _ f9 l1 l2 hP hD hS (lv_sub hl [0, 1, 2] rfl) hw
      · have hw := hw.2 c4
        refine lv_aload_n hx hb (dt_of tkX1_strike_k0 14 rfl) rfl (lv_at hl 0 rfl) ?_
        refine va_get (D := (dC, dI)) (ci := 1) (v := .ref a0_row) (C := RX1) (T := TX1) (N := 4) hx hb hts ui_X1_strike_X1 hown hK hP 0 rfl rfl 0 (by decide) (hts _ uw_X1_strike_f13) (fun _ h9 => h9) rfl (dt_of tkX1_strike_k0 15 rfl) ?_
        refine lv_iconst (v := 2) hx hb (dt_of tkX1_strike_k30 0 rfl) (by decide) ?_
        refine lv_dup2_11 hx hb (dt_of tkX1_strike_k30 1 rfl) rfl rfl ?_
        refine va_iald hx hb hK hP 2 1 rfl rfl (vin (by decide)) (dt_of tkX1_strike_k30 2 rfl) ?_
        refine lv_topi (fun x10 ex10 => ?_)
        have hw := hw x10 ex10
        refine lv_iconst (v := 1) hx hb (dt_of tkX1_strike_k30 3 rfl) (by decide) ?_
        refine lv_iload_n hx hb (dt_of tkX1_strike_k30 4 rfl) rfl (lv_at hl 2 rfl) ?_
        refine lv_ishl hx hb (dt_of tkX1_strike_k30 5 rfl) ?_
        refine lv_ior hx hb (dt_of tkX1_strike_k30 6 rfl) ?_
        refine lv_topi (fun x11 ex11 => ?_)
        have hw := hw x11 ex11
        refine va_iast hx hb hK hP hD hS 2 1 rfl rfl (vin (by decide)) (dt_of tkX1_strike_k30 7 rfl) (fun H locs hP hD hS => ?_)
        obtain ⟨f12, ef12⟩ : ∃ y : Nat → Int32, y = upd f0_row (2 : Int32).toNatClampNeg x11 := ⟨_, rfl⟩
        have hw := hw f12 ef12
        have hP : va_P (dC, dI) vwCl (wd00_10 a0 a0_row z0_owedEach a0_down z0_law a0_down z0_down_formX z0_down_formY z0_down_foxX z0_down_foxY z0_down_seat a0_down_strength z0_down_debts z0_down_near z0_down_forms v0_down_hares z0_down_foxes v0_down_safe a0_row cyI f12 a0_down_strength cyI f0_down_strength) H := by rw [ef12]; exact hP
        have hD : va_D A (wd00_10 a0 a0_row z0_owedEach a0_down z0_law a0_down z0_down_formX z0_down_formY z0_down_foxX z0_down_foxY z0_down_seat a0_down_strength z0_down_debts z0_down_near z0_down_forms v0_down_hares z0_down_foxes v0_down_safe a0_row cyI f12 a0_down_strength cyI f0_down_strength) := by rw [ef12]; exact hD
        refine lv_aload_n hx hb (dt_of tkX1_strike_k30 8 rfl) rfl (lv_at hl 0 rfl) ?_
        refine lv_iload_n hx hb (dt_of tkX1_strike_k30 9 rfl) rfl (lv_at hl 2 rfl) ?_
        obtain ⟨hCc, hPc, hDc, hFc⟩ := va_pick (ws' := (wd00_11 a0 a0_row z0_owedEach a0_down z0_law a0_down z0_down_formX z0_down_formY z0_down_foxX z0_down_foxY z0_down_seat a0_down_strength z0_down_debts z0_down_near z0_down_forms v0_down_hares z0_down_foxes v0_down_safe a0_row cyI f12)) hP hD hS hA [0, 1, 2] (by decide +kernel) rfl
        refine va_callv (va_runV (As := [.int l2]) (rest := []) ⟨hx, hb, hml, hown, hts⟩ (ck_X1_dropDebts l dC dI cyB cyI cyJ cyP a0 a0_down a0_row H.size (z0_owedEach) (z0_law) (z0_down_formX) (z0_down_formY) (z0_down_foxX) (z0_down_foxY) (z0_down_seat) (.ref a0_down_strength) (z0_down_debts) (z0_down_near) (z0_down_forms) (z0_down_foxes) (.int v0_down_safe) v0_down_hares f12 l2 hw) (cwV 1 hts gX1_strike_X1_dropDebts rfl rfl rfl (by decide +kernel) ⟨Nat.le_of_ble_eq_true rfl, Nat.le_of_ble_eq_true rfl⟩) ⟨cPc_blind, va_recv (q := (RX1, TX1, 4)) hK hPc (ci := 1) (q0 := 0) rfl rfl, cPc_pre hPc hK hDc hNw⟩ rfl rfl hl.1 rfl (lv_room (Nat.le_of_ble_eq_true rfl)) (dt_of tkX1_strike_k30 10 rfl) ⟨Nat.le_of_ble_eq_true rfl, Nat.le_of_ble_eq_true rfl⟩) hS (fun q _ h => hFc q h) hFc (fun u t H1 locs ht hvm hw hB hz1 hk1 hS => ?_)
        obtain ⟨f13, rfl⟩ : ∃ z, z = u := ⟨_, rfl⟩
        obtain ⟨hP1, hK1, hD1⟩ := hB
        rw [ht] at hP1
        obtain ⟨hP, hD⟩ := va_joinN (wr := (wd00_12 a0_down_strength cyI f0_down_strength)) (w1 := (wd00_11 a0 a0_row z0_owedEach a0_down z0_law a0_down z0_down_formX z0_down_formY z0_down_foxX z0_down_foxY z0_down_seat a0_down_strength z0_down_debts z0_down_near z0_down_forms v0_down_hares z0_down_foxes v0_down_safe a0_row cyI f13)) (wn := (wd00_10 a0 a0_row z0_owedEach a0_down z0_law a0_down z0_down_formX z0_down_formY z0_down_foxX z0_down_foxY z0_down_seat a0_down_strength z0_down_debts z0_down_near z0_down_forms v0_down_hares z0_down_foxes v0_down_safe a0_row cyI f13 a0_down_strength cyI f0_down_strength)) hP hD [0, 1, 2] [3] [1, 2, 3, 0] hCc rfl (by decide +kernel) (by decide +kernel) (by decide +kernel) rfl hk1 hFc hP1 hD1
        generalize H1 = H at hP hS ⊢
        refine lv_goto (tgt := 74) hx hb (dt_of tkX1_strike_k30 11 rfl) (by decide) ?_
        exact kb_X1_strike_74 dC dI cyB cyI cyJ cyP a0 a0_down a0_row a0_down_strength z0_owedEach z0_law z0_down_formX z0_down_formY z0_down_foxX z0_down_foxY z0_down_seat z0_down_debts z0_down_near z0_down_forms z0_down_foxes v0_down_hares v0_down_safe f0_down_strength Q (wl_X1_strike_7 v0_down_hares v0_down_safe f0_down_strength Q  n) ih C0 _ _ _ f13 l1 l2 hP hD hS (lv_sub hl [0, 1, 2] rfl) hw
set_option maxHeartbeats 4000000 in
set_option maxRecDepth 100000 in
theorem ck_X1_strike (l : Launch) (dC : Nat → ClassId) (dI : Nat → Nat → Nat) (cyB cyI cyJ cyP : ClassId) (a0 a0_down a0_row a0_down_strength : Nat) (sz : Nat) (z0_owedEach : Value) (z0_law : Value) (z0_down_formX : Value) (z0_down_formY : Value) (z0_down_foxX : Value) (z0_down_foxY : Value) (z0_down_seat : Value) (z0_down_debts : Value) (z0_down_near : Value) (z0_down_forms : Value) (z0_down_foxes : Value) (v0_down_hares : Int32) (v0_down_safe : Int32) (f0_down_strength : Nat → Int32) (f0_row : Nat → Int32)  {Q : (Nat → Int32) → Prop} (hw : wq_X1_strike v0_down_hares v0_down_safe f0_down_strength f0_row  Q) : Met l yX1_strike wsX1_strike ({ frames := 3, cells := 0, slots := 0, locals := 64 }) (va_Pc [.ref a0] (cPc (dC, dI) (kT cyB cyI cyJ cyP) (wd00_10 a0 a0_row z0_owedEach a0_down z0_law a0_down z0_down_formX z0_down_formY z0_down_foxX z0_down_foxY z0_down_seat a0_down_strength z0_down_debts z0_down_near z0_down_forms v0_down_hares z0_down_foxes v0_down_safe a0_row cyI f0_row a0_down_strength cyI f0_down_strength) sz)) (va_Qv (fun (u : (Nat → Int32)) => Q u) (cB (dC, dI) (kT cyB cyI cyJ cyP) (va_A (wd00_10 a0 a0_row z0_owedEach a0_down z0_law a0_down z0_down_formX z0_down_formY z0_down_foxX z0_down_foxY z0_down_seat a0_down_strength z0_down_debts z0_down_near z0_down_forms v0_down_hares z0_down_foxes v0_down_safe a0_row cyI f0_row a0_down_strength cyI f0_down_strength) sz) (fun u : (Nat → Int32) => ((wd00_10 a0 a0_row z0_owedEach a0_down z0_law a0_down z0_down_formX z0_down_formY z0_down_foxX z0_down_foxY z0_down_seat a0_down_strength z0_down_debts z0_down_near z0_down_forms v0_down_hares z0_down_foxes v0_down_safe a0_row cyI u a0_down_strength cyI f0_down_strength) : va_W))) (va_A (wd00_10 a0 a0_row z0_owedEach a0_down z0_law a0_down z0_down_formX z0_down_formY z0_down_foxX z0_down_foxY z0_down_seat a0_down_strength z0_down_debts z0_down_near z0_down_forms v0_down_hares z0_down_foxes v0_down_safe a0_row cyI f0_row a0_down_strength cyI f0_down_strength) sz)) 0 0 (va_A (wd00_10 a0 a0_row z0_owedEach a0_down z0_law a0_down z0_down_formX z0_down_formY z0_down_foxX z0_down_foxY z0_down_seat a0_down_strength z0_down_debts z0_down_near z0_down_forms v0_down_hares z0_down_foxes v0_down_safe a0_row cyI f0_row a0_down_strength cyI f0_down_strength) sz) := by
  refine Met.ofW (cc := cX1_strike) (maxL := 3) (ret := none) (by decide) rfl ?_
  intro p e s m args below meth c s₁ B hml hv
  obtain ⟨rfl, hsz, hP, hK, hD0, hNw⟩ := hv
  have hx := B.exec
  have hb := B.bytes
  have hr := B.returns
  have hts := atoms_spec (ws := wsX1_strike) B.pre
  have hown : s.vm.findClass RX1 = some m.cls := findClass_of_methodNamed B.named
  have hlocks := B.notSynchronized
  subst hsz
  have hD := hD0.self (sz := s.heap.size)
  generalize hAe : va_A (wd00_10 a0 a0_row z0_owedEach a0_down z0_law a0_down z0_down_formX z0_down_formY z0_down_foxX z0_down_foxY z0_down_seat a0_down_strength z0_down_debts z0_down_near z0_down_forms v0_down_hares z0_down_foxes v0_down_safe a0_row cyI f0_row a0_down_strength cyI f0_down_strength) s.heap.size = A at hD ⊢
  have hA : ∀ q : Nat, s.heap.size ≤ q → A q := fun q h => by rw [← hAe]; exact Or.inr h
  have hS : va_S A s.heap s.heap [] := va_S.rf
  have hP : va_P (dC, dI) vwCl (wd00_10 a0 a0_row z0_owedEach a0_down z0_law a0_down z0_down_formX z0_down_formY z0_down_foxX z0_down_foxY z0_down_seat a0_down_strength z0_down_debts z0_down_near z0_down_forms v0_down_hares z0_down_foxes v0_down_safe a0_row cyI f0_row a0_down_strength cyI f0_down_strength) s.heap := hP
  have hl := lv_entry ([.ref a0]) (n := 3) (Nat.le_of_ble_eq_true rfl)
  rw [lg_entry_eq]
  generalize (lg_sl ([.ref a0]) ++ List.replicate (3 - (lg_sl ([.ref a0])).length) Slot.unset).toArray = ls at hl ⊢
  have hl : lv_has ls 3 [(0, .ref a0)] := hl
  have C0 : cfx p s m _ meth c cX1_strike none wsX1_strike RX1 3 A (dC, dI) (kT cyB cyI cyJ cyP) := ⟨hx, hb, hr, hts, hown, hlocks, hml, hA, hK, hNw⟩
  clear hAe
  obtain ⟨H, hH⟩ : ∃ H, H = s.heap := ⟨_, rfl⟩
  rw [← hH] at hP ⊢
  have hS : va_S A s.heap H [] := by rw [hH]; exact va_S.rf
  have hS := hS
  refine lv_aload_n hx hb (dt_of tkX1_strike_k0 0 rfl) rfl (lv_at hl 0 rfl) ?_
  obtain ⟨hCc, hPc, hDc, hFc⟩ := va_pick (ws' := (wd00_11 a0 a0_row z0_owedEach a0_down z0_law a0_down z0_down_formX z0_down_formY z0_down_foxX z0_down_foxY z0_down_seat a0_down_strength z0_down_debts z0_down_near z0_down_forms v0_down_hares z0_down_foxes v0_down_safe a0_row cyI f0_row)) hP hD hS hA [0, 1, 2] (by decide +kernel) rfl
  refine va_calli (va_runV (As := []) (rest := []) ⟨hx, hb, hml, hown, hts⟩ (ck_X1_endangered l dC dI cyB cyI cyJ cyP a0 a0_down a0_row H.size (z0_owedEach) (z0_law) (z0_down_formX) (z0_down_formY) (z0_down_foxX) (z0_down_foxY) (z0_down_seat) (.ref a0_down_strength) (z0_down_debts) (z0_down_near) (z0_down_forms) (z0_down_foxes) v0_down_hares v0_down_safe f0_row   hw) (cwV 0 hts gX1_strike_X1_endangered rfl rfl rfl (by decide +kernel) ⟨Nat.le_of_ble_eq_true rfl, Nat.le_of_ble_eq_true rfl⟩) ⟨cPc_blind, va_recv (q := (RX1, TX1, 4)) hK hPc (ci := 1) (q0 := 0) rfl rfl, cPc_pre hPc hK hDc hNw⟩ rfl rfl hl.1 rfl (lv_room (Nat.le_of_ble_eq_true rfl)) (dt_of tkX1_strike_k0 1 rfl) ⟨Nat.le_of_ble_eq_true rfl, Nat.le_of_ble_eq_true rfl⟩) hS (fun q _ h => hFc q h) hFc (fun r1 u t H1 locs ht hvm hw hB hz1 hk1 hS => ?_)
  obtain ⟨hP1, hK1, hD1⟩ := hB
  rw [ht] at hP1
  obtain ⟨hP, hD⟩ := va_joinN (wr := (wd00_12 a0_down_strength cyI f0_down_strength)) (w1 := (wd00_11 a0 a0_row z0_owedEach a0_down z0_law a0_down z0_down_formX z0_down_formY z0_down_foxX z0_down_foxY z0_down_seat a0_down_strength z0_down_debts z0_down_near z0_down_forms v0_down_hares z0_down_foxes v0_down_safe a0_row cyI f0_row)) (wn := (wd00_10 a0 a0_row z0_owedEach a0_down z0_law a0_down z0_down_formX z0_down_formY z0_down_foxX z0_down_foxY z0_down_seat a0_down_strength z0_down_debts z0_down_near z0_down_forms v0_down_hares z0_down_foxes v0_down_safe a0_row cyI f0_row a0_down_strength cyI f0_down_strength)) hP hD [0, 1, 2] [3] [1, 2, 3, 0] hCc rfl (by decide +kernel) (by decide +kernel) (by decide +kernel) rfl hk1 hFc hP1 hD1
  generalize H1 = H at hP hS ⊢
  refine lv_istore_n (lv' := [(1, .int r1), (0, .ref a0)]) hx hb (dt_of tkX1_strike_k0 2 rfl) rfl hl (by decide) rfl (fun ls hl => ?_)
  refine lv_iconst (v := 0) hx hb (dt_of tkX1_strike_k0 3 rfl) (by decide) ?_
  refine lv_istore_n (lv' := [(2, .int 0), (1, .int r1), (0, .ref a0)]) hx hb (dt_of tkX1_strike_k0 4 rfl) rfl hl (by decide) rfl (fun ls hl => ?_)
  obtain ⟨n9, hw⟩ := hw
  exact kl_X1_strike_7 dC dI cyB cyI cyJ cyP a0 a0_down a0_row a0_down_strength z0_owedEach z0_law z0_down_formX z0_down_formY z0_down_foxX z0_down_foxY z0_down_seat z0_down_debts z0_down_near z0_down_forms z0_down_foxes v0_down_hares v0_down_safe f0_down_strength Q  C0 n9 _ _ _ f0_row r1 0 hP hD hS (lv_sub hl [2, 1, 0] rfl) hw
theorem ui_X1_passDay_X1 : ∀ w ∈ u_ws RX1 TX1 4, w ∈ wsX1_passDay := uiM mbX1_passDay euX1 (by decide +kernel)
theorem ui_X1_passDay_X2 : ∀ w ∈ u_ws RX2 TX2 12, w ∈ wsX1_passDay := uiM mbX1_passDay euX2 (by decide +kernel)
theorem uw_X1_passDay_f13 : (.fieldLink RX1 13 "MarchHares$Days" "row" "[I" : Cond) ∈ wsX1_passDay := mbX1_passDay 276 (by decide +kernel)
theorem uw_X1_passDay_f24 : (.fieldLink RX1 24 "MarchHares$Days" "down" "LMarchHares$Down;" : Cond) ∈ wsX1_passDay := mbX1_passDay 322 (by decide +kernel)
theorem uw_X1_passDay_f32 : (.fieldLink RX1 32 "MarchHares$Down" "hares" "I" : Cond) ∈ wsX1_passDay := mbX1_passDay 324 (by decide +kernel)
theorem uw_X1_passDay_iniRX10 : (.initialized RX10 : Cond) ∈ wsX1_passDay := mbX1_passDay 2 (by decide +kernel)
theorem uw_X1_passDay_stX10_holds : (.static yX10_holds : Cond) ∈ wsX1_passDay := mbX1_passDay 2052 (by decide +kernel)
set_option maxHeartbeats 4000000 in
set_option maxRecDepth 100000 in
theorem kb_X1_passDay_46 {p : Program} {l : Launch} {e : Env} {s : State} {m : MethodId} {args : Array Value} {below : List Frame} {meth : Method} {c : Code} {A : Nat → Prop} (dC : Nat → ClassId) (dI : Nat → Nat → Nat) (cyB cyI cyJ cyP : ClassId) (a0 a0_down a0_row a0_down_strength : Nat) (z0_owedEach : Value) (z0_law : Value) (z0_down_formX : Value) (z0_down_formY : Value) (z0_down_foxX : Value) (z0_down_foxY : Value) (z0_down_seat : Value) (z0_down_debts : Value) (z0_down_near : Value) (z0_down_forms : Value) (z0_down_foxes : Value) (v0_down_hares : Int32) (v0_down_safe : Int32) (f0_down_strength : Nat → Int32) (Q : (Nat → Int32) → Prop) (K2 : (Nat → Int32) → Int32 → Prop) (hK2 : ∀ (H : Heap) (locs : List Loc) (ls : Array Slot) (f0_row : Nat → Int32) (l1 : Int32), va_P (dC, dI) vwCl (wd00_10 a0 a0_row z0_owedEach a0_down z0_law a0_down z0_down_formX z0_down_formY z0_down_foxX z0_down_foxY z0_down_seat a0_down_strength z0_down_debts z0_down_near z0_down_forms v0_down_hares z0_down_foxes v0_down_safe a0_row cyI f0_row a0_down_strength cyI f0_down_strength) H → va_D A (wd00_10 a0 a0_row z0_owedEach a0_down z0_law a0_down z0_down_formX z0_down_formY z0_down_foxX z0_down_foxY z0_down_seat a0_down_strength z0_down_debts z0_down_near z0_down_forms v0_down_hares z0_down_foxes v0_down_safe a0_row cyI f0_row a0_down_strength cyI f0_down_strength) → va_S A s.heap H locs → lv_has ls 2 [(0, .ref a0), (1, .int l1)] → K2 f0_row l1 → W p l e (headSpec wsX1_passDay ({ frames := 4, cells := 0, slots := 0, locals := 86 })).room s m args below meth c H locs 0 0 (MQ below (va_Qv (fun (u : (Nat → Int32)) => Q u) (cB (dC, dI) (kT cyB cyI cyJ cyP) A (fun u : (Nat → Int32) => ((wd00_10 a0 a0_row z0_owedEach a0_down z0_law a0_down z0_down_formX z0_down_formY z0_down_foxX z0_down_foxY z0_down_seat a0_down_strength z0_down_debts z0_down_near z0_down_forms v0_down_hares z0_down_foxes v0_down_safe a0_row cyI u a0_down_strength cyI f0_down_strength) : va_W))) A) args s 0 0 A) (F0 m 2 ls [])) (C0 : cfx p s m args meth c cX1_passDay none wsX1_passDay RX1 2 A (dC, dI) (kT cyB cyI cyJ cyP)) : ∀ (H : Heap) (locs : List Loc) (ls : Array Slot) (f0_row : Nat → Int32) (l1 : Int32), va_P (dC, dI) vwCl (wd00_10 a0 a0_row z0_owedEach a0_down z0_law a0_down z0_down_formX z0_down_formY z0_down_foxX z0_down_foxY z0_down_seat a0_down_strength z0_down_debts z0_down_near z0_down_forms v0_down_hares z0_down_foxes v0_down_safe a0_row cyI f0_row a0_down_strength cyI f0_down_strength) H → va_D A (wd00_10 a0 a0_row z0_owedEach a0_down z0_law a0_down z0_down_formX z0_down_formY z0_down_foxX z0_down_foxY z0_down_seat a0_down_strength z0_down_debts z0_down_near z0_down_forms v0_down_hares z0_down_foxes v0_down_safe a0_row cyI f0_row a0_down_strength cyI f0_down_strength) → va_S A s.heap H locs → lv_has ls 2 [(0, .ref a0), (1, .int l1)] → wb_X1_passDay_46 v0_down_hares v0_down_safe f0_down_strength Q K2 f0_row l1 → W p l e (headSpec wsX1_passDay ({ frames := 4, cells := 0, slots := 0, locals := 86 })).room s m args below meth c H locs 0 0 (MQ below (va_Qv (fun (u : (Nat → Int32)) => Q u) (cB (dC, dI) (kT cyB cyI cyJ cyP) A (fun u : (Nat → Int32) => ((wd00_10 a0 a0_row z0_owedEach a0_down z0_law a0_down z0_down_formX z0_down_formY z0_down_foxX z0_down_foxY z0_down_seat a0_down_strength z0_down_debts z0_down_near z0_down_forms v0_down_hares z0_down_foxes v0_down_safe a0_row cyI u a0_down_strength cyI f0_down_strength) : va_W))) A) args s 0 0 A) (F0 m 46 ls []) := by
  obtain ⟨hx, hb, hr, hts, hown, hlocks, hml, hA, hK, hNw⟩ := id C0
  intro H locs ls f0_row l1 hP hD hS hl hw
  obtain ⟨x21, ex21⟩ : ∃ y : Int32, y = l1 + 1 := ⟨_, rfl⟩
  have hw := hw x21 ex21
  refine lv_iinc (v := x21) (lv' := [(1, .int x21), (0, .ref a0)]) hx hb (dt_of tkX1_passDay_k26 13 rfl) hl (k := 1) rfl (by rw [ex21]; rfl) (by decide) rfl (fun ls hl => ?_)
  refine lv_goto (tgt := 2) hx hb (dt_of tkX1_passDay_k26 14 rfl) (by decide) ?_
  exact hK2 _ _ _ f0_row x21 hP hD hS (lv_sub hl [1, 0] rfl) hw
set_option maxHeartbeats 4000000 in
set_option maxRecDepth 100000 in
theorem kl_X1_passDay_2 {p : Program} {l : Launch} {e : Env} {s : State} {m : MethodId} {args : Array Value} {below : List Frame} {meth : Method} {c : Code} {A : Nat → Prop} (dC : Nat → ClassId) (dI : Nat → Nat → Nat) (cyB cyI cyJ cyP : ClassId) (a0 a0_down a0_row a0_down_strength : Nat) (z0_owedEach : Value) (z0_law : Value) (z0_down_formX : Value) (z0_down_formY : Value) (z0_down_foxX : Value) (z0_down_foxY : Value) (z0_down_seat : Value) (z0_down_debts : Value) (z0_down_near : Value) (z0_down_forms : Value) (z0_down_foxes : Value) (v0_down_hares : Int32) (v0_down_safe : Int32) (f0_down_strength : Nat → Int32) (Q : (Nat → Int32) → Prop)  (C0 : cfx p s m args meth c cX1_passDay none wsX1_passDay RX1 2 A (dC, dI) (kT cyB cyI cyJ cyP)) : ∀ (n : Nat) (H : Heap) (locs : List Loc) (ls : Array Slot) (f0_row : Nat → Int32) (l1 : Int32), va_P (dC, dI) vwCl (wd00_10 a0 a0_row z0_owedEach a0_down z0_law a0_down z0_down_formX z0_down_formY z0_down_foxX z0_down_foxY z0_down_seat a0_down_strength z0_down_debts z0_down_near z0_down_forms v0_down_hares z0_down_foxes v0_down_safe a0_row cyI f0_row a0_down_strength cyI f0_down_strength) H → va_D A (wd00_10 a0 a0_row z0_owedEach a0_down z0_law a0_down z0_down_formX z0_down_formY z0_down_foxX z0_down_foxY z0_down_seat a0_down_strength z0_down_debts z0_down_near z0_down_forms v0_down_hares z0_down_foxes v0_down_safe a0_row cyI f0_row a0_down_strength cyI f0_down_strength) → va_S A s.heap H locs → lv_has ls 2 [(0, .ref a0), (1, .int l1)] → wl_X1_passDay_2 v0_down_hares v0_down_safe f0_down_strength Q  n f0_row l1 → W p l e (headSpec wsX1_passDay ({ frames := 4, cells := 0, slots := 0, locals := 86 })).room s m args below meth c H locs 0 0 (MQ below (va_Qv (fun (u : (Nat → Int32)) => Q u) (cB (dC, dI) (kT cyB cyI cyJ cyP) A (fun u : (Nat → Int32) => ((wd00_10 a0 a0_row z0_owedEach a0_down z0_law a0_down z0_down_formX z0_down_formY z0_down_foxX z0_down_foxY z0_down_seat a0_down_strength z0_down_debts z0_down_near z0_down_forms v0_down_hares z0_down_foxes v0_down_safe a0_row cyI u a0_down_strength cyI f0_down_strength) : va_W))) A) args s 0 0 A) (F0 m 2 ls []) := by
  obtain ⟨hx, hb, hr, hts, hown, hlocks, hml, hA, hK, hNw⟩ := id C0
  intro n
  induction n with
  | zero => intro H locs ls f0_row l1 hP hD hS hl hw; exact False.elim hw
  | succ n ih =>
    intro H locs ls f0_row l1 hP hD hS hl hw
    refine lv_iload_n hx hb (dt_of tkX1_passDay_k0 2 rfl) rfl (lv_at hl 1 rfl) ?_
    refine lv_aload_n hx hb (dt_of tkX1_passDay_k0 3 rfl) rfl (lv_at hl 0 rfl) ?_
    refine va_get (D := (dC, dI)) (ci := 1) (v := .ref a0_down) (C := RX1) (T := TX1) (N := 4) hx hb hts ui_X1_passDay_X1 hown hK hP 0 rfl rfl 2 (by decide) (hts _ uw_X1_passDay_f24) (fun _ h9 => h9) rfl (dt_of tkX1_passDay_k0 4 rfl) ?_
    refine va_get (D := (dC, dI)) (ci := 2) (v := .int v0_down_hares) (C := RX2) (T := TX2) (N := 12) hx hb hts ui_X1_passDay_X2 hown hK hP 1 rfl rfl 9 (by decide) (hts _ uw_X1_passDay_f32) (fun _ h9 => h9) rfl (dt_of tkX1_passDay_k0 5 rfl) ?_
    refine lv_icmp_ge (tgt := 52) hx hb (dt_of tkX1_passDay_k0 6 rfl) (by decide) (fun c1 => ?_) (fun c1 => ?_)
    · have hw := hw.1 c1
      refine lv_aload_n hx hb (dt_of tkX1_passDay_k26 15 rfl) rfl (lv_at hl 0 rfl) ?_
      refine va_get (D := (dC, dI)) (ci := 1) (v := .ref a0_row) (C := RX1) (T := TX1) (N := 4) hx hb hts ui_X1_passDay_X1 hown hK hP 0 rfl rfl 0 (by decide) (hts _ uw_X1_passDay_f13) (fun _ h9 => h9) rfl (dt_of tkX1_passDay_k53 0 rfl) ?_
      refine lv_iconst (v := 3) hx hb (dt_of tkX1_passDay_k53 1 rfl) (by decide) ?_
      refine lv_iconst (v := 0) hx hb (dt_of tkX1_passDay_k53 2 rfl) (by decide) ?_
      refine va_iast hx hb hK hP hD hS 2 1 rfl rfl (vin (by decide)) (dt_of tkX1_passDay_k53 3 rfl) (fun H locs hP hD hS => ?_)
      obtain ⟨f2, ef2⟩ : ∃ y : Nat → Int32, y = upd f0_row (3 : Int32).toNatClampNeg 0 := ⟨_, rfl⟩
      have hw := hw f2 ef2
      have hP : va_P (dC, dI) vwCl (wd00_10 a0 a0_row z0_owedEach a0_down z0_law a0_down z0_down_formX z0_down_formY z0_down_foxX z0_down_foxY z0_down_seat a0_down_strength z0_down_debts z0_down_near z0_down_forms v0_down_hares z0_down_foxes v0_down_safe a0_row cyI f2 a0_down_strength cyI f0_down_strength) H := by rw [ef2]; exact hP
      have hD : va_D A (wd00_10 a0 a0_row z0_owedEach a0_down z0_law a0_down z0_down_formX z0_down_formY z0_down_foxX z0_down_foxY z0_down_seat a0_down_strength z0_down_debts z0_down_near z0_down_forms v0_down_hares z0_down_foxes v0_down_safe a0_row cyI f2 a0_down_strength cyI f0_down_strength) := by rw [ef2]; exact hD
      refine lv_aload_n hx hb (dt_of tkX1_passDay_k53 4 rfl) rfl (lv_at hl 0 rfl) ?_
      refine va_get (D := (dC, dI)) (ci := 1) (v := .ref a0_row) (C := RX1) (T := TX1) (N := 4) hx hb hts ui_X1_passDay_X1 hown hK hP 0 rfl rfl 0 (by decide) (hts _ uw_X1_passDay_f13) (fun _ h9 => h9) rfl (dt_of tkX1_passDay_k53 5 rfl) ?_
      refine lv_iconst (v := 0) hx hb (dt_of tkX1_passDay_k53 6 rfl) (by decide) ?_
      refine lv_dup2_11 hx hb (dt_of tkX1_passDay_k53 7 rfl) rfl rfl ?_
      refine va_iald hx hb hK hP 2 1 rfl rfl (vin (by decide)) (dt_of tkX1_passDay_k53 8 rfl) ?_
      refine lv_topi (fun x3 ex3 => ?_)
      have hw := hw x3 ex3
      refine lv_iconst (v := 1) hx hb (dt_of tkX1_passDay_k53 9 rfl) (by decide) ?_
      refine lv_iadd hx hb (dt_of tkX1_passDay_k53 10 rfl) ?_
      refine lv_topi (fun x4 ex4 => ?_)
      have hw := hw x4 ex4
      refine va_iast hx hb hK hP hD hS 2 1 rfl rfl (vin (by decide)) (dt_of tkX1_passDay_k53 11 rfl) (fun H locs hP hD hS => ?_)
      obtain ⟨f5, ef5⟩ : ∃ y : Nat → Int32, y = upd f2 (0 : Int32).toNatClampNeg x4 := ⟨_, rfl⟩
      have hw := hw f5 ef5
      have hP : va_P (dC, dI) vwCl (wd00_10 a0 a0_row z0_owedEach a0_down z0_law a0_down z0_down_formX z0_down_formY z0_down_foxX z0_down_foxY z0_down_seat a0_down_strength z0_down_debts z0_down_near z0_down_forms v0_down_hares z0_down_foxes v0_down_safe a0_row cyI f5 a0_down_strength cyI f0_down_strength) H := by rw [ef5]; exact hP
      have hD : va_D A (wd00_10 a0 a0_row z0_owedEach a0_down z0_law a0_down z0_down_formX z0_down_formY z0_down_foxX z0_down_foxY z0_down_seat a0_down_strength z0_down_debts z0_down_near z0_down_forms v0_down_hares z0_down_foxes v0_down_safe a0_row cyI f5 a0_down_strength cyI f0_down_strength) := by rw [ef5]; exact hD
      refine lv_aload_n hx hb (dt_of tkX1_passDay_k53 12 rfl) rfl (lv_at hl 0 rfl) ?_
      refine va_get (D := (dC, dI)) (ci := 1) (v := .ref a0_row) (C := RX1) (T := TX1) (N := 4) hx hb hts ui_X1_passDay_X1 hown hK hP 0 rfl rfl 0 (by decide) (hts _ uw_X1_passDay_f13) (fun _ h9 => h9) rfl (dt_of tkX1_passDay_k53 13 rfl) ?_
      refine lv_iconst (v := 0) hx hb (dt_of tkX1_passDay_k53 14 rfl) (by decide) ?_
      refine va_iald hx hb hK hP 2 1 rfl rfl (vin (by decide)) (dt_of tkX1_passDay_k53 15 rfl) ?_
      refine lv_topi (fun x6 ex6 => ?_)
      have hw := hw x6 ex6
      refine lv_bipush (v := 31) hx hb (dt_of tkX1_passDay_k75 0 rfl) (by decide) ?_
      refine lv_icmp_le (tgt := 101) hx hb (dt_of tkX1_passDay_k75 1 rfl) (by decide) (fun c7 => ?_) (fun c7 => ?_)
      · have hw := hw.1 c7
        exact ((W.vret hx hb hr (fun t ht hW => ⟨⟨(f5), rfl, hw, by rw [ht]; exact hP, va_K.moved hW.alike hK, hD⟩, hS.F ht⟩) hS.2.2 (dt_of tkX1_passDay_k100 1 rfl)))
      · have hw := hw.2 c7
        refine lv_aload_n hx hb (dt_of tkX1_passDay_k75 2 rfl) rfl (lv_at hl 0 rfl) ?_
        obtain ⟨hCc, hPc, hDc, hFc⟩ := va_pick (ws' := (wd00_10 a0 a0_row z0_owedEach a0_down z0_law a0_down z0_down_formX z0_down_formY z0_down_foxX z0_down_foxY z0_down_seat a0_down_strength z0_down_debts z0_down_near z0_down_forms v0_down_hares z0_down_foxes v0_down_safe a0_row cyI f5 a0_down_strength cyI f0_down_strength)) hP hD hS hA [0, 1, 2, 3] (by decide +kernel) rfl
        refine va_callv (va_runV (As := []) (rest := []) ⟨hx, hb, hml, hown, hts⟩ (ck_X1_strike l dC dI cyB cyI cyJ cyP a0 a0_down a0_row a0_down_strength H.size (z0_owedEach) (z0_law) (z0_down_formX) (z0_down_formY) (z0_down_foxX) (z0_down_foxY) (z0_down_seat) (z0_down_debts) (z0_down_near) (z0_down_forms) (z0_down_foxes) v0_down_hares v0_down_safe f0_down_strength f5  hw) (cwV 0 hts gX1_passDay_X1_strike rfl rfl rfl (by decide +kernel) ⟨Nat.le_of_ble_eq_true rfl, Nat.le_of_ble_eq_true rfl⟩) ⟨cPc_blind, va_recv (q := (RX1, TX1, 4)) hK hPc (ci := 1) (q0 := 0) rfl rfl, cPc_pre hPc hK hDc hNw⟩ rfl rfl hl.1 rfl (lv_room (Nat.le_of_ble_eq_true rfl)) (dt_of tkX1_passDay_k75 3 rfl) ⟨Nat.le_of_ble_eq_true rfl, Nat.le_of_ble_eq_true rfl⟩) hS (fun q _ h => hFc q h) hFc (fun u t H1 locs ht hvm hw hB hz1 hk1 hS => ?_)
        obtain ⟨f8, rfl⟩ : ∃ z, z = u := ⟨_, rfl⟩
        obtain ⟨hP1, hK1, hD1⟩ := hB
        rw [ht] at hP1
        obtain ⟨hP, hD⟩ := va_joinI (wr := []) (w1 := (wd00_10 a0 a0_row z0_owedEach a0_down z0_law a0_down z0_down_formX z0_down_formY z0_down_foxX z0_down_foxY z0_down_seat a0_down_strength z0_down_debts z0_down_near z0_down_forms v0_down_hares z0_down_foxes v0_down_safe a0_row cyI f8 a0_down_strength cyI f0_down_strength)) (wn := (wd00_10 a0 a0_row z0_owedEach a0_down z0_law a0_down z0_down_formX z0_down_formY z0_down_foxX z0_down_foxY z0_down_seat a0_down_strength z0_down_debts z0_down_near z0_down_forms v0_down_hares z0_down_foxes v0_down_safe a0_row cyI f8 a0_down_strength cyI f0_down_strength)) hP hD [0, 1, 2, 3] [] hCc rfl (by decide +kernel) (by decide +kernel) rfl hk1 hFc hP1 hD1
        generalize H1 = H at hP hS ⊢
        refine lv_aload_n hx hb (dt_of tkX1_passDay_k75 4 rfl) rfl (lv_at hl 0 rfl) ?_
        refine va_get (D := (dC, dI)) (ci := 1) (v := .ref a0_row) (C := RX1) (T := TX1) (N := 4) hx hb hts ui_X1_passDay_X1 hown hK hP 0 rfl rfl 0 (by decide) (hts _ uw_X1_passDay_f13) (fun _ h9 => h9) rfl (dt_of tkX1_passDay_k75 5 rfl) ?_
        refine lv_iconst (v := 0) hx hb (dt_of tkX1_passDay_k75 6 rfl) (by decide) ?_
        refine lv_iconst (v := 1) hx hb (dt_of tkX1_passDay_k75 7 rfl) (by decide) ?_
        refine va_iast hx hb hK hP hD hS 2 1 rfl rfl (vin (by decide)) (dt_of tkX1_passDay_k75 8 rfl) (fun H locs hP hD hS => ?_)
        obtain ⟨f9, ef9⟩ : ∃ y : Nat → Int32, y = upd f8 (0 : Int32).toNatClampNeg 1 := ⟨_, rfl⟩
        have hw := hw f9 ef9
        have hP : va_P (dC, dI) vwCl (wd00_10 a0 a0_row z0_owedEach a0_down z0_law a0_down z0_down_formX z0_down_formY z0_down_foxX z0_down_foxY z0_down_seat a0_down_strength z0_down_debts z0_down_near z0_down_forms v0_down_hares z0_down_foxes v0_down_safe a0_row cyI f9 a0_down_strength cyI f0_down_strength) H := by rw [ef9]; exact hP
        have hD : va_D A (wd00_10 a0 a0_row z0_owedEach a0_down z0_law a0_down z0_down_formX z0_down_formY z0_down_foxX z0_down_foxY z0_down_seat a0_down_strength z0_down_debts z0_down_near z0_down_forms v0_down_hares z0_down_foxes v0_down_safe a0_row cyI f9 a0_down_strength cyI f0_down_strength) := by rw [ef9]; exact hD
        refine lv_aload_n hx hb (dt_of tkX1_passDay_k75 9 rfl) rfl (lv_at hl 0 rfl) ?_
        refine va_get (D := (dC, dI)) (ci := 1) (v := .ref a0_row) (C := RX1) (T := TX1) (N := 4) hx hb hts ui_X1_passDay_X1 hown hK hP 0 rfl rfl 0 (by decide) (hts _ uw_X1_passDay_f13) (fun _ h9 => h9) rfl (dt_of tkX1_passDay_k75 10 rfl) ?_
        refine lv_iconst (v := 1) hx hb (dt_of tkX1_passDay_k75 11 rfl) (by decide) ?_
        refine lv_dup2_11 hx hb (dt_of tkX1_passDay_k75 12 rfl) rfl rfl ?_
        refine va_iald hx hb hK hP 2 1 rfl rfl (vin (by decide)) (dt_of tkX1_passDay_k75 13 rfl) ?_
        refine lv_topi (fun x10 ex10 => ?_)
        have hw := hw x10 ex10
        refine lv_iconst (v := 1) hx hb (dt_of tkX1_passDay_k75 14 rfl) (by decide) ?_
        refine lv_iadd hx hb (dt_of tkX1_passDay_k75 15 rfl) ?_
        refine lv_topi (fun x11 ex11 => ?_)
        have hw := hw x11 ex11
        refine va_iast hx hb hK hP hD hS 2 1 rfl rfl (vin (by decide)) (dt_of tkX1_passDay_k100 0 rfl) (fun H locs hP hD hS => ?_)
        obtain ⟨f12, ef12⟩ : ∃ y : Nat → Int32, y = upd f9 (1 : Int32).toNatClampNeg x11 := ⟨_, rfl⟩
        have hw := hw f12 ef12
        have hP : va_P (dC, dI) vwCl (wd00_10 a0 a0_row z0_owedEach a0_down z0_law a0_down z0_down_formX z0_down_formY z0_down_foxX z0_down_foxY z0_down_seat a0_down_strength z0_down_debts z0_down_near z0_down_forms v0_down_hares z0_down_foxes v0_down_safe a0_row cyI f12 a0_down_strength cyI f0_down_strength) H := by rw [ef12]; exact hP
        have hD : va_D A (wd00_10 a0 a0_row z0_owedEach a0_down z0_law a0_down z0_down_formX z0_down_formY z0_down_foxX z0_down_foxY z0_down_seat a0_down_strength z0_down_debts z0_down_near z0_down_forms v0_down_hares z0_down_foxes v0_down_safe a0_row cyI f12 a0_down_strength cyI f0_down_strength) := by rw [ef12]; exact hD
        exact ((W.vret hx hb hr (fun t ht hW => ⟨⟨(f12), rfl, hw, by rw [ht]; exact hP, va_K.moved hW.alike hK, hD⟩, hS.F ht⟩) hS.2.2 (dt_of tkX1_passDay_k100 1 rfl)))
    · have hw := hw.2 c1
      refine lv_aload_n hx hb (dt_of tkX1_passDay_k0 7 rfl) rfl (lv_at hl 0 rfl) ?_
      refine va_get (D := (dC, dI)) (ci := 1) (v := .ref a0_row) (C := RX1) (T := TX1) (N := 4) hx hb hts ui_X1_passDay_X1 hown hK hP 0 rfl rfl 0 (by decide) (hts _ uw_X1_passDay_f13) (fun _ h9 => h9) rfl (dt_of tkX1_passDay_k0 8 rfl) ?_
      refine lv_iconst (v := 2) hx hb (dt_of tkX1_passDay_k0 9 rfl) (by decide) ?_
      refine va_iald hx hb hK hP 2 1 rfl rfl (vin (by decide)) (dt_of tkX1_passDay_k0 10 rfl) ?_
      refine lv_topi (fun x13 ex13 => ?_)
      have hw := hw x13 ex13
      refine lv_aload_n hx hb (dt_of tkX1_passDay_k0 11 rfl) rfl (lv_at hl 0 rfl) ?_
      refine va_get (D := (dC, dI)) (ci := 1) (v := .ref a0_row) (C := RX1) (T := TX1) (N := 4) hx hb hts ui_X1_passDay_X1 hown hK hP 0 rfl rfl 0 (by decide) (hts _ uw_X1_passDay_f13) (fun _ h9 => h9) rfl (dt_of tkX1_passDay_k0 12 rfl) ?_
      refine lv_iconst (v := 3) hx hb (dt_of tkX1_passDay_k0 13 rfl) (by decide) ?_
      refine va_iald hx hb hK hP 2 1 rfl rfl (vin (by decide)) (dt_of tkX1_passDay_k0 14 rfl) ?_
      refine lv_topi (fun x14 ex14 => ?_)
      have hw := hw x14 ex14
      refine lv_ior hx hb (dt_of tkX1_passDay_k0 15 rfl) ?_
      refine lv_iload_n hx hb (dt_of tkX1_passDay_k26 0 rfl) rfl (lv_at hl 1 rfl) ?_
      obtain ⟨hCc, hPc, hDc, hFc⟩ := va_pick (ws' := []) hP hD hS hA [] (by decide +kernel) rfl
      refine va_calli (va_runSN (As := [.int (x13 ||| x14), .int l1]) (rest := []) ⟨hx, hb, hml, hown, hts⟩ (ck_X10_holds l dC dI cyB cyI cyJ cyP  H.size    (x13 ||| x14) l1 hw) ⟨(va_cnB 2 hts gX1_passDay_X10_holds_n120 rfl rfl rfl (nw_9 hNw) (hts _ uw_X1_passDay_iniRX10) (by decide +kernel) ⟨Nat.le_of_ble_eq_true rfl, Nat.le_of_ble_eq_true rfl⟩), (hts _ uw_X1_passDay_stX10_holds), trivial⟩ ⟨cPc_blind, cPc_pre hPc hK hDc hNw⟩ rfl rfl hl.1 rfl (lv_room (Nat.le_of_ble_eq_true rfl)) (dt_of tkX1_passDay_k26 1 rfl) ⟨Nat.le_of_ble_eq_true rfl, Nat.le_of_ble_eq_true rfl⟩) hS (fun q _ h => hFc q h) hFc (fun r15 u t H1 locs ht hvm hw hB hz1 hk1 hS => ?_)
      obtain ⟨hP1, hK1, hD1⟩ := hB
      rw [ht] at hP1
      obtain ⟨hP, hD⟩ := va_joinI (wr := (wd00_10 a0 a0_row z0_owedEach a0_down z0_law a0_down z0_down_formX z0_down_formY z0_down_foxX z0_down_foxY z0_down_seat a0_down_strength z0_down_debts z0_down_near z0_down_forms v0_down_hares z0_down_foxes v0_down_safe a0_row cyI f0_row a0_down_strength cyI f0_down_strength)) (w1 := []) (wn := (wd00_10 a0 a0_row z0_owedEach a0_down z0_law a0_down z0_down_formX z0_down_formY z0_down_foxX z0_down_foxY z0_down_seat a0_down_strength z0_down_debts z0_down_near z0_down_forms v0_down_hares z0_down_foxes v0_down_safe a0_row cyI f0_row a0_down_strength cyI f0_down_strength)) hP hD [] [0, 1, 2, 3] hCc rfl (by decide +kernel) (by decide +kernel) rfl hk1 hFc hP1 hD1
      generalize H1 = H at hP hS ⊢
      refine lv_if_ne (tgt := 46) hx hb (dt_of tkX1_passDay_k26 2 rfl) (by decide) (fun c16 => ?_) (fun c16 => ?_)
      · have hw := hw.1 c16
        exact kb_X1_passDay_46 dC dI cyB cyI cyJ cyP a0 a0_down a0_row a0_down_strength z0_owedEach z0_law z0_down_formX z0_down_formY z0_down_foxX z0_down_foxY z0_down_seat z0_down_debts z0_down_near z0_down_forms z0_down_foxes v0_down_hares v0_down_safe f0_down_strength Q (wl_X1_passDay_2 v0_down_hares v0_down_safe f0_down_strength Q  n) ih C0 _ _ _ f0_row l1 hP hD hS (lv_sub hl [0, 1] rfl) hw
      · have hw := hw.2 c16
        refine lv_aload_n hx hb (dt_of tkX1_passDay_k26 3 rfl) rfl (lv_at hl 0 rfl) ?_
        refine va_get (D := (dC, dI)) (ci := 1) (v := .ref a0_row) (C := RX1) (T := TX1) (N := 4) hx hb hts ui_X1_passDay_X1 hown hK hP 0 rfl rfl 0 (by decide) (hts _ uw_X1_passDay_f13) (fun _ h9 => h9) rfl (dt_of tkX1_passDay_k26 4 rfl) ?_
        refine lv_bipush (v := 16) hx hb (dt_of tkX1_passDay_k26 5 rfl) (by decide) ?_
        refine lv_iload_n hx hb (dt_of tkX1_passDay_k26 6 rfl) rfl (lv_at hl 1 rfl) ?_
        refine lv_iadd hx hb (dt_of tkX1_passDay_k26 7 rfl) ?_
        refine lv_topi (fun x17 ex17 => ?_)
        have hw := hw x17 ex17
        refine lv_dup2_11 hx hb (dt_of tkX1_passDay_k26 8 rfl) rfl rfl ?_
        obtain ⟨hi9, hw⟩ := hw
        refine va_iald hx hb hK hP 2 1 rfl rfl hi9 (dt_of tkX1_passDay_k26 9 rfl) ?_
        refine lv_topi (fun x18 ex18 => ?_)
        have hw := hw x18 ex18
        refine lv_iconst (v := 1) hx hb (dt_of tkX1_passDay_k26 10 rfl) (by decide) ?_
        refine lv_iadd hx hb (dt_of tkX1_passDay_k26 11 rfl) ?_
        refine lv_topi (fun x19 ex19 => ?_)
        have hw := hw x19 ex19
        obtain ⟨hi9, hw⟩ := hw
        refine va_iast hx hb hK hP hD hS 2 1 rfl rfl hi9 (dt_of tkX1_passDay_k26 12 rfl) (fun H locs hP hD hS => ?_)
        obtain ⟨f20, ef20⟩ : ∃ y : Nat → Int32, y = upd f0_row x17.toNatClampNeg x19 := ⟨_, rfl⟩
        have hw := hw f20 ef20
        have hP : va_P (dC, dI) vwCl (wd00_10 a0 a0_row z0_owedEach a0_down z0_law a0_down z0_down_formX z0_down_formY z0_down_foxX z0_down_foxY z0_down_seat a0_down_strength z0_down_debts z0_down_near z0_down_forms v0_down_hares z0_down_foxes v0_down_safe a0_row cyI f20 a0_down_strength cyI f0_down_strength) H := by rw [ef20]; exact hP
        have hD : va_D A (wd00_10 a0 a0_row z0_owedEach a0_down z0_law a0_down z0_down_formX z0_down_formY z0_down_foxX z0_down_foxY z0_down_seat a0_down_strength z0_down_debts z0_down_near z0_down_forms v0_down_hares z0_down_foxes v0_down_safe a0_row cyI f20 a0_down_strength cyI f0_down_strength) := by rw [ef20]; exact hD
        exact kb_X1_passDay_46 dC dI cyB cyI cyJ cyP a0 a0_down a0_row a0_down_strength z0_owedEach z0_law z0_down_formX z0_down_formY z0_down_foxX z0_down_foxY z0_down_seat z0_down_debts z0_down_near z0_down_forms z0_down_foxes v0_down_hares v0_down_safe f0_down_strength Q (wl_X1_passDay_2 v0_down_hares v0_down_safe f0_down_strength Q  n) ih C0 _ _ _ f20 l1 hP hD hS (lv_sub hl [0, 1] rfl) hw
set_option maxHeartbeats 4000000 in
set_option maxRecDepth 100000 in
theorem ck_X1_passDay (l : Launch) (dC : Nat → ClassId) (dI : Nat → Nat → Nat) (cyB cyI cyJ cyP : ClassId) (a0 a0_down a0_row a0_down_strength : Nat) (sz : Nat) (z0_owedEach : Value) (z0_law : Value) (z0_down_formX : Value) (z0_down_formY : Value) (z0_down_foxX : Value) (z0_down_foxY : Value) (z0_down_seat : Value) (z0_down_debts : Value) (z0_down_near : Value) (z0_down_forms : Value) (z0_down_foxes : Value) (v0_down_hares : Int32) (v0_down_safe : Int32) (f0_down_strength : Nat → Int32) (f0_row : Nat → Int32)  {Q : (Nat → Int32) → Prop} (hw : wq_X1_passDay v0_down_hares v0_down_safe f0_down_strength f0_row  Q) : Met l yX1_passDay wsX1_passDay ({ frames := 4, cells := 0, slots := 0, locals := 86 }) (va_Pc [.ref a0] (cPc (dC, dI) (kT cyB cyI cyJ cyP) (wd00_10 a0 a0_row z0_owedEach a0_down z0_law a0_down z0_down_formX z0_down_formY z0_down_foxX z0_down_foxY z0_down_seat a0_down_strength z0_down_debts z0_down_near z0_down_forms v0_down_hares z0_down_foxes v0_down_safe a0_row cyI f0_row a0_down_strength cyI f0_down_strength) sz)) (va_Qv (fun (u : (Nat → Int32)) => Q u) (cB (dC, dI) (kT cyB cyI cyJ cyP) (va_A (wd00_10 a0 a0_row z0_owedEach a0_down z0_law a0_down z0_down_formX z0_down_formY z0_down_foxX z0_down_foxY z0_down_seat a0_down_strength z0_down_debts z0_down_near z0_down_forms v0_down_hares z0_down_foxes v0_down_safe a0_row cyI f0_row a0_down_strength cyI f0_down_strength) sz) (fun u : (Nat → Int32) => ((wd00_10 a0 a0_row z0_owedEach a0_down z0_law a0_down z0_down_formX z0_down_formY z0_down_foxX z0_down_foxY z0_down_seat a0_down_strength z0_down_debts z0_down_near z0_down_forms v0_down_hares z0_down_foxes v0_down_safe a0_row cyI u a0_down_strength cyI f0_down_strength) : va_W))) (va_A (wd00_10 a0 a0_row z0_owedEach a0_down z0_law a0_down z0_down_formX z0_down_formY z0_down_foxX z0_down_foxY z0_down_seat a0_down_strength z0_down_debts z0_down_near z0_down_forms v0_down_hares z0_down_foxes v0_down_safe a0_row cyI f0_row a0_down_strength cyI f0_down_strength) sz)) 0 0 (va_A (wd00_10 a0 a0_row z0_owedEach a0_down z0_law a0_down z0_down_formX z0_down_formY z0_down_foxX z0_down_foxY z0_down_seat a0_down_strength z0_down_debts z0_down_near z0_down_forms v0_down_hares z0_down_foxes v0_down_safe a0_row cyI f0_row a0_down_strength cyI f0_down_strength) sz) := by
  refine Met.ofW (cc := cX1_passDay) (maxL := 2) (ret := none) (by decide) rfl ?_
  intro p e s m args below meth c s₁ B hml hv
  obtain ⟨rfl, hsz, hP, hK, hD0, hNw⟩ := hv
  have hx := B.exec
  have hb := B.bytes
  have hr := B.returns
  have hts := atoms_spec (ws := wsX1_passDay) B.pre
  have hown : s.vm.findClass RX1 = some m.cls := findClass_of_methodNamed B.named
  have hlocks := B.notSynchronized
  subst hsz
  have hD := hD0.self (sz := s.heap.size)
  generalize hAe : va_A (wd00_10 a0 a0_row z0_owedEach a0_down z0_law a0_down z0_down_formX z0_down_formY z0_down_foxX z0_down_foxY z0_down_seat a0_down_strength z0_down_debts z0_down_near z0_down_forms v0_down_hares z0_down_foxes v0_down_safe a0_row cyI f0_row a0_down_strength cyI f0_down_strength) s.heap.size = A at hD ⊢
  have hA : ∀ q : Nat, s.heap.size ≤ q → A q := fun q h => by rw [← hAe]; exact Or.inr h
  have hS : va_S A s.heap s.heap [] := va_S.rf
  have hP : va_P (dC, dI) vwCl (wd00_10 a0 a0_row z0_owedEach a0_down z0_law a0_down z0_down_formX z0_down_formY z0_down_foxX z0_down_foxY z0_down_seat a0_down_strength z0_down_debts z0_down_near z0_down_forms v0_down_hares z0_down_foxes v0_down_safe a0_row cyI f0_row a0_down_strength cyI f0_down_strength) s.heap := hP
  have hl := lv_entry ([.ref a0]) (n := 2) (Nat.le_of_ble_eq_true rfl)
  rw [lg_entry_eq]
  generalize (lg_sl ([.ref a0]) ++ List.replicate (2 - (lg_sl ([.ref a0])).length) Slot.unset).toArray = ls at hl ⊢
  have hl : lv_has ls 2 [(0, .ref a0)] := hl
  have C0 : cfx p s m _ meth c cX1_passDay none wsX1_passDay RX1 2 A (dC, dI) (kT cyB cyI cyJ cyP) := ⟨hx, hb, hr, hts, hown, hlocks, hml, hA, hK, hNw⟩
  clear hAe
  obtain ⟨H, hH⟩ : ∃ H, H = s.heap := ⟨_, rfl⟩
  rw [← hH] at hP ⊢
  have hS : va_S A s.heap H [] := by rw [hH]; exact va_S.rf
  have hS := hS
  refine lv_iconst (v := 0) hx hb (dt_of tkX1_passDay_k0 0 rfl) (by decide) ?_
  refine lv_istore_n (lv' := [(1, .int 0), (0, .ref a0)]) hx hb (dt_of tkX1_passDay_k0 1 rfl) rfl hl (by decide) rfl (fun ls hl => ?_)
  obtain ⟨n9, hw⟩ := hw
  exact kl_X1_passDay_2 dC dI cyB cyI cyJ cyP a0 a0_down a0_row a0_down_strength z0_owedEach z0_law z0_down_formX z0_down_formY z0_down_foxX z0_down_foxY z0_down_seat z0_down_debts z0_down_near z0_down_forms z0_down_foxes v0_down_hares v0_down_safe f0_down_strength Q  C0 n9 _ _ _ f0_row 0 hP hD hS (lv_sub hl [1, 0] rfl) hw
theorem ui_X1_day_X1 : ∀ w ∈ u_ws RX1 TX1 4, w ∈ wsX1_day := uiM mbX1_day euX1 (by decide +kernel)
theorem uw_X1_day_f13 : (.fieldLink RX1 13 "MarchHares$Days" "row" "[I" : Cond) ∈ wsX1_day := mbX1_day 276 (by decide +kernel)
set_option maxHeartbeats 4000000 in
set_option maxRecDepth 100000 in
theorem ck_X1_day (l : Launch) (dC : Nat → ClassId) (dI : Nat → Nat → Nat) (cyB cyI cyJ cyP : ClassId) (a0 a0_row : Nat) (sz : Nat) (z0_owedEach : Value) (z0_down : Value) (z0_law : Value) (f0_row : Nat → Int32)   {Q : Int32 → Prop} (hw : wq_X1_day f0_row   Q) : Met l yX1_day wsX1_day ({ frames := 0, cells := 0, slots := 0, locals := 0 }) (va_Pc [.ref a0] (cPc (dC, dI) (kT cyB cyI cyJ cyP) (wd00_4 a0 a0_row z0_owedEach z0_down z0_law a0_row cyI f0_row) sz)) (va_Qi (fun (r : Int32) (_ : Unit) => Q r ) (cB (dC, dI) (kT cyB cyI cyJ cyP) (va_A (wd00_4 a0 a0_row z0_owedEach z0_down z0_law a0_row cyI f0_row) sz) (fun u : Unit => ((wd00_4 a0 a0_row z0_owedEach z0_down z0_law a0_row cyI f0_row) : va_W))) (va_A (wd00_4 a0 a0_row z0_owedEach z0_down z0_law a0_row cyI f0_row) sz)) 0 0 (va_A (wd00_4 a0 a0_row z0_owedEach z0_down z0_law a0_row cyI f0_row) sz) := by
  refine Met.ofW (cc := cX1_day) (maxL := 1) (ret := (some .int)) (by decide) rfl ?_
  intro p e s m args below meth c s₁ B hml hv
  obtain ⟨rfl, hsz, hP, hK, hD0, hNw⟩ := hv
  have hx := B.exec
  have hb := B.bytes
  have hr := B.returns
  have hts := atoms_spec (ws := wsX1_day) B.pre
  have hown : s.vm.findClass RX1 = some m.cls := findClass_of_methodNamed B.named
  have hlocks := B.notSynchronized
  subst hsz
  have hD := hD0.self (sz := s.heap.size)
  generalize hAe : va_A (wd00_4 a0 a0_row z0_owedEach z0_down z0_law a0_row cyI f0_row) s.heap.size = A at hD ⊢
  have hA : ∀ q : Nat, s.heap.size ≤ q → A q := fun q h => by rw [← hAe]; exact Or.inr h
  have hS : va_S A s.heap s.heap [] := va_S.rf
  have hP : va_P (dC, dI) vwCl (wd00_4 a0 a0_row z0_owedEach z0_down z0_law a0_row cyI f0_row) s.heap := hP
  have hl := lv_entry ([.ref a0]) (n := 1) (Nat.le_of_ble_eq_true rfl)
  rw [lg_entry_eq]
  generalize (lg_sl ([.ref a0]) ++ List.replicate (1 - (lg_sl ([.ref a0])).length) Slot.unset).toArray = ls at hl ⊢
  have hl : lv_has ls 1 [(0, .ref a0)] := hl
  have C0 : cfx p s m _ meth c cX1_day (some .int) wsX1_day RX1 1 A (dC, dI) (kT cyB cyI cyJ cyP) := ⟨hx, hb, hr, hts, hown, hlocks, hml, hA, hK, hNw⟩
  clear hAe
  obtain ⟨H, hH⟩ : ∃ H, H = s.heap := ⟨_, rfl⟩
  rw [← hH] at hP ⊢
  have hS : va_S A s.heap H [] := by rw [hH]; exact va_S.rf
  have hS := hS
  refine lv_aload_n hx hb (dt_of tkX1_day_k0 0 rfl) rfl (lv_at hl 0 rfl) ?_
  refine va_get (D := (dC, dI)) (ci := 1) (v := .ref a0_row) (C := RX1) (T := TX1) (N := 4) hx hb hts ui_X1_day_X1 hown hK hP 0 rfl rfl 0 (by decide) (hts _ uw_X1_day_f13) (fun _ h9 => h9) rfl (dt_of tkX1_day_k0 1 rfl) ?_
  refine lv_iconst (v := 0) hx hb (dt_of tkX1_day_k0 2 rfl) (by decide) ?_
  refine va_iald hx hb hK hP 1 1 rfl rfl (vin (by decide)) (dt_of tkX1_day_k0 3 rfl) ?_
  refine lv_topi (fun x1 ex1 => ?_)
  have hw := hw x1 ex1
  exact ((W.iret (v := x1) hx hb hr (fun t ht hW => ⟨⟨x1, (), rfl, hw, by rw [ht]; exact hP, va_K.moved hW.alike hK, hD⟩, hS.F ht⟩) hS.2.2 (dt_of tkX1_day_k0 4 rfl)))
theorem ui_X1_caughtOnes_X1 : ∀ w ∈ u_ws RX1 TX1 4, w ∈ wsX1_caughtOnes := uiM mbX1_caughtOnes euX1 (by decide +kernel)
theorem uw_X1_caughtOnes_f13 : (.fieldLink RX1 13 "MarchHares$Days" "row" "[I" : Cond) ∈ wsX1_caughtOnes := mbX1_caughtOnes 276 (by decide +kernel)
set_option maxHeartbeats 4000000 in
set_option maxRecDepth 100000 in
theorem ck_X1_caughtOnes (l : Launch) (dC : Nat → ClassId) (dI : Nat → Nat → Nat) (cyB cyI cyJ cyP : ClassId) (a0 a0_row : Nat) (sz : Nat) (z0_owedEach : Value) (z0_down : Value) (z0_law : Value) (f0_row : Nat → Int32)   {Q : Int32 → Prop} (hw : wq_X1_caughtOnes f0_row   Q) : Met l yX1_caughtOnes wsX1_caughtOnes ({ frames := 0, cells := 0, slots := 0, locals := 0 }) (va_Pc [.ref a0] (cPc (dC, dI) (kT cyB cyI cyJ cyP) (wd00_4 a0 a0_row z0_owedEach z0_down z0_law a0_row cyI f0_row) sz)) (va_Qi (fun (r : Int32) (_ : Unit) => Q r ) (cB (dC, dI) (kT cyB cyI cyJ cyP) (va_A (wd00_4 a0 a0_row z0_owedEach z0_down z0_law a0_row cyI f0_row) sz) (fun u : Unit => ((wd00_4 a0 a0_row z0_owedEach z0_down z0_law a0_row cyI f0_row) : va_W))) (va_A (wd00_4 a0 a0_row z0_owedEach z0_down z0_law a0_row cyI f0_row) sz)) 0 0 (va_A (wd00_4 a0 a0_row z0_owedEach z0_down z0_law a0_row cyI f0_row) sz) := by
  refine Met.ofW (cc := cX1_caughtOnes) (maxL := 1) (ret := (some .int)) (by decide) rfl ?_
  intro p e s m args below meth c s₁ B hml hv
  obtain ⟨rfl, hsz, hP, hK, hD0, hNw⟩ := hv
  have hx := B.exec
  have hb := B.bytes
  have hr := B.returns
  have hts := atoms_spec (ws := wsX1_caughtOnes) B.pre
  have hown : s.vm.findClass RX1 = some m.cls := findClass_of_methodNamed B.named
  have hlocks := B.notSynchronized
  subst hsz
  have hD := hD0.self (sz := s.heap.size)
  generalize hAe : va_A (wd00_4 a0 a0_row z0_owedEach z0_down z0_law a0_row cyI f0_row) s.heap.size = A at hD ⊢
  have hA : ∀ q : Nat, s.heap.size ≤ q → A q := fun q h => by rw [← hAe]; exact Or.inr h
  have hS : va_S A s.heap s.heap [] := va_S.rf
  have hP : va_P (dC, dI) vwCl (wd00_4 a0 a0_row z0_owedEach z0_down z0_law a0_row cyI f0_row) s.heap := hP
  have hl := lv_entry ([.ref a0]) (n := 1) (Nat.le_of_ble_eq_true rfl)
  rw [lg_entry_eq]
  generalize (lg_sl ([.ref a0]) ++ List.replicate (1 - (lg_sl ([.ref a0])).length) Slot.unset).toArray = ls at hl ⊢
  have hl : lv_has ls 1 [(0, .ref a0)] := hl
  have C0 : cfx p s m _ meth c cX1_caughtOnes (some .int) wsX1_caughtOnes RX1 1 A (dC, dI) (kT cyB cyI cyJ cyP) := ⟨hx, hb, hr, hts, hown, hlocks, hml, hA, hK, hNw⟩
  clear hAe
  obtain ⟨H, hH⟩ : ∃ H, H = s.heap := ⟨_, rfl⟩
  rw [← hH] at hP ⊢
  have hS : va_S A s.heap H [] := by rw [hH]; exact va_S.rf
  have hS := hS
  refine lv_aload_n hx hb (dt_of tkX1_caughtOnes_k0 0 rfl) rfl (lv_at hl 0 rfl) ?_
  refine va_get (D := (dC, dI)) (ci := 1) (v := .ref a0_row) (C := RX1) (T := TX1) (N := 4) hx hb hts ui_X1_caughtOnes_X1 hown hK hP 0 rfl rfl 0 (by decide) (hts _ uw_X1_caughtOnes_f13) (fun _ h9 => h9) rfl (dt_of tkX1_caughtOnes_k0 1 rfl) ?_
  refine lv_iconst (v := 2) hx hb (dt_of tkX1_caughtOnes_k0 2 rfl) (by decide) ?_
  refine va_iald hx hb hK hP 1 1 rfl rfl (vin (by decide)) (dt_of tkX1_caughtOnes_k0 3 rfl) ?_
  refine lv_topi (fun x1 ex1 => ?_)
  have hw := hw x1 ex1
  exact ((W.iret (v := x1) hx hb hr (fun t ht hW => ⟨⟨x1, (), rfl, hw, by rw [ht]; exact hP, va_K.moved hW.alike hK, hD⟩, hS.F ht⟩) hS.2.2 (dt_of tkX1_caughtOnes_k0 4 rfl)))
theorem ui_X1_owesTo_X1 : ∀ w ∈ u_ws RX1 TX1 4, w ∈ wsX1_owesTo := uiM mbX1_owesTo euX1 (by decide +kernel)
theorem uw_X1_owesTo_f13 : (.fieldLink RX1 13 "MarchHares$Days" "row" "[I" : Cond) ∈ wsX1_owesTo := mbX1_owesTo 276 (by decide +kernel)
set_option maxHeartbeats 4000000 in
set_option maxRecDepth 100000 in
theorem ck_X1_owesTo (l : Launch) (dC : Nat → ClassId) (dI : Nat → Nat → Nat) (cyB cyI cyJ cyP : ClassId) (a0 a0_row : Nat) (sz : Nat) (z0_owedEach : Value) (z0_down : Value) (z0_law : Value) (f0_row : Nat → Int32)  (p1 : Int32) (p2 : Int32) {Q : Int32 → Prop} (hw : wq_X1_owesTo f0_row  p1 p2 Q) : Met l yX1_owesTo wsX1_owesTo ({ frames := 0, cells := 0, slots := 0, locals := 0 }) (va_Pc [.ref a0, .int p1, .int p2] (cPc (dC, dI) (kT cyB cyI cyJ cyP) (wd00_4 a0 a0_row z0_owedEach z0_down z0_law a0_row cyI f0_row) sz)) (va_Qi (fun (r : Int32) (_ : Unit) => Q r ) (cB (dC, dI) (kT cyB cyI cyJ cyP) (va_A (wd00_4 a0 a0_row z0_owedEach z0_down z0_law a0_row cyI f0_row) sz) (fun u : Unit => ((wd00_4 a0 a0_row z0_owedEach z0_down z0_law a0_row cyI f0_row) : va_W))) (va_A (wd00_4 a0 a0_row z0_owedEach z0_down z0_law a0_row cyI f0_row) sz)) 0 0 (va_A (wd00_4 a0 a0_row z0_owedEach z0_down z0_law a0_row cyI f0_row) sz) := by
  refine Met.ofW (cc := cX1_owesTo) (maxL := 3) (ret := (some .int)) (by decide) rfl ?_
  intro p e s m args below meth c s₁ B hml hv
  obtain ⟨rfl, hsz, hP, hK, hD0, hNw⟩ := hv
  have hx := B.exec
  have hb := B.bytes
  have hr := B.returns
  have hts := atoms_spec (ws := wsX1_owesTo) B.pre
  have hown : s.vm.findClass RX1 = some m.cls := findClass_of_methodNamed B.named
  have hlocks := B.notSynchronized
  subst hsz
  have hD := hD0.self (sz := s.heap.size)
  generalize hAe : va_A (wd00_4 a0 a0_row z0_owedEach z0_down z0_law a0_row cyI f0_row) s.heap.size = A at hD ⊢
  have hA : ∀ q : Nat, s.heap.size ≤ q → A q := fun q h => by rw [← hAe]; exact Or.inr h
  have hS : va_S A s.heap s.heap [] := va_S.rf
  have hP : va_P (dC, dI) vwCl (wd00_4 a0 a0_row z0_owedEach z0_down z0_law a0_row cyI f0_row) s.heap := hP
  have hl := lv_entry ([.ref a0, .int p1, .int p2]) (n := 3) (Nat.le_of_ble_eq_true rfl)
  rw [lg_entry_eq]
  generalize (lg_sl ([.ref a0, .int p1, .int p2]) ++ List.replicate (3 - (lg_sl ([.ref a0, .int p1, .int p2])).length) Slot.unset).toArray = ls at hl ⊢
  have hl : lv_has ls 3 [(0, .ref a0), (1, .int p1), (2, .int p2)] := hl
  have C0 : cfx p s m _ meth c cX1_owesTo (some .int) wsX1_owesTo RX1 3 A (dC, dI) (kT cyB cyI cyJ cyP) := ⟨hx, hb, hr, hts, hown, hlocks, hml, hA, hK, hNw⟩
  clear hAe
  obtain ⟨H, hH⟩ : ∃ H, H = s.heap := ⟨_, rfl⟩
  rw [← hH] at hP ⊢
  have hS : va_S A s.heap H [] := by rw [hH]; exact va_S.rf
  have hS := hS
  refine lv_aload_n hx hb (dt_of tkX1_owesTo_k0 0 rfl) rfl (lv_at hl 0 rfl) ?_
  refine va_get (D := (dC, dI)) (ci := 1) (v := .ref a0_row) (C := RX1) (T := TX1) (N := 4) hx hb hts ui_X1_owesTo_X1 hown hK hP 0 rfl rfl 0 (by decide) (hts _ uw_X1_owesTo_f13) (fun _ h9 => h9) rfl (dt_of tkX1_owesTo_k0 1 rfl) ?_
  refine lv_bipush (v := 28) hx hb (dt_of tkX1_owesTo_k0 2 rfl) (by decide) ?_
  refine lv_iload_n hx hb (dt_of tkX1_owesTo_k0 3 rfl) rfl (lv_at hl 1 rfl) ?_
  refine lv_bipush (v := 6) hx hb (dt_of tkX1_owesTo_k0 4 rfl) (by decide) ?_
  refine lv_imul hx hb (dt_of tkX1_owesTo_k0 5 rfl) ?_
  refine lv_iadd hx hb (dt_of tkX1_owesTo_k0 6 rfl) ?_
  refine lv_topi (fun x1 ex1 => ?_)
  have hw := hw x1 ex1
  refine lv_iload_n hx hb (dt_of tkX1_owesTo_k0 7 rfl) rfl (lv_at hl 2 rfl) ?_
  refine lv_iadd hx hb (dt_of tkX1_owesTo_k0 8 rfl) ?_
  refine lv_topi (fun x2 ex2 => ?_)
  have hw := hw x2 ex2
  obtain ⟨hi9, hw⟩ := hw
  refine va_iald hx hb hK hP 1 1 rfl rfl hi9 (dt_of tkX1_owesTo_k0 9 rfl) ?_
  refine lv_topi (fun x3 ex3 => ?_)
  have hw := hw x3 ex3
  exact ((W.iret (v := x3) hx hb hr (fun t ht hW => ⟨⟨x3, (), rfl, hw, by rw [ht]; exact hP, va_K.moved hW.alike hK, hD⟩, hS.F ht⟩) hS.2.2 (dt_of tkX1_owesTo_k0 10 rfl)))
theorem ui_X1_owes_X1 : ∀ w ∈ u_ws RX1 TX1 4, w ∈ wsX1_owes := uiM mbX1_owes euX1 (by decide +kernel)
theorem ui_X1_owes_X2 : ∀ w ∈ u_ws RX2 TX2 12, w ∈ wsX1_owes := uiM mbX1_owes euX2 (by decide +kernel)
theorem uw_X1_owes_f24 : (.fieldLink RX1 24 "MarchHares$Days" "down" "LMarchHares$Down;" : Cond) ∈ wsX1_owes := mbX1_owes 322 (by decide +kernel)
theorem uw_X1_owes_f32 : (.fieldLink RX1 32 "MarchHares$Down" "hares" "I" : Cond) ∈ wsX1_owes := mbX1_owes 324 (by decide +kernel)
set_option maxHeartbeats 4000000 in
set_option maxRecDepth 100000 in
theorem kl_X1_owes_4 {p : Program} {l : Launch} {e : Env} {s : State} {m : MethodId} {args : Array Value} {below : List Frame} {meth : Method} {c : Code} {A : Nat → Prop} (dC : Nat → ClassId) (dI : Nat → Nat → Nat) (cyB cyI cyJ cyP : ClassId) (a0 a0_down a0_row : Nat) (z0_owedEach : Value) (z0_law : Value) (z0_down_formX : Value) (z0_down_formY : Value) (z0_down_foxX : Value) (z0_down_foxY : Value) (z0_down_seat : Value) (z0_down_strength : Value) (z0_down_debts : Value) (z0_down_near : Value) (z0_down_forms : Value) (z0_down_foxes : Value) (z0_down_safe : Value) (v0_down_hares : Int32) (f0_row : Nat → Int32) (Q : Int32 → Prop)  (C0 : cfx p s m args meth c cX1_owes (some .int) wsX1_owes RX1 4 A (dC, dI) (kT cyB cyI cyJ cyP)) : ∀ (n : Nat) (H : Heap) (locs : List Loc) (ls : Array Slot) (l1 : Int32) (l2 : Int32) (l3 : Int32), va_P (dC, dI) vwCl (wd00_9 a0 a0_row z0_owedEach a0_down z0_law a0_down z0_down_formX z0_down_formY z0_down_foxX z0_down_foxY z0_down_seat z0_down_strength z0_down_debts z0_down_near z0_down_forms v0_down_hares z0_down_foxes z0_down_safe a0_row cyI f0_row) H → va_D A (wd00_9 a0 a0_row z0_owedEach a0_down z0_law a0_down z0_down_formX z0_down_formY z0_down_foxX z0_down_foxY z0_down_seat z0_down_strength z0_down_debts z0_down_near z0_down_forms v0_down_hares z0_down_foxes z0_down_safe a0_row cyI f0_row) → va_S A s.heap H locs → lv_has ls 4 [(0, .ref a0), (1, .int l1), (2, .int l2), (3, .int l3)] → wl_X1_owes_4 v0_down_hares f0_row Q  n l1 l2 l3 → W p l e (headSpec wsX1_owes ({ frames := 1, cells := 0, slots := 0, locals := 22 })).room s m args below meth c H locs 0 0 (MQ below (va_Qi (fun (r : Int32) (_ : Unit) => Q r ) (cB (dC, dI) (kT cyB cyI cyJ cyP) A (fun u : Unit => ((wd00_9 a0 a0_row z0_owedEach a0_down z0_law a0_down z0_down_formX z0_down_formY z0_down_foxX z0_down_foxY z0_down_seat z0_down_strength z0_down_debts z0_down_near z0_down_forms v0_down_hares z0_down_foxes z0_down_safe a0_row cyI f0_row) : va_W))) A) args s 0 0 A) (F0 m 4 ls []) := by
  obtain ⟨hx, hb, hr, hts, hown, hlocks, hml, hA, hK, hNw⟩ := id C0
  intro n
  induction n with
  | zero => intro H locs ls l1 l2 l3 hP hD hS hl hw; exact False.elim hw
  | succ n ih =>
    intro H locs ls l1 l2 l3 hP hD hS hl hw
    refine lv_iload_n hx hb (dt_of tkX1_owes_k0 4 rfl) rfl (lv_at hl 3 rfl) ?_
    refine lv_aload_n hx hb (dt_of tkX1_owes_k0 5 rfl) rfl (lv_at hl 0 rfl) ?_
    refine va_get (D := (dC, dI)) (ci := 1) (v := .ref a0_down) (C := RX1) (T := TX1) (N := 4) hx hb hts ui_X1_owes_X1 hown hK hP 0 rfl rfl 2 (by decide) (hts _ uw_X1_owes_f24) (fun _ h9 => h9) rfl (dt_of tkX1_owes_k0 6 rfl) ?_
    refine va_get (D := (dC, dI)) (ci := 2) (v := .int v0_down_hares) (C := RX2) (T := TX2) (N := 12) hx hb hts ui_X1_owes_X2 hown hK hP 1 rfl rfl 9 (by decide) (hts _ uw_X1_owes_f32) (fun _ h9 => h9) rfl (dt_of tkX1_owes_k0 7 rfl) ?_
    refine lv_icmp_ge (tgt := 30) hx hb (dt_of tkX1_owes_k0 8 rfl) (by decide) (fun c1 => ?_) (fun c1 => ?_)
    · have hw := hw.1 c1
      refine lv_iload_n hx hb (dt_of tkX1_owes_k24 2 rfl) rfl (lv_at hl 2 rfl) ?_
      exact ((W.iret (v := l2) hx hb hr (fun t ht hW => ⟨⟨l2, (), rfl, hw, by rw [ht]; exact hP, va_K.moved hW.alike hK, hD⟩, hS.F ht⟩) hS.2.2 (dt_of tkX1_owes_k24 3 rfl)))
    · have hw := hw.2 c1
      refine lv_iload_n hx hb (dt_of tkX1_owes_k0 9 rfl) rfl (lv_at hl 2 rfl) ?_
      refine lv_aload_n hx hb (dt_of tkX1_owes_k0 10 rfl) rfl (lv_at hl 0 rfl) ?_
      refine lv_iload_n hx hb (dt_of tkX1_owes_k0 11 rfl) rfl (lv_at hl 1 rfl) ?_
      refine lv_iload_n hx hb (dt_of tkX1_owes_k0 12 rfl) rfl (lv_at hl 3 rfl) ?_
      obtain ⟨hCc, hPc, hDc, hFc⟩ := va_pick (ws' := (wd00_7 a0 a0_row z0_owedEach a0_down z0_law a0_row cyI f0_row)) hP hD hS hA [0, 2] (by decide +kernel) rfl
      refine va_calli (va_runV (As := [.int l1, .int l3]) (rest := [.int l2]) ⟨hx, hb, hml, hown, hts⟩ (ck_X1_owesTo l dC dI cyB cyI cyJ cyP a0 a0_row H.size (z0_owedEach) (.ref a0_down) (z0_law) f0_row  l1 l3 hw) (cwV 2 hts gX1_owes_X1_owesTo rfl rfl rfl (by decide +kernel) ⟨Nat.le_of_ble_eq_true rfl, Nat.le_of_ble_eq_true rfl⟩) ⟨cPc_blind, va_recv (q := (RX1, TX1, 4)) hK hPc (ci := 1) (q0 := 0) rfl rfl, cPc_pre hPc hK hDc hNw⟩ rfl rfl hl.1 rfl (lv_room (Nat.le_of_ble_eq_true rfl)) (dt_of tkX1_owes_k0 13 rfl) ⟨Nat.le_of_ble_eq_true rfl, Nat.le_of_ble_eq_true rfl⟩) hS (fun q _ h => hFc q h) hFc (fun r2 u t H1 locs ht hvm hw hB hz1 hk1 hS => ?_)
      obtain ⟨hP1, hK1, hD1⟩ := hB
      rw [ht] at hP1
      obtain ⟨hP, hD⟩ := va_joinN (wr := [(a0_down, .inr (2, [z0_down_formX, z0_down_formY, z0_down_foxX, z0_down_foxY, z0_down_seat, z0_down_strength, z0_down_debts, z0_down_near, z0_down_forms, .int v0_down_hares, z0_down_foxes, z0_down_safe]))]) (w1 := (wd00_7 a0 a0_row z0_owedEach a0_down z0_law a0_row cyI f0_row)) (wn := (wd00_9 a0 a0_row z0_owedEach a0_down z0_law a0_down z0_down_formX z0_down_formY z0_down_foxX z0_down_foxY z0_down_seat z0_down_strength z0_down_debts z0_down_near z0_down_forms v0_down_hares z0_down_foxes z0_down_safe a0_row cyI f0_row)) hP hD [0, 2] [1] [1, 0, 2] hCc rfl (by decide +kernel) (by decide +kernel) (by decide +kernel) rfl hk1 hFc hP1 hD1
      generalize H1 = H at hP hS ⊢
      refine lv_iadd hx hb (dt_of tkX1_owes_k0 14 rfl) ?_
      refine lv_topi (fun x3 ex3 => ?_)
      have hw := hw x3 ex3
      refine lv_istore_n (lv' := [(2, .int x3), (0, .ref a0), (1, .int l1), (3, .int l3)]) hx hb (dt_of tkX1_owes_k0 15 rfl) rfl hl (by decide) rfl (fun ls hl => ?_)
      obtain ⟨x4, ex4⟩ : ∃ y : Int32, y = l3 + 1 := ⟨_, rfl⟩
      have hw := hw x4 ex4
      refine lv_iinc (v := x4) (lv' := [(3, .int x4), (2, .int x3), (0, .ref a0), (1, .int l1)]) hx hb (dt_of tkX1_owes_k24 0 rfl) hl (k := 3) rfl (by rw [ex4]; rfl) (by decide) rfl (fun ls hl => ?_)
      refine lv_goto (tgt := 4) hx hb (dt_of tkX1_owes_k24 1 rfl) (by decide) ?_
      exact ih _ _ _ l1 x3 x4 hP hD hS (lv_sub hl [2, 3, 1, 0] rfl) hw
set_option maxHeartbeats 4000000 in
set_option maxRecDepth 100000 in
theorem ck_X1_owes (l : Launch) (dC : Nat → ClassId) (dI : Nat → Nat → Nat) (cyB cyI cyJ cyP : ClassId) (a0 a0_down a0_row : Nat) (sz : Nat) (z0_owedEach : Value) (z0_law : Value) (z0_down_formX : Value) (z0_down_formY : Value) (z0_down_foxX : Value) (z0_down_foxY : Value) (z0_down_seat : Value) (z0_down_strength : Value) (z0_down_debts : Value) (z0_down_near : Value) (z0_down_forms : Value) (z0_down_foxes : Value) (z0_down_safe : Value) (v0_down_hares : Int32) (f0_row : Nat → Int32)  (p1 : Int32) {Q : Int32 → Prop} (hw : wq_X1_owes v0_down_hares f0_row  p1 Q) : Met l yX1_owes wsX1_owes ({ frames := 1, cells := 0, slots := 0, locals := 22 }) (va_Pc [.ref a0, .int p1] (cPc (dC, dI) (kT cyB cyI cyJ cyP) (wd00_9 a0 a0_row z0_owedEach a0_down z0_law a0_down z0_down_formX z0_down_formY z0_down_foxX z0_down_foxY z0_down_seat z0_down_strength z0_down_debts z0_down_near z0_down_forms v0_down_hares z0_down_foxes z0_down_safe a0_row cyI f0_row) sz)) (va_Qi (fun (r : Int32) (_ : Unit) => Q r ) (cB (dC, dI) (kT cyB cyI cyJ cyP) (va_A (wd00_9 a0 a0_row z0_owedEach a0_down z0_law a0_down z0_down_formX z0_down_formY z0_down_foxX z0_down_foxY z0_down_seat z0_down_strength z0_down_debts z0_down_near z0_down_forms v0_down_hares z0_down_foxes z0_down_safe a0_row cyI f0_row) sz) (fun u : Unit => ((wd00_9 a0 a0_row z0_owedEach a0_down z0_law a0_down z0_down_formX z0_down_formY z0_down_foxX z0_down_foxY z0_down_seat z0_down_strength z0_down_debts z0_down_near z0_down_forms v0_down_hares z0_down_foxes z0_down_safe a0_row cyI f0_row) : va_W))) (va_A (wd00_9 a0 a0_row z0_owedEach a0_down z0_law a0_down z0_down_formX z0_down_formY z0_down_foxX z0_down_foxY z0_down_seat z0_down_strength z0_down_debts z0_down_near z0_down_forms v0_down_hares z0_down_foxes z0_down_safe a0_row cyI f0_row) sz)) 0 0 (va_A (wd00_9 a0 a0_row z0_owedEach a0_down z0_law a0_down z0_down_formX z0_down_formY z0_down_foxX z0_down_foxY z0_down_seat z0_down_strength z0_down_debts z0_down_near z0_down_forms v0_down_hares z0_down_foxes z0_down_safe a0_row cyI f0_row) sz) := by
  refine Met.ofW (cc := cX1_owes) (maxL := 4) (ret := (some .int)) (by decide) rfl ?_
  intro p e s m args below meth c s₁ B hml hv
  obtain ⟨rfl, hsz, hP, hK, hD0, hNw⟩ := hv
  have hx := B.exec
  have hb := B.bytes
  have hr := B.returns
  have hts := atoms_spec (ws := wsX1_owes) B.pre
  have hown : s.vm.findClass RX1 = some m.cls := findClass_of_methodNamed B.named
  have hlocks := B.notSynchronized
  subst hsz
  have hD := hD0.self (sz := s.heap.size)
  generalize hAe : va_A (wd00_9 a0 a0_row z0_owedEach a0_down z0_law a0_down z0_down_formX z0_down_formY z0_down_foxX z0_down_foxY z0_down_seat z0_down_strength z0_down_debts z0_down_near z0_down_forms v0_down_hares z0_down_foxes z0_down_safe a0_row cyI f0_row) s.heap.size = A at hD ⊢
  have hA : ∀ q : Nat, s.heap.size ≤ q → A q := fun q h => by rw [← hAe]; exact Or.inr h
  have hS : va_S A s.heap s.heap [] := va_S.rf
  have hP : va_P (dC, dI) vwCl (wd00_9 a0 a0_row z0_owedEach a0_down z0_law a0_down z0_down_formX z0_down_formY z0_down_foxX z0_down_foxY z0_down_seat z0_down_strength z0_down_debts z0_down_near z0_down_forms v0_down_hares z0_down_foxes z0_down_safe a0_row cyI f0_row) s.heap := hP
  have hl := lv_entry ([.ref a0, .int p1]) (n := 4) (Nat.le_of_ble_eq_true rfl)
  rw [lg_entry_eq]
  generalize (lg_sl ([.ref a0, .int p1]) ++ List.replicate (4 - (lg_sl ([.ref a0, .int p1])).length) Slot.unset).toArray = ls at hl ⊢
  have hl : lv_has ls 4 [(0, .ref a0), (1, .int p1)] := hl
  have C0 : cfx p s m _ meth c cX1_owes (some .int) wsX1_owes RX1 4 A (dC, dI) (kT cyB cyI cyJ cyP) := ⟨hx, hb, hr, hts, hown, hlocks, hml, hA, hK, hNw⟩
  clear hAe
  obtain ⟨H, hH⟩ : ∃ H, H = s.heap := ⟨_, rfl⟩
  rw [← hH] at hP ⊢
  have hS : va_S A s.heap H [] := by rw [hH]; exact va_S.rf
  have hS := hS
  refine lv_iconst (v := 0) hx hb (dt_of tkX1_owes_k0 0 rfl) (by decide) ?_
  refine lv_istore_n (lv' := [(2, .int 0), (0, .ref a0), (1, .int p1)]) hx hb (dt_of tkX1_owes_k0 1 rfl) rfl hl (by decide) rfl (fun ls hl => ?_)
  refine lv_iconst (v := 0) hx hb (dt_of tkX1_owes_k0 2 rfl) (by decide) ?_
  refine lv_istore_n (lv' := [(3, .int 0), (2, .int 0), (0, .ref a0), (1, .int p1)]) hx hb (dt_of tkX1_owes_k0 3 rfl) rfl hl (by decide) rfl (fun ls hl => ?_)
  obtain ⟨n9, hw⟩ := hw
  exact kl_X1_owes_4 dC dI cyB cyI cyJ cyP a0 a0_down a0_row z0_owedEach z0_law z0_down_formX z0_down_formY z0_down_foxX z0_down_foxY z0_down_seat z0_down_strength z0_down_debts z0_down_near z0_down_forms z0_down_foxes z0_down_safe v0_down_hares f0_row Q  C0 n9 _ _ _ p1 0 0 hP hD hS (lv_sub hl [2, 3, 1, 0] rfl) hw
theorem ui_X1_allDebts_X1 : ∀ w ∈ u_ws RX1 TX1 4, w ∈ wsX1_allDebts := uiM mbX1_allDebts euX1 (by decide +kernel)
theorem ui_X1_allDebts_X2 : ∀ w ∈ u_ws RX2 TX2 12, w ∈ wsX1_allDebts := uiM mbX1_allDebts euX2 (by decide +kernel)
theorem uw_X1_allDebts_f24 : (.fieldLink RX1 24 "MarchHares$Days" "down" "LMarchHares$Down;" : Cond) ∈ wsX1_allDebts := mbX1_allDebts 322 (by decide +kernel)
theorem uw_X1_allDebts_f32 : (.fieldLink RX1 32 "MarchHares$Down" "hares" "I" : Cond) ∈ wsX1_allDebts := mbX1_allDebts 324 (by decide +kernel)
set_option maxHeartbeats 4000000 in
set_option maxRecDepth 100000 in
theorem kl_X1_allDebts_4 {p : Program} {l : Launch} {e : Env} {s : State} {m : MethodId} {args : Array Value} {below : List Frame} {meth : Method} {c : Code} {A : Nat → Prop} (dC : Nat → ClassId) (dI : Nat → Nat → Nat) (cyB cyI cyJ cyP : ClassId) (a0 a0_down a0_row : Nat) (z0_owedEach : Value) (z0_law : Value) (z0_down_formX : Value) (z0_down_formY : Value) (z0_down_foxX : Value) (z0_down_foxY : Value) (z0_down_seat : Value) (z0_down_strength : Value) (z0_down_debts : Value) (z0_down_near : Value) (z0_down_forms : Value) (z0_down_foxes : Value) (z0_down_safe : Value) (v0_down_hares : Int32) (f0_row : Nat → Int32) (Q : Int32 → Prop)  (C0 : cfx p s m args meth c cX1_allDebts (some .int) wsX1_allDebts RX1 3 A (dC, dI) (kT cyB cyI cyJ cyP)) : ∀ (n : Nat) (H : Heap) (locs : List Loc) (ls : Array Slot) (l1 : Int32) (l2 : Int32), va_P (dC, dI) vwCl (wd00_9 a0 a0_row z0_owedEach a0_down z0_law a0_down z0_down_formX z0_down_formY z0_down_foxX z0_down_foxY z0_down_seat z0_down_strength z0_down_debts z0_down_near z0_down_forms v0_down_hares z0_down_foxes z0_down_safe a0_row cyI f0_row) H → va_D A (wd00_9 a0 a0_row z0_owedEach a0_down z0_law a0_down z0_down_formX z0_down_formY z0_down_foxX z0_down_foxY z0_down_seat z0_down_strength z0_down_debts z0_down_near z0_down_forms v0_down_hares z0_down_foxes z0_down_safe a0_row cyI f0_row) → va_S A s.heap H locs → lv_has ls 3 [(0, .ref a0), (1, .int l1), (2, .int l2)] → wl_X1_allDebts_4 v0_down_hares f0_row Q  n l1 l2 → W p l e (headSpec wsX1_allDebts ({ frames := 2, cells := 0, slots := 0, locals := 45 })).room s m args below meth c H locs 0 0 (MQ below (va_Qi (fun (r : Int32) (_ : Unit) => Q r ) (cB (dC, dI) (kT cyB cyI cyJ cyP) A (fun u : Unit => ((wd00_9 a0 a0_row z0_owedEach a0_down z0_law a0_down z0_down_formX z0_down_formY z0_down_foxX z0_down_foxY z0_down_seat z0_down_strength z0_down_debts z0_down_near z0_down_forms v0_down_hares z0_down_foxes z0_down_safe a0_row cyI f0_row) : va_W))) A) args s 0 0 A) (F0 m 4 ls []) := by
  obtain ⟨hx, hb, hr, hts, hown, hlocks, hml, hA, hK, hNw⟩ := id C0
  intro n
  induction n with
  | zero => intro H locs ls l1 l2 hP hD hS hl hw; exact False.elim hw
  | succ n ih =>
    intro H locs ls l1 l2 hP hD hS hl hw
    refine lv_iload_n hx hb (dt_of tkX1_allDebts_k0 4 rfl) rfl (lv_at hl 2 rfl) ?_
    refine lv_aload_n hx hb (dt_of tkX1_allDebts_k0 5 rfl) rfl (lv_at hl 0 rfl) ?_
    refine va_get (D := (dC, dI)) (ci := 1) (v := .ref a0_down) (C := RX1) (T := TX1) (N := 4) hx hb hts ui_X1_allDebts_X1 hown hK hP 0 rfl rfl 2 (by decide) (hts _ uw_X1_allDebts_f24) (fun _ h9 => h9) rfl (dt_of tkX1_allDebts_k0 6 rfl) ?_
    refine va_get (D := (dC, dI)) (ci := 2) (v := .int v0_down_hares) (C := RX2) (T := TX2) (N := 12) hx hb hts ui_X1_allDebts_X2 hown hK hP 1 rfl rfl 9 (by decide) (hts _ uw_X1_allDebts_f32) (fun _ h9 => h9) rfl (dt_of tkX1_allDebts_k0 7 rfl) ?_
    refine lv_icmp_ge (tgt := 29) hx hb (dt_of tkX1_allDebts_k0 8 rfl) (by decide) (fun c1 => ?_) (fun c1 => ?_)
    · have hw := hw.1 c1
      refine lv_iload_n hx hb (dt_of tkX1_allDebts_k26 1 rfl) rfl (lv_at hl 1 rfl) ?_
      exact ((W.iret (v := l1) hx hb hr (fun t ht hW => ⟨⟨l1, (), rfl, hw, by rw [ht]; exact hP, va_K.moved hW.alike hK, hD⟩, hS.F ht⟩) hS.2.2 (dt_of tkX1_allDebts_k26 2 rfl)))
    · have hw := hw.2 c1
      refine lv_iload_n hx hb (dt_of tkX1_allDebts_k0 9 rfl) rfl (lv_at hl 1 rfl) ?_
      refine lv_aload_n hx hb (dt_of tkX1_allDebts_k0 10 rfl) rfl (lv_at hl 0 rfl) ?_
      refine lv_iload_n hx hb (dt_of tkX1_allDebts_k0 11 rfl) rfl (lv_at hl 2 rfl) ?_
      obtain ⟨hCc, hPc, hDc, hFc⟩ := va_pick (ws' := (wd00_9 a0 a0_row z0_owedEach a0_down z0_law a0_down z0_down_formX z0_down_formY z0_down_foxX z0_down_foxY z0_down_seat z0_down_strength z0_down_debts z0_down_near z0_down_forms v0_down_hares z0_down_foxes z0_down_safe a0_row cyI f0_row)) hP hD hS hA [0, 1, 2] (by decide +kernel) rfl
      refine va_calli (va_runV (As := [.int l2]) (rest := [.int l1]) ⟨hx, hb, hml, hown, hts⟩ (ck_X1_owes l dC dI cyB cyI cyJ cyP a0 a0_down a0_row H.size (z0_owedEach) (z0_law) (z0_down_formX) (z0_down_formY) (z0_down_foxX) (z0_down_foxY) (z0_down_seat) (z0_down_strength) (z0_down_debts) (z0_down_near) (z0_down_forms) (z0_down_foxes) (z0_down_safe) v0_down_hares f0_row  l2 hw) (cwV 1 hts gX1_allDebts_X1_owes rfl rfl rfl (by decide +kernel) ⟨Nat.le_of_ble_eq_true rfl, Nat.le_of_ble_eq_true rfl⟩) ⟨cPc_blind, va_recv (q := (RX1, TX1, 4)) hK hPc (ci := 1) (q0 := 0) rfl rfl, cPc_pre hPc hK hDc hNw⟩ rfl rfl hl.1 rfl (lv_room (Nat.le_of_ble_eq_true rfl)) (dt_of tkX1_allDebts_k0 12 rfl) ⟨Nat.le_of_ble_eq_true rfl, Nat.le_of_ble_eq_true rfl⟩) hS (fun q _ h => hFc q h) hFc (fun r2 u t H1 locs ht hvm hw hB hz1 hk1 hS => ?_)
      obtain ⟨hP1, hK1, hD1⟩ := hB
      rw [ht] at hP1
      obtain ⟨hP, hD⟩ := va_joinI (wr := []) (w1 := (wd00_9 a0 a0_row z0_owedEach a0_down z0_law a0_down z0_down_formX z0_down_formY z0_down_foxX z0_down_foxY z0_down_seat z0_down_strength z0_down_debts z0_down_near z0_down_forms v0_down_hares z0_down_foxes z0_down_safe a0_row cyI f0_row)) (wn := (wd00_9 a0 a0_row z0_owedEach a0_down z0_law a0_down z0_down_formX z0_down_formY z0_down_foxX z0_down_foxY z0_down_seat z0_down_strength z0_down_debts z0_down_near z0_down_forms v0_down_hares z0_down_foxes z0_down_safe a0_row cyI f0_row)) hP hD [0, 1, 2] [] hCc rfl (by decide +kernel) (by decide +kernel) rfl hk1 hFc hP1 hD1
      generalize H1 = H at hP hS ⊢
      refine lv_iadd hx hb (dt_of tkX1_allDebts_k0 13 rfl) ?_
      refine lv_topi (fun x3 ex3 => ?_)
      have hw := hw x3 ex3
      refine lv_istore_n (lv' := [(1, .int x3), (0, .ref a0), (2, .int l2)]) hx hb (dt_of tkX1_allDebts_k0 14 rfl) rfl hl (by decide) rfl (fun ls hl => ?_)
      obtain ⟨x4, ex4⟩ : ∃ y : Int32, y = l2 + 1 := ⟨_, rfl⟩
      have hw := hw x4 ex4
      refine lv_iinc (v := x4) (lv' := [(2, .int x4), (1, .int x3), (0, .ref a0)]) hx hb (dt_of tkX1_allDebts_k0 15 rfl) hl (k := 2) rfl (by rw [ex4]; rfl) (by decide) rfl (fun ls hl => ?_)
      refine lv_goto (tgt := 4) hx hb (dt_of tkX1_allDebts_k26 0 rfl) (by decide) ?_
      exact ih _ _ _ x3 x4 hP hD hS (lv_sub hl [2, 1, 0] rfl) hw
set_option maxHeartbeats 4000000 in
set_option maxRecDepth 100000 in
theorem ck_X1_allDebts (l : Launch) (dC : Nat → ClassId) (dI : Nat → Nat → Nat) (cyB cyI cyJ cyP : ClassId) (a0 a0_down a0_row : Nat) (sz : Nat) (z0_owedEach : Value) (z0_law : Value) (z0_down_formX : Value) (z0_down_formY : Value) (z0_down_foxX : Value) (z0_down_foxY : Value) (z0_down_seat : Value) (z0_down_strength : Value) (z0_down_debts : Value) (z0_down_near : Value) (z0_down_forms : Value) (z0_down_foxes : Value) (z0_down_safe : Value) (v0_down_hares : Int32) (f0_row : Nat → Int32)   {Q : Int32 → Prop} (hw : wq_X1_allDebts v0_down_hares f0_row   Q) : Met l yX1_allDebts wsX1_allDebts ({ frames := 2, cells := 0, slots := 0, locals := 45 }) (va_Pc [.ref a0] (cPc (dC, dI) (kT cyB cyI cyJ cyP) (wd00_9 a0 a0_row z0_owedEach a0_down z0_law a0_down z0_down_formX z0_down_formY z0_down_foxX z0_down_foxY z0_down_seat z0_down_strength z0_down_debts z0_down_near z0_down_forms v0_down_hares z0_down_foxes z0_down_safe a0_row cyI f0_row) sz)) (va_Qi (fun (r : Int32) (_ : Unit) => Q r ) (cB (dC, dI) (kT cyB cyI cyJ cyP) (va_A (wd00_9 a0 a0_row z0_owedEach a0_down z0_law a0_down z0_down_formX z0_down_formY z0_down_foxX z0_down_foxY z0_down_seat z0_down_strength z0_down_debts z0_down_near z0_down_forms v0_down_hares z0_down_foxes z0_down_safe a0_row cyI f0_row) sz) (fun u : Unit => ((wd00_9 a0 a0_row z0_owedEach a0_down z0_law a0_down z0_down_formX z0_down_formY z0_down_foxX z0_down_foxY z0_down_seat z0_down_strength z0_down_debts z0_down_near z0_down_forms v0_down_hares z0_down_foxes z0_down_safe a0_row cyI f0_row) : va_W))) (va_A (wd00_9 a0 a0_row z0_owedEach a0_down z0_law a0_down z0_down_formX z0_down_formY z0_down_foxX z0_down_foxY z0_down_seat z0_down_strength z0_down_debts z0_down_near z0_down_forms v0_down_hares z0_down_foxes z0_down_safe a0_row cyI f0_row) sz)) 0 0 (va_A (wd00_9 a0 a0_row z0_owedEach a0_down z0_law a0_down z0_down_formX z0_down_formY z0_down_foxX z0_down_foxY z0_down_seat z0_down_strength z0_down_debts z0_down_near z0_down_forms v0_down_hares z0_down_foxes z0_down_safe a0_row cyI f0_row) sz) := by
  refine Met.ofW (cc := cX1_allDebts) (maxL := 3) (ret := (some .int)) (by decide) rfl ?_
  intro p e s m args below meth c s₁ B hml hv
  obtain ⟨rfl, hsz, hP, hK, hD0, hNw⟩ := hv
  have hx := B.exec
  have hb := B.bytes
  have hr := B.returns
  have hts := atoms_spec (ws := wsX1_allDebts) B.pre
  have hown : s.vm.findClass RX1 = some m.cls := findClass_of_methodNamed B.named
  have hlocks := B.notSynchronized
  subst hsz
  have hD := hD0.self (sz := s.heap.size)
  generalize hAe : va_A (wd00_9 a0 a0_row z0_owedEach a0_down z0_law a0_down z0_down_formX z0_down_formY z0_down_foxX z0_down_foxY z0_down_seat z0_down_strength z0_down_debts z0_down_near z0_down_forms v0_down_hares z0_down_foxes z0_down_safe a0_row cyI f0_row) s.heap.size = A at hD ⊢
  have hA : ∀ q : Nat, s.heap.size ≤ q → A q := fun q h => by rw [← hAe]; exact Or.inr h
  have hS : va_S A s.heap s.heap [] := va_S.rf
  have hP : va_P (dC, dI) vwCl (wd00_9 a0 a0_row z0_owedEach a0_down z0_law a0_down z0_down_formX z0_down_formY z0_down_foxX z0_down_foxY z0_down_seat z0_down_strength z0_down_debts z0_down_near z0_down_forms v0_down_hares z0_down_foxes z0_down_safe a0_row cyI f0_row) s.heap := hP
  have hl := lv_entry ([.ref a0]) (n := 3) (Nat.le_of_ble_eq_true rfl)
  rw [lg_entry_eq]
  generalize (lg_sl ([.ref a0]) ++ List.replicate (3 - (lg_sl ([.ref a0])).length) Slot.unset).toArray = ls at hl ⊢
  have hl : lv_has ls 3 [(0, .ref a0)] := hl
  have C0 : cfx p s m _ meth c cX1_allDebts (some .int) wsX1_allDebts RX1 3 A (dC, dI) (kT cyB cyI cyJ cyP) := ⟨hx, hb, hr, hts, hown, hlocks, hml, hA, hK, hNw⟩
  clear hAe
  obtain ⟨H, hH⟩ : ∃ H, H = s.heap := ⟨_, rfl⟩
  rw [← hH] at hP ⊢
  have hS : va_S A s.heap H [] := by rw [hH]; exact va_S.rf
  have hS := hS
  refine lv_iconst (v := 0) hx hb (dt_of tkX1_allDebts_k0 0 rfl) (by decide) ?_
  refine lv_istore_n (lv' := [(1, .int 0), (0, .ref a0)]) hx hb (dt_of tkX1_allDebts_k0 1 rfl) rfl hl (by decide) rfl (fun ls hl => ?_)
  refine lv_iconst (v := 0) hx hb (dt_of tkX1_allDebts_k0 2 rfl) (by decide) ?_
  refine lv_istore_n (lv' := [(2, .int 0), (1, .int 0), (0, .ref a0)]) hx hb (dt_of tkX1_allDebts_k0 3 rfl) rfl hl (by decide) rfl (fun ls hl => ?_)
  obtain ⟨n9, hw⟩ := hw
  exact kl_X1_allDebts_4 dC dI cyB cyI cyJ cyP a0 a0_down a0_row z0_owedEach z0_law z0_down_formX z0_down_formY z0_down_foxX z0_down_foxY z0_down_seat z0_down_strength z0_down_debts z0_down_near z0_down_forms z0_down_foxes z0_down_safe v0_down_hares f0_row Q  C0 n9 _ _ _ 0 0 hP hD hS (lv_sub hl [2, 1, 0] rfl) hw
theorem lk_neI {x k : Int32} {n : Int} (h : ¬ x = k) (e : k.toInt = n) : ¬ n = x.toInt := fun q => h (Int32.toInt_inj.mp (q.symm.trans e.symm))
theorem ui_X10_ahead_X10 : ∀ w ∈ u_ws RX10 TX10 19, w ∈ wsX10_ahead := uiM mbX10_ahead euX10 (by decide +kernel)
theorem uw_X10_ahead_f58 : (.fieldLink RX10 58 "MarchHares" "now" "LMarchHares$Days;" : Cond) ∈ wsX10_ahead := mbX10_ahead 79 (by decide +kernel)
theorem uw_X10_ahead_f62 : (.fieldLink RX10 62 "MarchHares" "trial" "LMarchHares$Days;" : Cond) ∈ wsX10_ahead := mbX10_ahead 80 (by decide +kernel)
set_option maxHeartbeats 4000000 in
set_option maxRecDepth 100000 in
theorem kl_X10_ahead_28 {p : Program} {l : Launch} {e : Env} {s : State} {m : MethodId} {args : Array Value} {below : List Frame} {meth : Method} {c : Code} {A : Nat → Prop} (dC : Nat → ClassId) (dI : Nat → Nat → Nat) (cyB cyI cyJ cyP : ClassId) (a0 a0_trial a0_now a0_now_row a0_trial_row a0_ground a0_rule a0_ground_strength : Nat) (z0_tape : Value) (z0_ground : Value) (z0_spareGround : Value) (z0_rule : Value) (z0_spareRule : Value) (z0_lines : Value) (z0_spareLines : Value) (z0_steps : Value) (z0_past : Value) (z0_images : Value) (z0_round : Value) (z0_seating : Value) (z0_fitting : Value) (z0_imagesKept : Value) (z0_refusedSteps : Value) (z0_callsNoSuch : Value) (z0_trial_owedEach : Value) (z0_now_owedEach : Value) (z0_ground_formX : Value) (z0_ground_formY : Value) (z0_ground_foxX : Value) (z0_ground_foxY : Value) (z0_ground_seat : Value) (z0_ground_debts : Value) (z0_ground_near : Value) (z0_ground_forms : Value) (z0_ground_foxes : Value) (f0_now_row : Nat → Int32) (v0_ground_hares : Int32) (v0_ground_safe : Int32) (f0_ground_strength : Nat → Int32) (E : String → Int32 → (Nat → Int32) → Value → Value → Prop) (Q : Int32 → Int32 → (Nat → Int32) → Value → Value → Prop)  (C0 : cfx p s m args meth c cX10_ahead (some .int) wsX10_ahead RX10 4 A (dC, dI) (kT cyB cyI cyJ cyP) ∧ cfX l s c A) : ∀ (n : Nat) (H : Heap) (locs : List Loc) (ls : Array Slot) (v0_callsIllegal : Int32) (f0_trial_row : Nat → Int32) (r0_trial_down : Value) (r0_trial_law : Value) (l1 : Int32) (l2 : Int32) (l3 : Int32), va_P (dC, dI) vwCl (wd00_13 a0 z0_tape z0_ground z0_spareGround z0_rule z0_spareRule z0_lines z0_spareLines z0_steps a0_now a0_trial z0_past z0_images z0_round z0_seating z0_fitting z0_imagesKept z0_refusedSteps z0_callsNoSuch v0_callsIllegal a0_trial a0_trial_row z0_trial_owedEach a0_ground a0_rule a0_now a0_now_row z0_now_owedEach a0_ground a0_rule a0_now_row cyI f0_now_row a0_trial_row cyI f0_trial_row a0_ground z0_ground_formX z0_ground_formY z0_ground_foxX z0_ground_foxY z0_ground_seat a0_ground_strength z0_ground_debts z0_ground_near z0_ground_forms v0_ground_hares z0_ground_foxes v0_ground_safe a0_ground_strength cyI f0_ground_strength) H → va_D A (wd00_13 a0 z0_tape z0_ground z0_spareGround z0_rule z0_spareRule z0_lines z0_spareLines z0_steps a0_now a0_trial z0_past z0_images z0_round z0_seating z0_fitting z0_imagesKept z0_refusedSteps z0_callsNoSuch v0_callsIllegal a0_trial a0_trial_row z0_trial_owedEach a0_ground a0_rule a0_now a0_now_row z0_now_owedEach a0_ground a0_rule a0_now_row cyI f0_now_row a0_trial_row cyI f0_trial_row a0_ground z0_ground_formX z0_ground_formY z0_ground_foxX z0_ground_foxY z0_ground_seat a0_ground_strength z0_ground_debts z0_ground_near z0_ground_forms v0_ground_hares z0_ground_foxes v0_ground_safe a0_ground_strength cyI f0_ground_strength) → va_S A s.heap H locs → lv_has ls 4 [(0, .ref a0), (1, .int l1), (2, .int l2), (3, .int l3)] → wl_X10_ahead_28 a0_ground a0_rule f0_now_row v0_ground_hares v0_ground_safe f0_ground_strength E Q  n v0_callsIllegal f0_trial_row r0_trial_down r0_trial_law l1 l2 l3 → W p l e (headSpec wsX10_ahead ({ frames := 8, cells := 2, slots := 12, locals := 164 })).room s m args below meth c H locs 2 12 (vx_MQ below (va_Qi (fun (r : Int32) (u : Int32 × (Nat → Int32) × Value × Value) => Q r u.1 u.2.1 u.2.2.1 u.2.2.2) (cB (dC, dI) (kT cyB cyI cyJ cyP) A (fun u : Int32 × (Nat → Int32) × Value × Value => ((wd00_14 a0 z0_tape z0_ground z0_spareGround z0_rule z0_spareRule z0_lines z0_spareLines z0_steps a0_now a0_trial z0_past z0_images z0_round z0_seating z0_fitting z0_imagesKept z0_refusedSteps z0_callsNoSuch u.1 a0_trial a0_trial_row z0_trial_owedEach u.2.2.1 u.2.2.2 a0_now a0_now_row z0_now_owedEach a0_ground a0_rule a0_now_row cyI f0_now_row a0_trial_row cyI u.2.1 a0_ground z0_ground_formX z0_ground_formY z0_ground_foxX z0_ground_foxY z0_ground_seat a0_ground_strength z0_ground_debts z0_ground_near z0_ground_forms v0_ground_hares z0_ground_foxes v0_ground_safe a0_ground_strength cyI f0_ground_strength) : va_W))) A) (vx_X (fun _ => True) (fun (en : String) (u : Int32 × (Nat → Int32) × Value × Value) (t : State) => E en u.1 u.2.1 u.2.2.1 u.2.2.2 ∧ cB (dC, dI) (kT cyB cyI cyJ cyP) A (fun u : Int32 × (Nat → Int32) × Value × Value => ((wd00_14 a0 z0_tape z0_ground z0_spareGround z0_rule z0_spareRule z0_lines z0_spareLines z0_steps a0_now a0_trial z0_past z0_images z0_round z0_seating z0_fitting z0_imagesKept z0_refusedSteps z0_callsNoSuch u.1 a0_trial a0_trial_row z0_trial_owedEach u.2.2.1 u.2.2.2 a0_now a0_now_row z0_now_owedEach a0_ground a0_rule a0_now_row cyI f0_now_row a0_trial_row cyI u.2.1 a0_ground z0_ground_formX z0_ground_formY z0_ground_foxX z0_ground_foxY z0_ground_seat a0_ground_strength z0_ground_debts z0_ground_near z0_ground_forms v0_ground_hares z0_ground_foxes v0_ground_safe a0_ground_strength cyI f0_ground_strength) : va_W)) u t) A) args s 2 12 A) (F0 m 28 ls []) := by
  obtain ⟨⟨hx, hb, hr, hts, hown, hlocks, hml, hA, hK, hNw⟩, hXs⟩ := id C0
  have hY := hXs.2
  intro n
  induction n with
  | zero => intro H locs ls v0_callsIllegal f0_trial_row r0_trial_down r0_trial_law l1 l2 l3 hP hD hS hl hw; exact False.elim hw
  | succ n ih =>
    intro H locs ls v0_callsIllegal f0_trial_row r0_trial_down r0_trial_law l1 l2 l3 hP hD hS hl hw
    refine lv_iload_n hx hb (dt_of tkX10_ahead_k27 1 rfl) rfl (lv_at hl 3 rfl) ?_
    refine lv_iload_n hx hb (dt_of tkX10_ahead_k27 2 rfl) rfl (lv_at hl 1 rfl) ?_
    refine lv_icmp_ge (tgt := 46) hx hb (dt_of tkX10_ahead_k27 3 rfl) (by decide) (fun c4 => ?_) (fun c4 => ?_)
    · have hw := hw.1 c4
      refine lv_iload_n hx hb (dt_of tkX10_ahead_k27 9 rfl) rfl (lv_at hl 2 rfl) ?_
      by_cases c5 : l2 = 0
      · have hw := hw.1 c5
        refine lv_lookup (tgt := 72) (off := 25) hx hb dX10_ahead_47 (by decide) (by rw [c5]; decide) (by decide) ?_
        refine lv_aload_n hx hb (dt_of tkX10_ahead_k72 0 rfl) rfl (lv_at hl 0 rfl) ?_
        refine va_get (D := (dC, dI)) (ci := 10) (v := .ref a0_trial) (C := RX10) (T := TX10) (N := 19) hx hb hts ui_X10_ahead_X10 hown hK hP 0 rfl rfl 9 (by decide) (hts _ uw_X10_ahead_f62) (fun _ h9 => h9) rfl (dt_of tkX10_ahead_k72 1 rfl) ?_
        obtain ⟨hCc, hPc, hDc, hFc⟩ := va_pick (ws' := (wd00_15 a0_trial a0_trial_row z0_trial_owedEach a0_ground a0_rule a0_trial_row cyI f0_trial_row)) hP hD hS hA [1, 4] (by decide +kernel) rfl
        refine va_calli (va_runV (As := []) (rest := []) ⟨hx, hb, hml, hown, hts⟩ (ck_X1_day l dC dI cyB cyI cyJ cyP a0_trial a0_trial_row H.size (z0_trial_owedEach) (.ref a0_ground) (.ref a0_rule) f0_trial_row   hw) (cwV 0 hts gX10_ahead_X1_day rfl rfl rfl (by decide +kernel) ⟨Nat.le_of_ble_eq_true rfl, Nat.le_of_ble_eq_true rfl⟩) ⟨cPc_blind, va_recv (q := (RX1, TX1, 4)) hK hPc (ci := 1) (q0 := 0) rfl rfl, cPc_pre hPc hK hDc hNw⟩ rfl rfl hl.1 rfl (lv_room (Nat.le_of_ble_eq_true rfl)) (dt_of tkX10_ahead_k72 2 rfl) ⟨Nat.le_of_ble_eq_true rfl, Nat.le_of_ble_eq_true rfl⟩) hS (fun q _ h => hFc q h) hFc (fun r6 u t H1 locs ht hvm hw hB hz1 hk1 hS => ?_)
        obtain ⟨hP1, hK1, hD1⟩ := hB
        rw [ht] at hP1
        obtain ⟨hP, hD⟩ := va_joinN (wr := (wd00_16 a0 z0_tape z0_ground z0_spareGround z0_rule z0_spareRule z0_lines z0_spareLines z0_steps a0_now a0_trial z0_past z0_images z0_round z0_seating z0_fitting z0_imagesKept z0_refusedSteps z0_callsNoSuch v0_callsIllegal a0_now a0_now_row z0_now_owedEach a0_ground a0_rule a0_now_row cyI f0_now_row a0_ground z0_ground_formX z0_ground_formY z0_ground_foxX z0_ground_foxY z0_ground_seat a0_ground_strength z0_ground_debts z0_ground_near z0_ground_forms v0_ground_hares z0_ground_foxes v0_ground_safe a0_ground_strength cyI f0_ground_strength)) (w1 := (wd00_15 a0_trial a0_trial_row z0_trial_owedEach a0_ground a0_rule a0_trial_row cyI f0_trial_row)) (wn := (wd00_13 a0 z0_tape z0_ground z0_spareGround z0_rule z0_spareRule z0_lines z0_spareLines z0_steps a0_now a0_trial z0_past z0_images z0_round z0_seating z0_fitting z0_imagesKept z0_refusedSteps z0_callsNoSuch v0_callsIllegal a0_trial a0_trial_row z0_trial_owedEach a0_ground a0_rule a0_now a0_now_row z0_now_owedEach a0_ground a0_rule a0_now_row cyI f0_now_row a0_trial_row cyI f0_trial_row a0_ground z0_ground_formX z0_ground_formY z0_ground_foxX z0_ground_foxY z0_ground_seat a0_ground_strength z0_ground_debts z0_ground_near z0_ground_forms v0_ground_hares z0_ground_foxes v0_ground_safe a0_ground_strength cyI f0_ground_strength)) hP hD [1, 4] [0, 2, 3, 5, 6] [0, 5, 1, 2, 6, 3, 4] hCc rfl (by decide +kernel) (by decide +kernel) (by decide +kernel) rfl hk1 hFc hP1 hD1
        generalize H1 = H at hP hS ⊢
        exact vx_ret (W.widen (k := 2) (n := 12) (Nat.le_of_ble_eq_true rfl) (Nat.le_of_ble_eq_true rfl) (W.iret (v := r6) hx hb hr (fun t ht hW => ⟨⟨r6, (v0_callsIllegal, f0_trial_row, (.ref a0_ground), (.ref a0_rule)), rfl, hw, by rw [ht]; exact hP, va_K.moved hW.alike hK, hD⟩, hS.F ht⟩) hS.2.2 (dt_of tkX10_ahead_k72 3 rfl)))
      have hw := hw.2 c5
      by_cases c7 : l2 = 1
      · have hw := hw.1 c7
        refine lv_lookup (tgt := 80) (off := 33) hx hb dX10_ahead_47 (by decide) (by rw [c7]; decide) (by decide) ?_
        refine lv_aload_n hx hb (dt_of tkX10_ahead_k72 4 rfl) rfl (lv_at hl 0 rfl) ?_
        refine va_get (D := (dC, dI)) (ci := 10) (v := .ref a0_trial) (C := RX10) (T := TX10) (N := 19) hx hb hts ui_X10_ahead_X10 hown hK hP 0 rfl rfl 9 (by decide) (hts _ uw_X10_ahead_f62) (fun _ h9 => h9) rfl (dt_of tkX10_ahead_k72 5 rfl) ?_
        obtain ⟨hCc, hPc, hDc, hFc⟩ := va_pick (ws' := (wd00_15 a0_trial a0_trial_row z0_trial_owedEach a0_ground a0_rule a0_trial_row cyI f0_trial_row)) hP hD hS hA [1, 4] (by decide +kernel) rfl
        refine va_calli (va_runV (As := []) (rest := []) ⟨hx, hb, hml, hown, hts⟩ (ck_X1_caughtOnes l dC dI cyB cyI cyJ cyP a0_trial a0_trial_row H.size (z0_trial_owedEach) (.ref a0_ground) (.ref a0_rule) f0_trial_row   hw) (cwV 0 hts gX10_ahead_X1_caughtOnes rfl rfl rfl (by decide +kernel) ⟨Nat.le_of_ble_eq_true rfl, Nat.le_of_ble_eq_true rfl⟩) ⟨cPc_blind, va_recv (q := (RX1, TX1, 4)) hK hPc (ci := 1) (q0 := 0) rfl rfl, cPc_pre hPc hK hDc hNw⟩ rfl rfl hl.1 rfl (lv_room (Nat.le_of_ble_eq_true rfl)) (dt_of tkX10_ahead_k72 6 rfl) ⟨Nat.le_of_ble_eq_true rfl, Nat.le_of_ble_eq_true rfl⟩) hS (fun q _ h => hFc q h) hFc (fun r8 u t H1 locs ht hvm hw hB hz1 hk1 hS => ?_)
        obtain ⟨hP1, hK1, hD1⟩ := hB
        rw [ht] at hP1
        obtain ⟨hP, hD⟩ := va_joinN (wr := (wd00_16 a0 z0_tape z0_ground z0_spareGround z0_rule z0_spareRule z0_lines z0_spareLines z0_steps a0_now a0_trial z0_past z0_images z0_round z0_seating z0_fitting z0_imagesKept z0_refusedSteps z0_callsNoSuch v0_callsIllegal a0_now a0_now_row z0_now_owedEach a0_ground a0_rule a0_now_row cyI f0_now_row a0_ground z0_ground_formX z0_ground_formY z0_ground_foxX z0_ground_foxY z0_ground_seat a0_ground_strength z0_ground_debts z0_ground_near z0_ground_forms v0_ground_hares z0_ground_foxes v0_ground_safe a0_ground_strength cyI f0_ground_strength)) (w1 := (wd00_15 a0_trial a0_trial_row z0_trial_owedEach a0_ground a0_rule a0_trial_row cyI f0_trial_row)) (wn := (wd00_13 a0 z0_tape z0_ground z0_spareGround z0_rule z0_spareRule z0_lines z0_spareLines z0_steps a0_now a0_trial z0_past z0_images z0_round z0_seating z0_fitting z0_imagesKept z0_refusedSteps z0_callsNoSuch v0_callsIllegal a0_trial a0_trial_row z0_trial_owedEach a0_ground a0_rule a0_now a0_now_row z0_now_owedEach a0_ground a0_rule a0_now_row cyI f0_now_row a0_trial_row cyI f0_trial_row a0_ground z0_ground_formX z0_ground_formY z0_ground_foxX z0_ground_foxY z0_ground_seat a0_ground_strength z0_ground_debts z0_ground_near z0_ground_forms v0_ground_hares z0_ground_foxes v0_ground_safe a0_ground_strength cyI f0_ground_strength)) hP hD [1, 4] [0, 2, 3, 5, 6] [0, 5, 1, 2, 6, 3, 4] hCc rfl (by decide +kernel) (by decide +kernel) (by decide +kernel) rfl hk1 hFc hP1 hD1
        generalize H1 = H at hP hS ⊢
        exact vx_ret (W.widen (k := 2) (n := 12) (Nat.le_of_ble_eq_true rfl) (Nat.le_of_ble_eq_true rfl) (W.iret (v := r8) hx hb hr (fun t ht hW => ⟨⟨r8, (v0_callsIllegal, f0_trial_row, (.ref a0_ground), (.ref a0_rule)), rfl, hw, by rw [ht]; exact hP, va_K.moved hW.alike hK, hD⟩, hS.F ht⟩) hS.2.2 (dt_of tkX10_ahead_k72 7 rfl)))
      have hw := hw.2 c7
      refine lv_lookup (tgt := 88) (off := 41) hx hb dX10_ahead_47 (by decide) (by have nc5 := lk_neI (n := 0) c5 rfl; have nc7 := lk_neI (n := 1) c7 rfl; simp [Op.lookupswitch.offset, nc5, nc7]) (by decide) ?_
      refine lv_aload_n hx hb (dt_of tkX10_ahead_k72 8 rfl) rfl (lv_at hl 0 rfl) ?_
      refine va_get (D := (dC, dI)) (ci := 10) (v := .ref a0_trial) (C := RX10) (T := TX10) (N := 19) hx hb hts ui_X10_ahead_X10 hown hK hP 0 rfl rfl 9 (by decide) (hts _ uw_X10_ahead_f62) (fun _ h9 => h9) rfl (dt_of tkX10_ahead_k72 9 rfl) ?_
      obtain ⟨hCc, hPc, hDc, hFc⟩ := va_pick (ws' := (wd00_17 a0_trial a0_trial_row z0_trial_owedEach a0_ground a0_rule a0_ground z0_ground_formX z0_ground_formY z0_ground_foxX z0_ground_foxY z0_ground_seat a0_ground_strength z0_ground_debts z0_ground_near z0_ground_forms v0_ground_hares z0_ground_foxes v0_ground_safe a0_trial_row cyI f0_trial_row)) hP hD hS hA [1, 5, 4] (by decide +kernel) rfl
      refine va_calli (va_runV (As := []) (rest := []) ⟨hx, hb, hml, hown, hts⟩ (ck_X1_allDebts l dC dI cyB cyI cyJ cyP a0_trial a0_ground a0_trial_row H.size (z0_trial_owedEach) (.ref a0_rule) (z0_ground_formX) (z0_ground_formY) (z0_ground_foxX) (z0_ground_foxY) (z0_ground_seat) (.ref a0_ground_strength) (z0_ground_debts) (z0_ground_near) (z0_ground_forms) (z0_ground_foxes) (.int v0_ground_safe) v0_ground_hares f0_trial_row   hw) (cwV 0 hts gX10_ahead_X1_allDebts rfl rfl rfl (by decide +kernel) ⟨Nat.le_of_ble_eq_true rfl, Nat.le_of_ble_eq_true rfl⟩) ⟨cPc_blind, va_recv (q := (RX1, TX1, 4)) hK hPc (ci := 1) (q0 := 0) rfl rfl, cPc_pre hPc hK hDc hNw⟩ rfl rfl hl.1 rfl (lv_room (Nat.le_of_ble_eq_true rfl)) (dt_of tkX10_ahead_k72 10 rfl) ⟨Nat.le_of_ble_eq_true rfl, Nat.le_of_ble_eq_true rfl⟩) hS (fun q _ h => hFc q h) hFc (fun r9 u t H1 locs ht hvm hw hB hz1 hk1 hS => ?_)
      obtain ⟨hP1, hK1, hD1⟩ := hB
      rw [ht] at hP1
      obtain ⟨hP, hD⟩ := va_joinN (wr := [(a0, .inr (10, [z0_tape, z0_ground, z0_spareGround, z0_rule, z0_spareRule, z0_lines, z0_spareLines, z0_steps, .ref a0_now, .ref a0_trial, z0_past, z0_images, z0_round, z0_seating, z0_fitting, z0_imagesKept, z0_refusedSteps, z0_callsNoSuch, .int v0_callsIllegal])), (a0_now, .inr (1, [.ref a0_now_row, z0_now_owedEach, .ref a0_ground, .ref a0_rule])), (a0_now_row, .inl (cyI, 64, .inl f0_now_row)), (a0_ground_strength, .inl (cyI, 6, .inl f0_ground_strength))]) (w1 := (wd00_17 a0_trial a0_trial_row z0_trial_owedEach a0_ground a0_rule a0_ground z0_ground_formX z0_ground_formY z0_ground_foxX z0_ground_foxY z0_ground_seat a0_ground_strength z0_ground_debts z0_ground_near z0_ground_forms v0_ground_hares z0_ground_foxes v0_ground_safe a0_trial_row cyI f0_trial_row)) (wn := (wd00_13 a0 z0_tape z0_ground z0_spareGround z0_rule z0_spareRule z0_lines z0_spareLines z0_steps a0_now a0_trial z0_past z0_images z0_round z0_seating z0_fitting z0_imagesKept z0_refusedSteps z0_callsNoSuch v0_callsIllegal a0_trial a0_trial_row z0_trial_owedEach a0_ground a0_rule a0_now a0_now_row z0_now_owedEach a0_ground a0_rule a0_now_row cyI f0_now_row a0_trial_row cyI f0_trial_row a0_ground z0_ground_formX z0_ground_formY z0_ground_foxX z0_ground_foxY z0_ground_seat a0_ground_strength z0_ground_debts z0_ground_near z0_ground_forms v0_ground_hares z0_ground_foxes v0_ground_safe a0_ground_strength cyI f0_ground_strength)) hP hD [1, 5, 4] [0, 2, 3, 6] [0, 4, 1, 2, 6, 5, 3] hCc rfl (by decide +kernel) (by decide +kernel) (by decide +kernel) rfl hk1 hFc hP1 hD1
      generalize H1 = H at hP hS ⊢
      exact vx_ret (W.widen (k := 2) (n := 12) (Nat.le_of_ble_eq_true rfl) (Nat.le_of_ble_eq_true rfl) (W.iret (v := r9) hx hb hr (fun t ht hW => ⟨⟨r9, (v0_callsIllegal, f0_trial_row, (.ref a0_ground), (.ref a0_rule)), rfl, hw, by rw [ht]; exact hP, va_K.moved hW.alike hK, hD⟩, hS.F ht⟩) hS.2.2 (dt_of tkX10_ahead_k72 11 rfl)))
    · have hw := hw.2 c4
      refine lv_aload_n hx hb (dt_of tkX10_ahead_k27 4 rfl) rfl (lv_at hl 0 rfl) ?_
      refine va_get (D := (dC, dI)) (ci := 10) (v := .ref a0_trial) (C := RX10) (T := TX10) (N := 19) hx hb hts ui_X10_ahead_X10 hown hK hP 0 rfl rfl 9 (by decide) (hts _ uw_X10_ahead_f62) (fun _ h9 => h9) rfl (dt_of tkX10_ahead_k27 5 rfl) ?_
      obtain ⟨hCc, hPc, hDc, hFc⟩ := va_pick (ws' := (wd00_18 a0_trial a0_trial_row z0_trial_owedEach a0_ground a0_rule a0_ground z0_ground_formX z0_ground_formY z0_ground_foxX z0_ground_foxY z0_ground_seat a0_ground_strength z0_ground_debts z0_ground_near z0_ground_forms v0_ground_hares z0_ground_foxes v0_ground_safe a0_trial_row cyI f0_trial_row a0_ground_strength cyI f0_ground_strength)) hP hD hS hA [1, 5, 4, 6] (by decide +kernel) rfl
      refine va_callv (va_runV (As := []) (rest := []) ⟨hx, hb, hml, hown, hts⟩ (ck_X1_passDay l dC dI cyB cyI cyJ cyP a0_trial a0_ground a0_trial_row a0_ground_strength H.size (z0_trial_owedEach) (.ref a0_rule) (z0_ground_formX) (z0_ground_formY) (z0_ground_foxX) (z0_ground_foxY) (z0_ground_seat) (z0_ground_debts) (z0_ground_near) (z0_ground_forms) (z0_ground_foxes) v0_ground_hares v0_ground_safe f0_ground_strength f0_trial_row  hw) (cwV 0 hts gX10_ahead_X1_passDay rfl rfl rfl (by decide +kernel) ⟨Nat.le_of_ble_eq_true rfl, Nat.le_of_ble_eq_true rfl⟩) ⟨cPc_blind, va_recv (q := (RX1, TX1, 4)) hK hPc (ci := 1) (q0 := 0) rfl rfl, cPc_pre hPc hK hDc hNw⟩ rfl rfl hl.1 rfl (lv_room (Nat.le_of_ble_eq_true rfl)) (dt_of tkX10_ahead_k27 6 rfl) ⟨Nat.le_of_ble_eq_true rfl, Nat.le_of_ble_eq_true rfl⟩) hS (fun q _ h => hFc q h) hFc (fun u t H1 locs ht hvm hw hB hz1 hk1 hS => ?_)
      obtain ⟨f10, rfl⟩ : ∃ z, z = u := ⟨_, rfl⟩
      obtain ⟨hP1, hK1, hD1⟩ := hB
      rw [ht] at hP1
      obtain ⟨hP, hD⟩ := va_joinN (wr := [(a0, .inr (10, [z0_tape, z0_ground, z0_spareGround, z0_rule, z0_spareRule, z0_lines, z0_spareLines, z0_steps, .ref a0_now, .ref a0_trial, z0_past, z0_images, z0_round, z0_seating, z0_fitting, z0_imagesKept, z0_refusedSteps, z0_callsNoSuch, .int v0_callsIllegal])), (a0_now, .inr (1, [.ref a0_now_row, z0_now_owedEach, .ref a0_ground, .ref a0_rule])), (a0_now_row, .inl (cyI, 64, .inl f0_now_row))]) (w1 := (wd00_18 a0_trial a0_trial_row z0_trial_owedEach a0_ground a0_rule a0_ground z0_ground_formX z0_ground_formY z0_ground_foxX z0_ground_foxY z0_ground_seat a0_ground_strength z0_ground_debts z0_ground_near z0_ground_forms v0_ground_hares z0_ground_foxes v0_ground_safe a0_trial_row cyI f10 a0_ground_strength cyI f0_ground_strength)) (wn := (wd00_13 a0 z0_tape z0_ground z0_spareGround z0_rule z0_spareRule z0_lines z0_spareLines z0_steps a0_now a0_trial z0_past z0_images z0_round z0_seating z0_fitting z0_imagesKept z0_refusedSteps z0_callsNoSuch v0_callsIllegal a0_trial a0_trial_row z0_trial_owedEach a0_ground a0_rule a0_now a0_now_row z0_now_owedEach a0_ground a0_rule a0_now_row cyI f0_now_row a0_trial_row cyI f10 a0_ground z0_ground_formX z0_ground_formY z0_ground_foxX z0_ground_foxY z0_ground_seat a0_ground_strength z0_ground_debts z0_ground_near z0_ground_forms v0_ground_hares z0_ground_foxes v0_ground_safe a0_ground_strength cyI f0_ground_strength)) hP hD [1, 5, 4, 6] [0, 2, 3] [0, 3, 1, 2, 5, 4, 6] hCc rfl (by decide +kernel) (by decide +kernel) (by decide +kernel) rfl hk1 hFc hP1 hD1
      generalize H1 = H at hP hS ⊢
      obtain ⟨x11, ex11⟩ : ∃ y : Int32, y = l3 + 1 := ⟨_, rfl⟩
      have hw := hw x11 ex11
      refine lv_iinc (v := x11) (lv' := [(3, .int x11), (0, .ref a0), (1, .int l1), (2, .int l2)]) hx hb (dt_of tkX10_ahead_k27 7 rfl) hl (k := 3) rfl (by rw [ex11]; rfl) (by decide) rfl (fun ls hl => ?_)
      refine lv_goto (tgt := 28) hx hb (dt_of tkX10_ahead_k27 8 rfl) (by decide) ?_
      exact ih _ _ _ v0_callsIllegal f10 (.ref a0_ground) (.ref a0_rule) l1 l2 x11 hP hD hS (lv_sub hl [1, 2, 3, 0] rfl) hw
set_option maxHeartbeats 4000000 in
set_option maxRecDepth 100000 in
theorem ck_X10_ahead (l : Launch) (dC : Nat → ClassId) (dI : Nat → Nat → Nat) (cyB cyI cyJ cyP : ClassId) (a0 a0_trial a0_now a0_now_row a0_trial_row a0_ground a0_rule a0_ground_strength : Nat) (sz : Nat) (z0_tape : Value) (z0_ground : Value) (z0_spareGround : Value) (z0_rule : Value) (z0_spareRule : Value) (z0_lines : Value) (z0_spareLines : Value) (z0_steps : Value) (z0_past : Value) (z0_images : Value) (z0_round : Value) (z0_seating : Value) (z0_fitting : Value) (z0_imagesKept : Value) (z0_refusedSteps : Value) (z0_callsNoSuch : Value) (z0_trial_owedEach : Value) (z0_now_owedEach : Value) (z0_ground_formX : Value) (z0_ground_formY : Value) (z0_ground_foxX : Value) (z0_ground_foxY : Value) (z0_ground_seat : Value) (z0_ground_debts : Value) (z0_ground_near : Value) (z0_ground_forms : Value) (z0_ground_foxes : Value) (f0_now_row : Nat → Int32) (v0_ground_hares : Int32) (v0_ground_safe : Int32) (f0_ground_strength : Nat → Int32) (v0_callsIllegal : Int32) (f0_trial_row : Nat → Int32) (r0_trial_down : Value) (r0_trial_law : Value) (p1 : Int32) (p2 : Int32) {E : String → Int32 → (Nat → Int32) → Value → Value → Prop} {Q : Int32 → Int32 → (Nat → Int32) → Value → Value → Prop} (hw : wq_X10_ahead a0_ground a0_rule f0_now_row v0_ground_hares v0_ground_safe f0_ground_strength v0_callsIllegal f0_trial_row r0_trial_down r0_trial_law p1 p2 E Q) : vx_Met l yX10_ahead wsX10_ahead ({ frames := 8, cells := 2, slots := 12, locals := 164 }) (va_Pc [.ref a0, .int p1, .int p2] (cPx l (dC, dI) (kT cyB cyI cyJ cyP) (wd00_14 a0 z0_tape z0_ground z0_spareGround z0_rule z0_spareRule z0_lines z0_spareLines z0_steps a0_now a0_trial z0_past z0_images z0_round z0_seating z0_fitting z0_imagesKept z0_refusedSteps z0_callsNoSuch v0_callsIllegal a0_trial a0_trial_row z0_trial_owedEach r0_trial_down r0_trial_law a0_now a0_now_row z0_now_owedEach a0_ground a0_rule a0_now_row cyI f0_now_row a0_trial_row cyI f0_trial_row a0_ground z0_ground_formX z0_ground_formY z0_ground_foxX z0_ground_foxY z0_ground_seat a0_ground_strength z0_ground_debts z0_ground_near z0_ground_forms v0_ground_hares z0_ground_foxes v0_ground_safe a0_ground_strength cyI f0_ground_strength) sz)) (va_Qi (fun (r : Int32) (u : Int32 × (Nat → Int32) × Value × Value) => Q r u.1 u.2.1 u.2.2.1 u.2.2.2) (cB (dC, dI) (kT cyB cyI cyJ cyP) (va_A (wd00_14 a0 z0_tape z0_ground z0_spareGround z0_rule z0_spareRule z0_lines z0_spareLines z0_steps a0_now a0_trial z0_past z0_images z0_round z0_seating z0_fitting z0_imagesKept z0_refusedSteps z0_callsNoSuch v0_callsIllegal a0_trial a0_trial_row z0_trial_owedEach r0_trial_down r0_trial_law a0_now a0_now_row z0_now_owedEach a0_ground a0_rule a0_now_row cyI f0_now_row a0_trial_row cyI f0_trial_row a0_ground z0_ground_formX z0_ground_formY z0_ground_foxX z0_ground_foxY z0_ground_seat a0_ground_strength z0_ground_debts z0_ground_near z0_ground_forms v0_ground_hares z0_ground_foxes v0_ground_safe a0_ground_strength cyI f0_ground_strength) sz) (fun u : Int32 × (Nat → Int32) × Value × Value => ((wd00_14 a0 z0_tape z0_ground z0_spareGround z0_rule z0_spareRule z0_lines z0_spareLines z0_steps a0_now a0_trial z0_past z0_images z0_round z0_seating z0_fitting z0_imagesKept z0_refusedSteps z0_callsNoSuch u.1 a0_trial a0_trial_row z0_trial_owedEach u.2.2.1 u.2.2.2 a0_now a0_now_row z0_now_owedEach a0_ground a0_rule a0_now_row cyI f0_now_row a0_trial_row cyI u.2.1 a0_ground z0_ground_formX z0_ground_formY z0_ground_foxX z0_ground_foxY z0_ground_seat a0_ground_strength z0_ground_debts z0_ground_near z0_ground_forms v0_ground_hares z0_ground_foxes v0_ground_safe a0_ground_strength cyI f0_ground_strength) : va_W))) (va_A (wd00_14 a0 z0_tape z0_ground z0_spareGround z0_rule z0_spareRule z0_lines z0_spareLines z0_steps a0_now a0_trial z0_past z0_images z0_round z0_seating z0_fitting z0_imagesKept z0_refusedSteps z0_callsNoSuch v0_callsIllegal a0_trial a0_trial_row z0_trial_owedEach r0_trial_down r0_trial_law a0_now a0_now_row z0_now_owedEach a0_ground a0_rule a0_now_row cyI f0_now_row a0_trial_row cyI f0_trial_row a0_ground z0_ground_formX z0_ground_formY z0_ground_foxX z0_ground_foxY z0_ground_seat a0_ground_strength z0_ground_debts z0_ground_near z0_ground_forms v0_ground_hares z0_ground_foxes v0_ground_safe a0_ground_strength cyI f0_ground_strength) sz)) (vx_X (fun _ => True) (fun (en : String) (u : Int32 × (Nat → Int32) × Value × Value) (t : State) => E en u.1 u.2.1 u.2.2.1 u.2.2.2 ∧ cB (dC, dI) (kT cyB cyI cyJ cyP) (va_A (wd00_14 a0 z0_tape z0_ground z0_spareGround z0_rule z0_spareRule z0_lines z0_spareLines z0_steps a0_now a0_trial z0_past z0_images z0_round z0_seating z0_fitting z0_imagesKept z0_refusedSteps z0_callsNoSuch v0_callsIllegal a0_trial a0_trial_row z0_trial_owedEach r0_trial_down r0_trial_law a0_now a0_now_row z0_now_owedEach a0_ground a0_rule a0_now_row cyI f0_now_row a0_trial_row cyI f0_trial_row a0_ground z0_ground_formX z0_ground_formY z0_ground_foxX z0_ground_foxY z0_ground_seat a0_ground_strength z0_ground_debts z0_ground_near z0_ground_forms v0_ground_hares z0_ground_foxes v0_ground_safe a0_ground_strength cyI f0_ground_strength) sz) (fun u : Int32 × (Nat → Int32) × Value × Value => ((wd00_14 a0 z0_tape z0_ground z0_spareGround z0_rule z0_spareRule z0_lines z0_spareLines z0_steps a0_now a0_trial z0_past z0_images z0_round z0_seating z0_fitting z0_imagesKept z0_refusedSteps z0_callsNoSuch u.1 a0_trial a0_trial_row z0_trial_owedEach u.2.2.1 u.2.2.2 a0_now a0_now_row z0_now_owedEach a0_ground a0_rule a0_now_row cyI f0_now_row a0_trial_row cyI u.2.1 a0_ground z0_ground_formX z0_ground_formY z0_ground_foxX z0_ground_foxY z0_ground_seat a0_ground_strength z0_ground_debts z0_ground_near z0_ground_forms v0_ground_hares z0_ground_foxes v0_ground_safe a0_ground_strength cyI f0_ground_strength) : va_W)) u t) (va_A (wd00_14 a0 z0_tape z0_ground z0_spareGround z0_rule z0_spareRule z0_lines z0_spareLines z0_steps a0_now a0_trial z0_past z0_images z0_round z0_seating z0_fitting z0_imagesKept z0_refusedSteps z0_callsNoSuch v0_callsIllegal a0_trial a0_trial_row z0_trial_owedEach r0_trial_down r0_trial_law a0_now a0_now_row z0_now_owedEach a0_ground a0_rule a0_now_row cyI f0_now_row a0_trial_row cyI f0_trial_row a0_ground z0_ground_formX z0_ground_formY z0_ground_foxX z0_ground_foxY z0_ground_seat a0_ground_strength z0_ground_debts z0_ground_near z0_ground_forms v0_ground_hares z0_ground_foxes v0_ground_safe a0_ground_strength cyI f0_ground_strength) sz)) 2 12 (va_A (wd00_14 a0 z0_tape z0_ground z0_spareGround z0_rule z0_spareRule z0_lines z0_spareLines z0_steps a0_now a0_trial z0_past z0_images z0_round z0_seating z0_fitting z0_imagesKept z0_refusedSteps z0_callsNoSuch v0_callsIllegal a0_trial a0_trial_row z0_trial_owedEach r0_trial_down r0_trial_law a0_now a0_now_row z0_now_owedEach a0_ground a0_rule a0_now_row cyI f0_now_row a0_trial_row cyI f0_trial_row a0_ground z0_ground_formX z0_ground_formY z0_ground_foxX z0_ground_foxY z0_ground_seat a0_ground_strength z0_ground_debts z0_ground_near z0_ground_forms v0_ground_hares z0_ground_foxes v0_ground_safe a0_ground_strength cyI f0_ground_strength) sz) := by
  refine vx_ofW (cc := cX10_ahead) (maxL := 4) (ret := (some .int)) (by decide) rfl ?_
  intro p e s m args below meth c s₁ B hml hnt hv
  obtain ⟨rfl, hsz, hP, hK, hD0, hNw, hXl, hXu, hXn, hXt⟩ := hv
  have hx := B.exec
  have hb := B.bytes
  have hr := B.returns
  have hts := atoms_spec (ws := wsX10_ahead) B.pre
  have hown : s.vm.findClass RX10 = some m.cls := findClass_of_methodNamed B.named
  have hlocks := B.notSynchronized
  subst hsz
  have hD := hD0.self (sz := s.heap.size)
  generalize hAe : va_A (wd00_14 a0 z0_tape z0_ground z0_spareGround z0_rule z0_spareRule z0_lines z0_spareLines z0_steps a0_now a0_trial z0_past z0_images z0_round z0_seating z0_fitting z0_imagesKept z0_refusedSteps z0_callsNoSuch v0_callsIllegal a0_trial a0_trial_row z0_trial_owedEach r0_trial_down r0_trial_law a0_now a0_now_row z0_now_owedEach a0_ground a0_rule a0_now_row cyI f0_now_row a0_trial_row cyI f0_trial_row a0_ground z0_ground_formX z0_ground_formY z0_ground_foxX z0_ground_foxY z0_ground_seat a0_ground_strength z0_ground_debts z0_ground_near z0_ground_forms v0_ground_hares z0_ground_foxes v0_ground_safe a0_ground_strength cyI f0_ground_strength) s.heap.size = A at hD hXu hXn ⊢
  have hA : ∀ q : Nat, s.heap.size ≤ q → A q := fun q h => by rw [← hAe]; exact Or.inr h
  have hS : va_S A s.heap s.heap [] := va_S.rf
  have hP : va_P (dC, dI) vwCl (wd00_14 a0 z0_tape z0_ground z0_spareGround z0_rule z0_spareRule z0_lines z0_spareLines z0_steps a0_now a0_trial z0_past z0_images z0_round z0_seating z0_fitting z0_imagesKept z0_refusedSteps z0_callsNoSuch v0_callsIllegal a0_trial a0_trial_row z0_trial_owedEach r0_trial_down r0_trial_law a0_now a0_now_row z0_now_owedEach a0_ground a0_rule a0_now_row cyI f0_now_row a0_trial_row cyI f0_trial_row a0_ground z0_ground_formX z0_ground_formY z0_ground_foxX z0_ground_foxY z0_ground_seat a0_ground_strength z0_ground_debts z0_ground_near z0_ground_forms v0_ground_hares z0_ground_foxes v0_ground_safe a0_ground_strength cyI f0_ground_strength) s.heap := hP
  have hl := lv_entry ([.ref a0, .int p1, .int p2]) (n := 4) (Nat.le_of_ble_eq_true rfl)
  rw [lg_entry_eq]
  generalize (lg_sl ([.ref a0, .int p1, .int p2]) ++ List.replicate (4 - (lg_sl ([.ref a0, .int p1, .int p2])).length) Slot.unset).toArray = ls at hl ⊢
  have hl : lv_has ls 4 [(0, .ref a0), (1, .int p1), (2, .int p2)] := hl
  have hY : cfY l s A := ⟨hXl, hXu, hXn, hXt⟩
  have hXs : cfX l s c A := ⟨hnt, hY⟩
  have C0 : cfx p s m _ meth c cX10_ahead (some .int) wsX10_ahead RX10 4 A (dC, dI) (kT cyB cyI cyJ cyP) ∧ cfX l s c A := ⟨⟨hx, hb, hr, hts, hown, hlocks, hml, hA, hK, hNw⟩, hXs⟩
  clear hAe
  obtain ⟨H, hH⟩ : ∃ H, H = s.heap := ⟨_, rfl⟩
  rw [← hH] at hP ⊢
  have hS : va_S A s.heap H [] := by rw [hH]; exact va_S.rf
  have hS := hS
  refine lv_aload_n hx hb (dt_of tkX10_ahead_k0 0 rfl) rfl (lv_at hl 0 rfl) ?_
  refine lv_iload_n hx hb (dt_of tkX10_ahead_k0 1 rfl) rfl (lv_at hl 1 rfl) ?_
  refine lv_iconst (v := 0) hx hb (dt_of tkX10_ahead_k0 2 rfl) (by decide) ?_
  refine lv_bipush (v := 99) hx hb (dt_of tkX10_ahead_k0 3 rfl) (by decide) ?_
  obtain ⟨hCc, hPc, hDc, hFc⟩ := va_pick (ws' := (wd00_19 a0 z0_tape z0_ground z0_spareGround z0_rule z0_spareRule z0_lines z0_spareLines z0_steps a0_now a0_trial z0_past z0_images z0_round z0_seating z0_fitting z0_imagesKept z0_refusedSteps z0_callsNoSuch v0_callsIllegal)) hP hD hS hA [0] (by decide +kernel) rfl
  refine vx_callv (vx_runV (As := [.int p1, .int 0, .int 99]) (rest := []) ⟨hx, hb, hml, hown, hts⟩ (ck_X10_needWithin l dC dI cyB cyI cyJ cyP a0 H.size (z0_tape) (z0_ground) (z0_spareGround) (z0_rule) (z0_spareRule) (z0_lines) (z0_spareLines) (z0_steps) (.ref a0_now) (.ref a0_trial) (z0_past) (z0_images) (z0_round) (z0_seating) (z0_fitting) (z0_imagesKept) (z0_refusedSteps) (z0_callsNoSuch)  v0_callsIllegal p1 0 99 hw) (cwV 3 hts gX10_ahead_X10_needWithin rfl rfl rfl (by decide +kernel) ⟨Nat.le_of_ble_eq_true rfl, Nat.le_of_ble_eq_true rfl⟩) ⟨cPx_blind, va_recv (q := (RX10, TX10, 19)) hK hPc (ci := 10) (q0 := 0) rfl rfl, cPx_pre hPc hK hDc hNw hY hS hFc⟩ rfl rfl hl.1 rfl (lv_room (Nat.le_of_ble_eq_true rfl)) (dt_of tkX10_ahead_k0 4 rfl) ⟨Nat.le_of_ble_eq_true rfl, Nat.le_of_ble_eq_true rfl⟩) hS (fun q _ h => hFc q h) hFc (fun q _ h => hFc q h) (fun en ce q9 u t H1 locs ht hvm hpx hB hz1 hk1 hS hc9 hv9 hcl9 => ?_) (fun u t H1 locs ht hvm hw hB hz1 hk1 hS => ?_)
  · obtain ⟨x1, rfl⟩ : ∃ z, z = u := ⟨_, rfl⟩
    obtain ⟨hw, hP1, hK1, hD1⟩ := hB
    rw [ht] at hP1
    obtain ⟨hP, hD⟩ := va_joinN (wr := (wd00_20 a0_trial a0_trial_row z0_trial_owedEach r0_trial_down r0_trial_law a0_now a0_now_row z0_now_owedEach a0_ground a0_rule a0_now_row cyI f0_now_row a0_trial_row cyI f0_trial_row a0_ground z0_ground_formX z0_ground_formY z0_ground_foxX z0_ground_foxY z0_ground_seat a0_ground_strength z0_ground_debts z0_ground_near z0_ground_forms v0_ground_hares z0_ground_foxes v0_ground_safe a0_ground_strength cyI f0_ground_strength)) (w1 := (wd00_19 a0 z0_tape z0_ground z0_spareGround z0_rule z0_spareRule z0_lines z0_spareLines z0_steps a0_now a0_trial z0_past z0_images z0_round z0_seating z0_fitting z0_imagesKept z0_refusedSteps z0_callsNoSuch x1)) (wn := (wd00_14 a0 z0_tape z0_ground z0_spareGround z0_rule z0_spareRule z0_lines z0_spareLines z0_steps a0_now a0_trial z0_past z0_images z0_round z0_seating z0_fitting z0_imagesKept z0_refusedSteps z0_callsNoSuch x1 a0_trial a0_trial_row z0_trial_owedEach r0_trial_down r0_trial_law a0_now a0_now_row z0_now_owedEach a0_ground a0_rule a0_now_row cyI f0_now_row a0_trial_row cyI f0_trial_row a0_ground z0_ground_formX z0_ground_formY z0_ground_foxX z0_ground_foxY z0_ground_seat a0_ground_strength z0_ground_debts z0_ground_near z0_ground_forms v0_ground_hares z0_ground_foxes v0_ground_safe a0_ground_strength cyI f0_ground_strength)) hP hD [0] [1, 2, 3, 4, 5, 6] [6, 0, 1, 2, 3, 4, 5] hCc rfl (by decide +kernel) (by decide +kernel) (by decide +kernel) rfl hk1 hFc hP1 hD1
    generalize H1 = H at hP hS hc9 ⊢
    exact vx_out (fun x hx9 => (hXs.1 x hx9).elim) hlocks hc9 hv9 hcl9 (fun t2 ht2 hal2 => ⟨(x1, f0_trial_row, r0_trial_down, r0_trial_law), trivial, ⟨hw, by rw [ht2]; exact hP, va_K.moved hal2 hK, hD⟩, hS.F ht2⟩) hS.2.2 (Nat.le_of_ble_eq_true rfl) (Nat.le_of_ble_eq_true rfl)
  obtain ⟨x1, rfl⟩ : ∃ z, z = u := ⟨_, rfl⟩
  obtain ⟨hP1, hK1, hD1⟩ := hB
  rw [ht] at hP1
  obtain ⟨hP, hD⟩ := va_joinN (wr := (wd00_20 a0_trial a0_trial_row z0_trial_owedEach r0_trial_down r0_trial_law a0_now a0_now_row z0_now_owedEach a0_ground a0_rule a0_now_row cyI f0_now_row a0_trial_row cyI f0_trial_row a0_ground z0_ground_formX z0_ground_formY z0_ground_foxX z0_ground_foxY z0_ground_seat a0_ground_strength z0_ground_debts z0_ground_near z0_ground_forms v0_ground_hares z0_ground_foxes v0_ground_safe a0_ground_strength cyI f0_ground_strength)) (w1 := (wd00_19 a0 z0_tape z0_ground z0_spareGround z0_rule z0_spareRule z0_lines z0_spareLines z0_steps a0_now a0_trial z0_past z0_images z0_round z0_seating z0_fitting z0_imagesKept z0_refusedSteps z0_callsNoSuch x1)) (wn := (wd00_14 a0 z0_tape z0_ground z0_spareGround z0_rule z0_spareRule z0_lines z0_spareLines z0_steps a0_now a0_trial z0_past z0_images z0_round z0_seating z0_fitting z0_imagesKept z0_refusedSteps z0_callsNoSuch x1 a0_trial a0_trial_row z0_trial_owedEach r0_trial_down r0_trial_law a0_now a0_now_row z0_now_owedEach a0_ground a0_rule a0_now_row cyI f0_now_row a0_trial_row cyI f0_trial_row a0_ground z0_ground_formX z0_ground_formY z0_ground_foxX z0_ground_foxY z0_ground_seat a0_ground_strength z0_ground_debts z0_ground_near z0_ground_forms v0_ground_hares z0_ground_foxes v0_ground_safe a0_ground_strength cyI f0_ground_strength)) hP hD [0] [1, 2, 3, 4, 5, 6] [6, 0, 1, 2, 3, 4, 5] hCc rfl (by decide +kernel) (by decide +kernel) (by decide +kernel) rfl hk1 hFc hP1 hD1
  generalize H1 = H at hP hS ⊢
  refine lv_aload_n hx hb (dt_of tkX10_ahead_k0 5 rfl) rfl (lv_at hl 0 rfl) ?_
  refine lv_iload_n hx hb (dt_of tkX10_ahead_k0 6 rfl) rfl (lv_at hl 2 rfl) ?_
  refine lv_iconst (v := 0) hx hb (dt_of tkX10_ahead_k0 7 rfl) (by decide) ?_
  refine lv_iconst (v := 2) hx hb (dt_of tkX10_ahead_k0 8 rfl) (by decide) ?_
  obtain ⟨hCc, hPc, hDc, hFc⟩ := va_pick (ws' := (wd00_19 a0 z0_tape z0_ground z0_spareGround z0_rule z0_spareRule z0_lines z0_spareLines z0_steps a0_now a0_trial z0_past z0_images z0_round z0_seating z0_fitting z0_imagesKept z0_refusedSteps z0_callsNoSuch x1)) hP hD hS hA [0] (by decide +kernel) rfl
  refine vx_callv (vx_runV (As := [.int p2, .int 0, .int 2]) (rest := []) ⟨hx, hb, hml, hown, hts⟩ (ck_X10_needWithin l dC dI cyB cyI cyJ cyP a0 H.size (z0_tape) (z0_ground) (z0_spareGround) (z0_rule) (z0_spareRule) (z0_lines) (z0_spareLines) (z0_steps) (.ref a0_now) (.ref a0_trial) (z0_past) (z0_images) (z0_round) (z0_seating) (z0_fitting) (z0_imagesKept) (z0_refusedSteps) (z0_callsNoSuch)  x1 p2 0 2 hw) (cwV 3 hts gX10_ahead_X10_needWithin rfl rfl rfl (by decide +kernel) ⟨Nat.le_of_ble_eq_true rfl, Nat.le_of_ble_eq_true rfl⟩) ⟨cPx_blind, va_recv (q := (RX10, TX10, 19)) hK hPc (ci := 10) (q0 := 0) rfl rfl, cPx_pre hPc hK hDc hNw hY hS hFc⟩ rfl rfl hl.1 rfl (lv_room (Nat.le_of_ble_eq_true rfl)) (dt_of tkX10_ahead_k0 9 rfl) ⟨Nat.le_of_ble_eq_true rfl, Nat.le_of_ble_eq_true rfl⟩) hS (fun q _ h => hFc q h) hFc (fun q _ h => hFc q h) (fun en ce q9 u t H1 locs ht hvm hpx hB hz1 hk1 hS hc9 hv9 hcl9 => ?_) (fun u t H1 locs ht hvm hw hB hz1 hk1 hS => ?_)
  · obtain ⟨x2, rfl⟩ : ∃ z, z = u := ⟨_, rfl⟩
    obtain ⟨hw, hP1, hK1, hD1⟩ := hB
    rw [ht] at hP1
    obtain ⟨hP, hD⟩ := va_joinN (wr := (wd00_20 a0_trial a0_trial_row z0_trial_owedEach r0_trial_down r0_trial_law a0_now a0_now_row z0_now_owedEach a0_ground a0_rule a0_now_row cyI f0_now_row a0_trial_row cyI f0_trial_row a0_ground z0_ground_formX z0_ground_formY z0_ground_foxX z0_ground_foxY z0_ground_seat a0_ground_strength z0_ground_debts z0_ground_near z0_ground_forms v0_ground_hares z0_ground_foxes v0_ground_safe a0_ground_strength cyI f0_ground_strength)) (w1 := (wd00_19 a0 z0_tape z0_ground z0_spareGround z0_rule z0_spareRule z0_lines z0_spareLines z0_steps a0_now a0_trial z0_past z0_images z0_round z0_seating z0_fitting z0_imagesKept z0_refusedSteps z0_callsNoSuch x2)) (wn := (wd00_14 a0 z0_tape z0_ground z0_spareGround z0_rule z0_spareRule z0_lines z0_spareLines z0_steps a0_now a0_trial z0_past z0_images z0_round z0_seating z0_fitting z0_imagesKept z0_refusedSteps z0_callsNoSuch x2 a0_trial a0_trial_row z0_trial_owedEach r0_trial_down r0_trial_law a0_now a0_now_row z0_now_owedEach a0_ground a0_rule a0_now_row cyI f0_now_row a0_trial_row cyI f0_trial_row a0_ground z0_ground_formX z0_ground_formY z0_ground_foxX z0_ground_foxY z0_ground_seat a0_ground_strength z0_ground_debts z0_ground_near z0_ground_forms v0_ground_hares z0_ground_foxes v0_ground_safe a0_ground_strength cyI f0_ground_strength)) hP hD [0] [1, 2, 3, 4, 5, 6] [6, 0, 1, 2, 3, 4, 5] hCc rfl (by decide +kernel) (by decide +kernel) (by decide +kernel) rfl hk1 hFc hP1 hD1
    generalize H1 = H at hP hS hc9 ⊢
    exact vx_out (fun x hx9 => (hXs.1 x hx9).elim) hlocks hc9 hv9 hcl9 (fun t2 ht2 hal2 => ⟨(x2, f0_trial_row, r0_trial_down, r0_trial_law), trivial, ⟨hw, by rw [ht2]; exact hP, va_K.moved hal2 hK, hD⟩, hS.F ht2⟩) hS.2.2 (Nat.le_of_ble_eq_true rfl) (Nat.le_of_ble_eq_true rfl)
  obtain ⟨x2, rfl⟩ : ∃ z, z = u := ⟨_, rfl⟩
  obtain ⟨hP1, hK1, hD1⟩ := hB
  rw [ht] at hP1
  obtain ⟨hP, hD⟩ := va_joinN (wr := (wd00_20 a0_trial a0_trial_row z0_trial_owedEach r0_trial_down r0_trial_law a0_now a0_now_row z0_now_owedEach a0_ground a0_rule a0_now_row cyI f0_now_row a0_trial_row cyI f0_trial_row a0_ground z0_ground_formX z0_ground_formY z0_ground_foxX z0_ground_foxY z0_ground_seat a0_ground_strength z0_ground_debts z0_ground_near z0_ground_forms v0_ground_hares z0_ground_foxes v0_ground_safe a0_ground_strength cyI f0_ground_strength)) (w1 := (wd00_19 a0 z0_tape z0_ground z0_spareGround z0_rule z0_spareRule z0_lines z0_spareLines z0_steps a0_now a0_trial z0_past z0_images z0_round z0_seating z0_fitting z0_imagesKept z0_refusedSteps z0_callsNoSuch x2)) (wn := (wd00_14 a0 z0_tape z0_ground z0_spareGround z0_rule z0_spareRule z0_lines z0_spareLines z0_steps a0_now a0_trial z0_past z0_images z0_round z0_seating z0_fitting z0_imagesKept z0_refusedSteps z0_callsNoSuch x2 a0_trial a0_trial_row z0_trial_owedEach r0_trial_down r0_trial_law a0_now a0_now_row z0_now_owedEach a0_ground a0_rule a0_now_row cyI f0_now_row a0_trial_row cyI f0_trial_row a0_ground z0_ground_formX z0_ground_formY z0_ground_foxX z0_ground_foxY z0_ground_seat a0_ground_strength z0_ground_debts z0_ground_near z0_ground_forms v0_ground_hares z0_ground_foxes v0_ground_safe a0_ground_strength cyI f0_ground_strength)) hP hD [0] [1, 2, 3, 4, 5, 6] [6, 0, 1, 2, 3, 4, 5] hCc rfl (by decide +kernel) (by decide +kernel) (by decide +kernel) rfl hk1 hFc hP1 hD1
  generalize H1 = H at hP hS ⊢
  refine lv_aload_n hx hb (dt_of tkX10_ahead_k0 10 rfl) rfl (lv_at hl 0 rfl) ?_
  refine va_get (D := (dC, dI)) (ci := 10) (v := .ref a0_trial) (C := RX10) (T := TX10) (N := 19) hx hb hts ui_X10_ahead_X10 hown hK hP 0 rfl rfl 9 (by decide) (hts _ uw_X10_ahead_f62) (fun _ h9 => h9) rfl (dt_of tkX10_ahead_k0 11 rfl) ?_
  refine lv_aload_n hx hb (dt_of tkX10_ahead_k0 12 rfl) rfl (lv_at hl 0 rfl) ?_
  refine va_get (D := (dC, dI)) (ci := 10) (v := .ref a0_now) (C := RX10) (T := TX10) (N := 19) hx hb hts ui_X10_ahead_X10 hown hK hP 0 rfl rfl 8 (by decide) (hts _ uw_X10_ahead_f58) (fun _ h9 => h9) rfl (dt_of tkX10_ahead_k0 13 rfl) ?_
  obtain ⟨hCc, hPc, hDc, hFc⟩ := va_pick (ws' := (wd00_1 a0_trial a0_trial_row z0_trial_owedEach r0_trial_down r0_trial_law a0_now a0_now_row z0_now_owedEach a0_ground a0_rule a0_now_row cyI f0_now_row a0_trial_row cyI f0_trial_row)) hP hD hS hA [1, 2, 3, 4] (by decide +kernel) rfl
  refine va_callv (va_runV (As := [.ref a0_now]) (rest := []) ⟨hx, hb, hml, hown, hts⟩ (ck_X1_copyFrom l dC dI cyB cyI cyJ cyP a0_trial a0_now a0_ground a0_rule a0_now_row a0_trial_row H.size (z0_trial_owedEach) (r0_trial_down) (r0_trial_law) (z0_now_owedEach) f0_now_row f0_trial_row  hw) (cwV 1 hts gX10_ahead_X1_copyFrom rfl rfl rfl (by decide +kernel) ⟨Nat.le_of_ble_eq_true rfl, Nat.le_of_ble_eq_true rfl⟩) ⟨cPc_blind, va_recv (q := (RX1, TX1, 4)) hK hPc (ci := 1) (q0 := 0) rfl rfl, cPc_pre hPc hK hDc hNw⟩ rfl rfl hl.1 rfl (lv_room (Nat.le_of_ble_eq_true rfl)) (dt_of tkX10_ahead_k0 14 rfl) ⟨Nat.le_of_ble_eq_true rfl, Nat.le_of_ble_eq_true rfl⟩) hS (fun q _ h => hFc q h) hFc (fun u t H1 locs ht hvm hw hB hz1 hk1 hS => ?_)
  obtain ⟨f3, rfl⟩ : ∃ z, z = u := ⟨_, rfl⟩
  obtain ⟨hP1, hK1, hD1⟩ := hB
  rw [ht] at hP1
  obtain ⟨hP, hD⟩ := va_joinN (wr := [(a0, .inr (10, [z0_tape, z0_ground, z0_spareGround, z0_rule, z0_spareRule, z0_lines, z0_spareLines, z0_steps, .ref a0_now, .ref a0_trial, z0_past, z0_images, z0_round, z0_seating, z0_fitting, z0_imagesKept, z0_refusedSteps, z0_callsNoSuch, .int x2])), (a0_ground, .inr (2, [z0_ground_formX, z0_ground_formY, z0_ground_foxX, z0_ground_foxY, z0_ground_seat, .ref a0_ground_strength, z0_ground_debts, z0_ground_near, z0_ground_forms, .int v0_ground_hares, z0_ground_foxes, .int v0_ground_safe])), (a0_ground_strength, .inl (cyI, 6, .inl f0_ground_strength))]) (w1 := (wd00_2 a0_trial a0_trial_row z0_trial_owedEach a0_ground a0_rule a0_now a0_now_row z0_now_owedEach a0_ground a0_rule a0_now_row cyI f0_now_row a0_trial_row cyI f3)) (wn := (wd00_13 a0 z0_tape z0_ground z0_spareGround z0_rule z0_spareRule z0_lines z0_spareLines z0_steps a0_now a0_trial z0_past z0_images z0_round z0_seating z0_fitting z0_imagesKept z0_refusedSteps z0_callsNoSuch x2 a0_trial a0_trial_row z0_trial_owedEach a0_ground a0_rule a0_now a0_now_row z0_now_owedEach a0_ground a0_rule a0_now_row cyI f0_now_row a0_trial_row cyI f3 a0_ground z0_ground_formX z0_ground_formY z0_ground_foxX z0_ground_foxY z0_ground_seat a0_ground_strength z0_ground_debts z0_ground_near z0_ground_forms v0_ground_hares z0_ground_foxes v0_ground_safe a0_ground_strength cyI f0_ground_strength)) hP hD [1, 2, 3, 4] [0, 5, 6] [0, 3, 4, 5, 6, 1, 2] hCc rfl (by decide +kernel) (by decide +kernel) (by decide +kernel) rfl hk1 hFc hP1 hD1
  generalize H1 = H at hP hS ⊢
  refine lv_iconst (v := 0) hx hb (dt_of tkX10_ahead_k0 15 rfl) (by decide) ?_
  refine lv_istore_n (lv' := [(3, .int 0), (0, .ref a0), (1, .int p1), (2, .int p2)]) hx hb (dt_of tkX10_ahead_k27 0 rfl) rfl hl (by decide) rfl (fun ls hl => ?_)
  obtain ⟨n9, hw⟩ := hw
  exact kl_X10_ahead_28 dC dI cyB cyI cyJ cyP a0 a0_trial a0_now a0_now_row a0_trial_row a0_ground a0_rule a0_ground_strength z0_tape z0_ground z0_spareGround z0_rule z0_spareRule z0_lines z0_spareLines z0_steps z0_past z0_images z0_round z0_seating z0_fitting z0_imagesKept z0_refusedSteps z0_callsNoSuch z0_trial_owedEach z0_now_owedEach z0_ground_formX z0_ground_formY z0_ground_foxX z0_ground_foxY z0_ground_seat z0_ground_debts z0_ground_near z0_ground_forms z0_ground_foxes f0_now_row v0_ground_hares v0_ground_safe f0_ground_strength E Q  C0 n9 _ _ _ x2 f3 (.ref a0_ground) (.ref a0_rule) p1 p2 0 hP hD hS (lv_sub hl [1, 2, 3, 0] rfl) hw
theorem uw_L_ahead_ct13 : (.classLink RL 13 "java/lang/IllegalArgumentException" : Cond) ∈ wsL_ahead := mbL_ahead 595 (by decide +kernel)
theorem uw_L_ahead_cw : (.codeWith yL_ahead cL_ahead 5 (some .int) [(0, 10, 13, 13)] : Cond) ∈ wsL_ahead := mbL_ahead 2956 (by decide +kernel)
set_option maxHeartbeats 4000000 in
set_option maxRecDepth 100000 in
theorem ck_L_ahead (l : Launch) (dC : Nat → ClassId) (dI : Nat → Nat → Nat) (cyB cyI cyJ cyP : ClassId) (a0 a3 a0_trial a0_now a0_now_row a0_trial_row a0_ground a0_ground_strength a0_rule : Nat) (sz : Nat) (z0_tape : Value) (z0_spareGround : Value) (z0_spareRule : Value) (z0_lines : Value) (z0_spareLines : Value) (z0_steps : Value) (z0_past : Value) (z0_images : Value) (z0_round : Value) (z0_seating : Value) (z0_fitting : Value) (z0_imagesKept : Value) (z0_refusedSteps : Value) (z0_callsNoSuch : Value) (z0_trial_owedEach : Value) (z0_now_owedEach : Value) (z0_ground_formX : Value) (z0_ground_formY : Value) (z0_ground_foxX : Value) (z0_ground_foxY : Value) (z0_ground_seat : Value) (z0_ground_debts : Value) (z0_ground_near : Value) (z0_ground_forms : Value) (z0_ground_foxes : Value) (n3 : Nat) (f0_now_row : Nat → Int32) (v0_ground_hares : Int32) (v0_ground_safe : Int32) (f0_ground_strength : Nat → Int32) (v0_callsIllegal : Int32) (f0_trial_row : Nat → Int32) (r0_trial_down : Value) (r0_trial_law : Value) (f3 : Nat → Int64) (p1 : Int32) (p2 : Int32) {Q : Int32 → Int32 → (Nat → Int32) → Value → Value → (Nat → Int64) → Prop} (hw : wq_L_ahead a0_ground a0_rule n3 f0_now_row v0_ground_hares v0_ground_safe f0_ground_strength v0_callsIllegal f0_trial_row r0_trial_down r0_trial_law f3 p1 p2 Q) : Met l yL_ahead wsL_ahead ({ frames := 9, cells := 2, slots := 12, locals := 187 }) (va_Pc [.ref a0, .int p1, .int p2, .ref a3] (cPx l (dC, dI) (kT cyB cyI cyJ cyP) (wd00_21 a0 z0_tape a0_ground z0_spareGround a0_rule z0_spareRule z0_lines z0_spareLines z0_steps a0_now a0_trial z0_past z0_images z0_round z0_seating z0_fitting z0_imagesKept z0_refusedSteps z0_callsNoSuch v0_callsIllegal a0_trial a0_trial_row z0_trial_owedEach r0_trial_down r0_trial_law a0_now a0_now_row z0_now_owedEach a0_ground a0_rule a0_now_row cyI f0_now_row a0_trial_row cyI f0_trial_row a0_ground z0_ground_formX z0_ground_formY z0_ground_foxX z0_ground_foxY z0_ground_seat a0_ground_strength z0_ground_debts z0_ground_near z0_ground_forms v0_ground_hares z0_ground_foxes v0_ground_safe a0_ground_strength cyI f0_ground_strength a3 cyJ n3 f3) sz)) (va_Qi (fun (r : Int32) (u : Int32 × (Nat → Int32) × Value × Value × (Nat → Int64)) => Q r u.1 u.2.1 u.2.2.1 u.2.2.2.1 u.2.2.2.2) (cB (dC, dI) (kT cyB cyI cyJ cyP) (va_A (wd00_21 a0 z0_tape a0_ground z0_spareGround a0_rule z0_spareRule z0_lines z0_spareLines z0_steps a0_now a0_trial z0_past z0_images z0_round z0_seating z0_fitting z0_imagesKept z0_refusedSteps z0_callsNoSuch v0_callsIllegal a0_trial a0_trial_row z0_trial_owedEach r0_trial_down r0_trial_law a0_now a0_now_row z0_now_owedEach a0_ground a0_rule a0_now_row cyI f0_now_row a0_trial_row cyI f0_trial_row a0_ground z0_ground_formX z0_ground_formY z0_ground_foxX z0_ground_foxY z0_ground_seat a0_ground_strength z0_ground_debts z0_ground_near z0_ground_forms v0_ground_hares z0_ground_foxes v0_ground_safe a0_ground_strength cyI f0_ground_strength a3 cyJ n3 f3) sz) (fun u : Int32 × (Nat → Int32) × Value × Value × (Nat → Int64) => ((wd00_21 a0 z0_tape a0_ground z0_spareGround a0_rule z0_spareRule z0_lines z0_spareLines z0_steps a0_now a0_trial z0_past z0_images z0_round z0_seating z0_fitting z0_imagesKept z0_refusedSteps z0_callsNoSuch u.1 a0_trial a0_trial_row z0_trial_owedEach u.2.2.1 u.2.2.2.1 a0_now a0_now_row z0_now_owedEach a0_ground a0_rule a0_now_row cyI f0_now_row a0_trial_row cyI u.2.1 a0_ground z0_ground_formX z0_ground_formY z0_ground_foxX z0_ground_foxY z0_ground_seat a0_ground_strength z0_ground_debts z0_ground_near z0_ground_forms v0_ground_hares z0_ground_foxes v0_ground_safe a0_ground_strength cyI f0_ground_strength a3 cyJ n3 u.2.2.2.2) : va_W))) (va_A (wd00_21 a0 z0_tape a0_ground z0_spareGround a0_rule z0_spareRule z0_lines z0_spareLines z0_steps a0_now a0_trial z0_past z0_images z0_round z0_seating z0_fitting z0_imagesKept z0_refusedSteps z0_callsNoSuch v0_callsIllegal a0_trial a0_trial_row z0_trial_owedEach r0_trial_down r0_trial_law a0_now a0_now_row z0_now_owedEach a0_ground a0_rule a0_now_row cyI f0_now_row a0_trial_row cyI f0_trial_row a0_ground z0_ground_formX z0_ground_formY z0_ground_foxX z0_ground_foxY z0_ground_seat a0_ground_strength z0_ground_debts z0_ground_near z0_ground_forms v0_ground_hares z0_ground_foxes v0_ground_safe a0_ground_strength cyI f0_ground_strength a3 cyJ n3 f3) sz)) 2 12 (va_A (wd00_21 a0 z0_tape a0_ground z0_spareGround a0_rule z0_spareRule z0_lines z0_spareLines z0_steps a0_now a0_trial z0_past z0_images z0_round z0_seating z0_fitting z0_imagesKept z0_refusedSteps z0_callsNoSuch v0_callsIllegal a0_trial a0_trial_row z0_trial_owedEach r0_trial_down r0_trial_law a0_now a0_now_row z0_now_owedEach a0_ground a0_rule a0_now_row cyI f0_now_row a0_trial_row cyI f0_trial_row a0_ground z0_ground_formX z0_ground_formY z0_ground_foxX z0_ground_foxY z0_ground_seat a0_ground_strength z0_ground_debts z0_ground_near z0_ground_forms v0_ground_hares z0_ground_foxes v0_ground_safe a0_ground_strength cyI f0_ground_strength a3 cyJ n3 f3) sz) := by
  refine va_MetW (cc := cL_ahead) (maxL := 5) (ret := (some .int)) (by decide) rfl ?_
  intro p e s m args below meth c s₁ B hml hv
  obtain ⟨rfl, hsz, hP, hK, hD0, hNw, hXl, hXu, hXn, hXt⟩ := hv
  have hx := B.exec
  have hb := B.bytes
  have hr := B.returns
  have hts := atoms_spec (ws := wsL_ahead) B.pre
  have hown : s.vm.findClass RL = some m.cls := findClass_of_methodNamed B.named
  have hlocks := B.notSynchronized
  subst hsz
  have hD := hD0.self (sz := s.heap.size)
  generalize hAe : va_A (wd00_21 a0 z0_tape a0_ground z0_spareGround a0_rule z0_spareRule z0_lines z0_spareLines z0_steps a0_now a0_trial z0_past z0_images z0_round z0_seating z0_fitting z0_imagesKept z0_refusedSteps z0_callsNoSuch v0_callsIllegal a0_trial a0_trial_row z0_trial_owedEach r0_trial_down r0_trial_law a0_now a0_now_row z0_now_owedEach a0_ground a0_rule a0_now_row cyI f0_now_row a0_trial_row cyI f0_trial_row a0_ground z0_ground_formX z0_ground_formY z0_ground_foxX z0_ground_foxY z0_ground_seat a0_ground_strength z0_ground_debts z0_ground_near z0_ground_forms v0_ground_hares z0_ground_foxes v0_ground_safe a0_ground_strength cyI f0_ground_strength a3 cyJ n3 f3) s.heap.size = A at hD hXu hXn ⊢
  have hA : ∀ q : Nat, s.heap.size ≤ q → A q := fun q h => by rw [← hAe]; exact Or.inr h
  have hS : va_S A s.heap s.heap [] := va_S.rf
  have hP : va_P (dC, dI) vwCl (wd00_21 a0 z0_tape a0_ground z0_spareGround a0_rule z0_spareRule z0_lines z0_spareLines z0_steps a0_now a0_trial z0_past z0_images z0_round z0_seating z0_fitting z0_imagesKept z0_refusedSteps z0_callsNoSuch v0_callsIllegal a0_trial a0_trial_row z0_trial_owedEach r0_trial_down r0_trial_law a0_now a0_now_row z0_now_owedEach a0_ground a0_rule a0_now_row cyI f0_now_row a0_trial_row cyI f0_trial_row a0_ground z0_ground_formX z0_ground_formY z0_ground_foxX z0_ground_foxY z0_ground_seat a0_ground_strength z0_ground_debts z0_ground_near z0_ground_forms v0_ground_hares z0_ground_foxes v0_ground_safe a0_ground_strength cyI f0_ground_strength a3 cyJ n3 f3) s.heap := hP
  have hl := lv_entry ([.ref a0, .int p1, .int p2, .ref a3]) (n := 5) (Nat.le_of_ble_eq_true rfl)
  rw [lg_entry_eq]
  generalize (lg_sl ([.ref a0, .int p1, .int p2, .ref a3]) ++ List.replicate (5 - (lg_sl ([.ref a0, .int p1, .int p2, .ref a3])).length) Slot.unset).toArray = ls at hl ⊢
  have hl : lv_has ls 5 [(0, .ref a0), (1, .int p1), (2, .int p2), (3, .ref a3)] := hl
  have hY : cfY l s A := ⟨hXl, hXu, hXn, hXt⟩
  have hTb := vx_table (x := yL_ahead) B (hts _ uw_L_ahead_cw)
  clear hAe
  obtain ⟨H, hH⟩ : ∃ H, H = s.heap := ⟨_, rfl⟩
  rw [← hH] at hP ⊢
  have hS : va_S A s.heap H [] := by rw [hH]; exact va_S.rf
  have hS := hS
  refine lv_aload_n hx hb (dt_of tkL_ahead_k0 0 rfl) rfl (lv_at hl 3 rfl) ?_
  refine lv_iconst (v := 0) hx hb (dt_of tkL_ahead_k0 1 rfl) (by decide) ?_
  refine lv_aload_n hx hb (dt_of tkL_ahead_k0 2 rfl) rfl (lv_at hl 0 rfl) ?_
  refine lv_iload_n hx hb (dt_of tkL_ahead_k0 3 rfl) rfl (lv_at hl 1 rfl) ?_
  refine lv_iload_n hx hb (dt_of tkL_ahead_k0 4 rfl) rfl (lv_at hl 2 rfl) ?_
  obtain ⟨hCc, hPc, hDc, hFc⟩ := va_pick (ws' := (wd00_22 a0 z0_tape a0_ground z0_spareGround a0_rule z0_spareRule z0_lines z0_spareLines z0_steps a0_now a0_trial z0_past z0_images z0_round z0_seating z0_fitting z0_imagesKept z0_refusedSteps z0_callsNoSuch v0_callsIllegal a0_trial a0_trial_row z0_trial_owedEach r0_trial_down r0_trial_law a0_now a0_now_row z0_now_owedEach a0_ground a0_rule a0_now_row cyI f0_now_row a0_trial_row cyI f0_trial_row a0_ground z0_ground_formX z0_ground_formY z0_ground_foxX z0_ground_foxY z0_ground_seat a0_ground_strength z0_ground_debts z0_ground_near z0_ground_forms v0_ground_hares z0_ground_foxes v0_ground_safe a0_ground_strength cyI f0_ground_strength)) hP hD hS hA [0, 1, 2, 3, 4, 5, 6] (by decide +kernel) rfl
  refine vx_calli (vx_runV (As := [.int p1, .int p2]) (rest := [.int 0, .ref a3]) ⟨hx, hb, hml, hown, hts⟩ (ck_X10_ahead l dC dI cyB cyI cyJ cyP a0 a0_trial a0_now a0_now_row a0_trial_row a0_ground a0_rule a0_ground_strength H.size (z0_tape) (.ref a0_ground) (z0_spareGround) (.ref a0_rule) (z0_spareRule) (z0_lines) (z0_spareLines) (z0_steps) (z0_past) (z0_images) (z0_round) (z0_seating) (z0_fitting) (z0_imagesKept) (z0_refusedSteps) (z0_callsNoSuch) (z0_trial_owedEach) (z0_now_owedEach) (z0_ground_formX) (z0_ground_formY) (z0_ground_foxX) (z0_ground_foxY) (z0_ground_seat) (z0_ground_debts) (z0_ground_near) (z0_ground_forms) (z0_ground_foxes) f0_now_row v0_ground_hares v0_ground_safe f0_ground_strength v0_callsIllegal f0_trial_row r0_trial_down r0_trial_law p1 p2 hw) (cwV 2 hts gL_ahead_X10_ahead rfl rfl rfl (by decide +kernel) ⟨Nat.le_of_ble_eq_true rfl, Nat.le_of_ble_eq_true rfl⟩) ⟨cPx_blind, va_recv (q := (RX10, TX10, 19)) hK hPc (ci := 10) (q0 := 0) rfl rfl, cPx_pre hPc hK hDc hNw hY hS hFc⟩ rfl rfl hl.1 rfl (lv_room (Nat.le_of_ble_eq_true rfl)) (dt_of tkL_ahead_k0 5 rfl) ⟨Nat.le_of_ble_eq_true rfl, Nat.le_of_ble_eq_true rfl⟩) hS (fun q _ h => hFc q h) hFc (fun q _ h => hFc q h) (fun en ce qx9 u t H1 locs ht hvm hpx hB hz1 hk1 hS hc9 hv9 hcl9 => ?_) (fun r5 u t H1 locs ht hvm hw hB hz1 hk1 hS => ?_)
  · obtain ⟨x1, f2, q3, q4⟩ := u
    obtain ⟨hw, hP1, hK1, hD1⟩ := hB
    rw [ht] at hP1
    obtain ⟨hP, hD⟩ := va_joinN (wr := [(a3, .inl (cyJ, n3, .inr (.inl f3)))]) (w1 := (wd00_22 a0 z0_tape a0_ground z0_spareGround a0_rule z0_spareRule z0_lines z0_spareLines z0_steps a0_now a0_trial z0_past z0_images z0_round z0_seating z0_fitting z0_imagesKept z0_refusedSteps z0_callsNoSuch x1 a0_trial a0_trial_row z0_trial_owedEach q3 q4 a0_now a0_now_row z0_now_owedEach a0_ground a0_rule a0_now_row cyI f0_now_row a0_trial_row cyI f2 a0_ground z0_ground_formX z0_ground_formY z0_ground_foxX z0_ground_foxY z0_ground_seat a0_ground_strength z0_ground_debts z0_ground_near z0_ground_forms v0_ground_hares z0_ground_foxes v0_ground_safe a0_ground_strength cyI f0_ground_strength)) (wn := (wd00_21 a0 z0_tape a0_ground z0_spareGround a0_rule z0_spareRule z0_lines z0_spareLines z0_steps a0_now a0_trial z0_past z0_images z0_round z0_seating z0_fitting z0_imagesKept z0_refusedSteps z0_callsNoSuch x1 a0_trial a0_trial_row z0_trial_owedEach q3 q4 a0_now a0_now_row z0_now_owedEach a0_ground a0_rule a0_now_row cyI f0_now_row a0_trial_row cyI f2 a0_ground z0_ground_formX z0_ground_formY z0_ground_foxX z0_ground_foxY z0_ground_seat a0_ground_strength z0_ground_debts z0_ground_near z0_ground_forms v0_ground_hares z0_ground_foxes v0_ground_safe a0_ground_strength cyI f0_ground_strength a3 cyJ n3 f3)) hP hD [0, 1, 2, 3, 4, 5, 6] [7] [1, 2, 3, 4, 5, 6, 7, 0] hCc rfl (by decide +kernel) (by decide +kernel) (by decide +kernel) rfl hk1 hFc hP1 hD1
    generalize H1 = H at hP hS hc9 ⊢
    obtain ⟨rfl, hw⟩ := hw
    refine vx_catch (own := RL) (name := "java/lang/IllegalArgumentException") hown [] ⟨0, 10, 13, 13⟩ [] (hTb.trans rfl) (fun z hz => nomatch hz) (by decide) (by decide) (hts _ uw_L_ahead_ct13) (va_Nw.use rfl (hY.2.2.2.1.2 _ (List.mem_of_getElem? (i := 0) rfl))) hc9 hv9 hcl9 ?_
    refine lv_astore (lv' := [(4, .ref qx9), (0, .ref a0), (1, .int p1), (2, .int p2), (3, .ref a3)]) hx hb (dt_of tkL_ahead_k0 9 rfl) hl (by decide) rfl (fun ls hl => ?_)
    refine lv_iconst (v := 1) hx hb (dt_of tkL_ahead_k0 10 rfl) (by decide) ?_
    exact (W.widen (k := 2) (n := 12) (Nat.le_of_ble_eq_true rfl) (Nat.le_of_ble_eq_true rfl) (W.iret (v := 1) hx hb hr (fun t ht hW => ⟨⟨1, (x1, f2, q3, q4, f3), rfl, hw, by rw [ht]; exact hP, va_K.moved hW.alike hK, hD⟩, hS.F ht⟩) hS.2.2 (dt_of tkL_ahead_k0 11 rfl)))
  obtain ⟨x1, f2, q3, q4⟩ := u
  obtain ⟨hP1, hK1, hD1⟩ := hB
  rw [ht] at hP1
  obtain ⟨hP, hD⟩ := va_join (wr := [(a3, .inl (cyJ, n3, .inr (.inl f3)))]) (w1 := (wd00_22 a0 z0_tape a0_ground z0_spareGround a0_rule z0_spareRule z0_lines z0_spareLines z0_steps a0_now a0_trial z0_past z0_images z0_round z0_seating z0_fitting z0_imagesKept z0_refusedSteps z0_callsNoSuch x1 a0_trial a0_trial_row z0_trial_owedEach q3 q4 a0_now a0_now_row z0_now_owedEach a0_ground a0_rule a0_now_row cyI f0_now_row a0_trial_row cyI f2 a0_ground z0_ground_formX z0_ground_formY z0_ground_foxX z0_ground_foxY z0_ground_seat a0_ground_strength z0_ground_debts z0_ground_near z0_ground_forms v0_ground_hares z0_ground_foxes v0_ground_safe a0_ground_strength cyI f0_ground_strength)) hP hD [0, 1, 2, 3, 4, 5, 6] [7] rfl rfl (by decide) (by decide) hk1 hFc hP1 hD1
  have hP : va_P (dC, dI) vwCl (wd00_21 a0 z0_tape a0_ground z0_spareGround a0_rule z0_spareRule z0_lines z0_spareLines z0_steps a0_now a0_trial z0_past z0_images z0_round z0_seating z0_fitting z0_imagesKept z0_refusedSteps z0_callsNoSuch x1 a0_trial a0_trial_row z0_trial_owedEach q3 q4 a0_now a0_now_row z0_now_owedEach a0_ground a0_rule a0_now_row cyI f0_now_row a0_trial_row cyI f2 a0_ground z0_ground_formX z0_ground_formY z0_ground_foxX z0_ground_foxY z0_ground_seat a0_ground_strength z0_ground_debts z0_ground_near z0_ground_forms v0_ground_hares z0_ground_foxes v0_ground_safe a0_ground_strength cyI f0_ground_strength a3 cyJ n3 f3) H1 := hP.sub [1, 2, 3, 4, 5, 6, 7, 0] rfl
  have hD : va_D A (wd00_21 a0 z0_tape a0_ground z0_spareGround a0_rule z0_spareRule z0_lines z0_spareLines z0_steps a0_now a0_trial z0_past z0_images z0_round z0_seating z0_fitting z0_imagesKept z0_refusedSteps z0_callsNoSuch x1 a0_trial a0_trial_row z0_trial_owedEach q3 q4 a0_now a0_now_row z0_now_owedEach a0_ground a0_rule a0_now_row cyI f0_now_row a0_trial_row cyI f2 a0_ground z0_ground_formX z0_ground_formY z0_ground_foxX z0_ground_foxY z0_ground_seat a0_ground_strength z0_ground_debts z0_ground_near z0_ground_forms v0_ground_hares z0_ground_foxes v0_ground_safe a0_ground_strength cyI f0_ground_strength a3 cyJ n3 f3) := hD.sub [1, 2, 3, 4, 5, 6, 7, 0] (by decide) rfl
  generalize H1 = H at hP hS ⊢
  refine lv_i2l (v := r5.toInt64) hx hb (dt_of tkL_ahead_k0 6 rfl) rfl ?_
  refine lv_topl (fun x6 ex6 => ?_)
  have hw := hw x6 ex6
  obtain ⟨hi9, hw⟩ := hw
  refine va_last hx hb hK hP hD hS 7 2 rfl rfl hi9 (dt_of tkL_ahead_k0 7 rfl) (fun H locs hP hD hS => ?_)
  obtain ⟨f7, ef7⟩ : ∃ y : Nat → Int64, y = vp_updL f3 (0 : Int32).toNatClampNeg x6 := ⟨_, rfl⟩
  have hw := hw f7 ef7
  have hP : va_P (dC, dI) vwCl (wd00_21 a0 z0_tape a0_ground z0_spareGround a0_rule z0_spareRule z0_lines z0_spareLines z0_steps a0_now a0_trial z0_past z0_images z0_round z0_seating z0_fitting z0_imagesKept z0_refusedSteps z0_callsNoSuch x1 a0_trial a0_trial_row z0_trial_owedEach q3 q4 a0_now a0_now_row z0_now_owedEach a0_ground a0_rule a0_now_row cyI f0_now_row a0_trial_row cyI f2 a0_ground z0_ground_formX z0_ground_formY z0_ground_foxX z0_ground_foxY z0_ground_seat a0_ground_strength z0_ground_debts z0_ground_near z0_ground_forms v0_ground_hares z0_ground_foxes v0_ground_safe a0_ground_strength cyI f0_ground_strength a3 cyJ n3 f7) H := by rw [ef7]; exact hP
  have hD : va_D A (wd00_21 a0 z0_tape a0_ground z0_spareGround a0_rule z0_spareRule z0_lines z0_spareLines z0_steps a0_now a0_trial z0_past z0_images z0_round z0_seating z0_fitting z0_imagesKept z0_refusedSteps z0_callsNoSuch x1 a0_trial a0_trial_row z0_trial_owedEach q3 q4 a0_now a0_now_row z0_now_owedEach a0_ground a0_rule a0_now_row cyI f0_now_row a0_trial_row cyI f2 a0_ground z0_ground_formX z0_ground_formY z0_ground_foxX z0_ground_foxY z0_ground_seat a0_ground_strength z0_ground_debts z0_ground_near z0_ground_forms v0_ground_hares z0_ground_foxes v0_ground_safe a0_ground_strength cyI f0_ground_strength a3 cyJ n3 f7) := by rw [ef7]; exact hD
  refine lv_goto (tgt := 17) hx hb (dt_of tkL_ahead_k0 8 rfl) (by decide) ?_
  refine lv_iconst (v := 0) hx hb (dt_of tkL_ahead_k0 12 rfl) (by decide) ?_
  exact (W.widen (k := 2) (n := 12) (Nat.le_of_ble_eq_true rfl) (Nat.le_of_ble_eq_true rfl) (W.iret (v := 0) hx hb hr (fun t ht hW => ⟨⟨0, (x1, f2, q3, q4, f7), rfl, hw, by rw [ht]; exact hP, va_K.moved hW.alike hK, hD⟩, hS.F ht⟩) hS.2.2 (dt_of tkL_ahead_k0 13 rfl)))
theorem ui_X8_open_X8 : ∀ w ∈ u_ws RX8 TX8 7, w ∈ wsX8_open := uiM mbX8_open euX8 (by decide +kernel)
theorem uw_X8_open_f15 : (.fieldLink RX8 15 "MarchHares$Tape" "faultPlace" "I" : Cond) ∈ wsX8_open := mbX8_open 143 (by decide +kernel)
theorem uw_X8_open_f19 : (.fieldLink RX8 19 "MarchHares$Tape" "filled" "I" : Cond) ∈ wsX8_open := mbX8_open 580 (by decide +kernel)
theorem uw_X8_open_f28 : (.fieldLink RX8 28 "MarchHares$Tape" "length" "I" : Cond) ∈ wsX8_open := mbX8_open 712 (by decide +kernel)
theorem uw_X8_open_f31 : (.fieldLink RX8 31 "MarchHares$Tape" "at" "I" : Cond) ∈ wsX8_open := mbX8_open 713 (by decide +kernel)
theorem uw_X8_open_f34 : (.fieldLink RX8 34 "MarchHares$Tape" "token" "I" : Cond) ∈ wsX8_open := mbX8_open 714 (by decide +kernel)
theorem uw_X8_open_f37 : (.fieldLink RX8 37 "MarchHares$Tape" "fault" "I" : Cond) ∈ wsX8_open := mbX8_open 715 (by decide +kernel)
theorem uw_X8_open_inim : (.initialized "java/lang/Math" : Cond) ∈ wsX8_open := mbX8_open 651 (by decide +kernel)
theorem uw_X8_open_m22 : (.methodLink RX8 22 Lib.Math.min.name : Cond) ∈ wsX8_open := mbX8_open 711 (by decide +kernel)
theorem uw_X8_open_mcmin : (.code Lib.Math.min.name Lib.Math.min.code 2 (some .int) : Cond) ∈ wsX8_open := mbX8_open 652 (by decide +kernel)
theorem uw_X8_open_msmin : (.static Lib.Math.min.name : Cond) ∈ wsX8_open := mbX8_open 650 (by decide +kernel)
set_option maxHeartbeats 4000000 in
set_option maxRecDepth 100000 in
theorem ck_X8_open (l : Launch) (dC : Nat → ClassId) (dI : Nat → Nat → Nat) (cyB cyI cyJ cyP : ClassId) (a0 : Nat) (sz : Nat) (z0_bytes : Value)  (v0_length : Int32) (v0_at : Int32) (v0_token : Int32) (v0_filled : Int32) (v0_fault : Int32) (v0_faultPlace : Int32) (p1 : Int32) {Q : Int32 → Int32 → Int32 → Int32 → Int32 → Int32 → Prop} (hw : wq_X8_open  v0_length v0_at v0_token v0_filled v0_fault v0_faultPlace p1 Q) : Met l yX8_open wsX8_open ({ frames := 1, cells := 0, slots := 0, locals := 32 }) (va_Pc [.ref a0, .int p1] (cPc (dC, dI) (kT cyB cyI cyJ cyP) (wd00_23 a0 z0_bytes v0_length v0_at v0_token v0_filled v0_fault v0_faultPlace) sz)) (va_Qv (fun (u : Int32 × Int32 × Int32 × Int32 × Int32 × Int32) => Q u.1 u.2.1 u.2.2.1 u.2.2.2.1 u.2.2.2.2.1 u.2.2.2.2.2) (cB (dC, dI) (kT cyB cyI cyJ cyP) (va_A (wd00_23 a0 z0_bytes v0_length v0_at v0_token v0_filled v0_fault v0_faultPlace) sz) (fun u : Int32 × Int32 × Int32 × Int32 × Int32 × Int32 => ((wd00_23 a0 z0_bytes u.1 u.2.1 u.2.2.1 u.2.2.2.1 u.2.2.2.2.1 u.2.2.2.2.2) : va_W))) (va_A (wd00_23 a0 z0_bytes v0_length v0_at v0_token v0_filled v0_fault v0_faultPlace) sz)) 0 0 (va_A (wd00_23 a0 z0_bytes v0_length v0_at v0_token v0_filled v0_fault v0_faultPlace) sz) := by
  refine Met.ofW (cc := cX8_open) (maxL := 2) (ret := none) (by decide) rfl ?_
  intro p e s m args below meth c s₁ B hml hv
  obtain ⟨rfl, hsz, hP, hK, hD0, hNw⟩ := hv
  have hx := B.exec
  have hb := B.bytes
  have hr := B.returns
  have hts := atoms_spec (ws := wsX8_open) B.pre
  have hown : s.vm.findClass RX8 = some m.cls := findClass_of_methodNamed B.named
  have hlocks := B.notSynchronized
  subst hsz
  have hD := hD0.self (sz := s.heap.size)
  generalize hAe : va_A (wd00_23 a0 z0_bytes v0_length v0_at v0_token v0_filled v0_fault v0_faultPlace) s.heap.size = A at hD ⊢
  have hA : ∀ q : Nat, s.heap.size ≤ q → A q := fun q h => by rw [← hAe]; exact Or.inr h
  have hS : va_S A s.heap s.heap [] := va_S.rf
  have hP : va_P (dC, dI) vwCl (wd00_23 a0 z0_bytes v0_length v0_at v0_token v0_filled v0_fault v0_faultPlace) s.heap := hP
  have hl := lv_entry ([.ref a0, .int p1]) (n := 2) (Nat.le_of_ble_eq_true rfl)
  rw [lg_entry_eq]
  generalize (lg_sl ([.ref a0, .int p1]) ++ List.replicate (2 - (lg_sl ([.ref a0, .int p1])).length) Slot.unset).toArray = ls at hl ⊢
  have hl : lv_has ls 2 [(0, .ref a0), (1, .int p1)] := hl
  have C0 : cfx p s m _ meth c cX8_open none wsX8_open RX8 2 A (dC, dI) (kT cyB cyI cyJ cyP) := ⟨hx, hb, hr, hts, hown, hlocks, hml, hA, hK, hNw⟩
  clear hAe
  obtain ⟨H, hH⟩ : ∃ H, H = s.heap := ⟨_, rfl⟩
  rw [← hH] at hP ⊢
  have hS : va_S A s.heap H [] := by rw [hH]; exact va_S.rf
  have hS := hS
  refine lv_aload_n hx hb (dt_of tkX8_open_k0 0 rfl) rfl (lv_at hl 0 rfl) ?_
  refine lv_iload_n hx hb (dt_of tkX8_open_k0 1 rfl) rfl (lv_at hl 1 rfl) ?_
  refine lv_sipush (v := 600) hx hb (dt_of tkX8_open_k0 2 rfl) (by decide) ?_
  refine va_mmin hx hb (by rw [hml]; exact hl.1.symm) hown (hts _ uw_X8_open_m22) (hts _ uw_X8_open_msmin) (hts _ uw_X8_open_inim) (hts _ uw_X8_open_mcmin) (Nat.le_of_ble_eq_true rfl) (Nat.le_of_ble_eq_true rfl) (Nat.le_of_ble_eq_true rfl) (Nat.le_of_ble_eq_true rfl) (dt_of tkX8_open_k0 3 rfl) ?_
  refine lv_topi (fun x1 ex1 => ?_)
  have hw := hw x1 ex1
  refine va_put (D := (dC, dI)) (ci := 8) (v := .int x1) (ty := .int) (C := RX8) (T := TX8) (N := 7) hx hb hts ui_X8_open_X8 tyX8 tyX8_ok nmX8 hown hK hP hD hS 0 rfl rfl 1 (by decide) (hts _ uw_X8_open_f28) (fun _ h9 => h9) rfl (by decide +kernel) rfl rfl (Nat.le_of_ble_eq_true rfl) (dt_of tkX8_open_k0 4 rfl) (fun H locs hP hD hS => ?_)
  have hP : va_P (dC, dI) vwCl (wd00_23 a0 z0_bytes x1 v0_at v0_token v0_filled v0_fault v0_faultPlace) H := hP
  have hD : va_D A (wd00_23 a0 z0_bytes x1 v0_at v0_token v0_filled v0_fault v0_faultPlace) := hD
  refine lv_aload_n hx hb (dt_of tkX8_open_k0 5 rfl) rfl (lv_at hl 0 rfl) ?_
  refine lv_iconst (v := 0) hx hb (dt_of tkX8_open_k0 6 rfl) (by decide) ?_
  refine va_put (D := (dC, dI)) (ci := 8) (v := .int 0) (ty := .int) (C := RX8) (T := TX8) (N := 7) hx hb hts ui_X8_open_X8 tyX8 tyX8_ok nmX8 hown hK hP hD hS 0 rfl rfl 2 (by decide) (hts _ uw_X8_open_f31) (fun _ h9 => h9) rfl (by decide +kernel) rfl rfl (Nat.le_of_ble_eq_true rfl) (dt_of tkX8_open_k0 7 rfl) (fun H locs hP hD hS => ?_)
  have hP : va_P (dC, dI) vwCl (wd00_23 a0 z0_bytes x1 0 v0_token v0_filled v0_fault v0_faultPlace) H := hP
  have hD : va_D A (wd00_23 a0 z0_bytes x1 0 v0_token v0_filled v0_fault v0_faultPlace) := hD
  refine lv_aload_n hx hb (dt_of tkX8_open_k0 8 rfl) rfl (lv_at hl 0 rfl) ?_
  refine lv_iconst (v := 0) hx hb (dt_of tkX8_open_k0 9 rfl) (by decide) ?_
  refine va_put (D := (dC, dI)) (ci := 8) (v := .int 0) (ty := .int) (C := RX8) (T := TX8) (N := 7) hx hb hts ui_X8_open_X8 tyX8 tyX8_ok nmX8 hown hK hP hD hS 0 rfl rfl 3 (by decide) (hts _ uw_X8_open_f34) (fun _ h9 => h9) rfl (by decide +kernel) rfl rfl (Nat.le_of_ble_eq_true rfl) (dt_of tkX8_open_k0 10 rfl) (fun H locs hP hD hS => ?_)
  have hP : va_P (dC, dI) vwCl (wd00_23 a0 z0_bytes x1 0 0 v0_filled v0_fault v0_faultPlace) H := hP
  have hD : va_D A (wd00_23 a0 z0_bytes x1 0 0 v0_filled v0_fault v0_faultPlace) := hD
  refine lv_aload_n hx hb (dt_of tkX8_open_k0 11 rfl) rfl (lv_at hl 0 rfl) ?_
  refine lv_iconst (v := 0) hx hb (dt_of tkX8_open_k0 12 rfl) (by decide) ?_
  refine va_put (D := (dC, dI)) (ci := 8) (v := .int 0) (ty := .int) (C := RX8) (T := TX8) (N := 7) hx hb hts ui_X8_open_X8 tyX8 tyX8_ok nmX8 hown hK hP hD hS 0 rfl rfl 4 (by decide) (hts _ uw_X8_open_f19) (fun _ h9 => h9) rfl (by decide +kernel) rfl rfl (Nat.le_of_ble_eq_true rfl) (dt_of tkX8_open_k0 13 rfl) (fun H locs hP hD hS => ?_)
  have hP : va_P (dC, dI) vwCl (wd00_23 a0 z0_bytes x1 0 0 0 v0_fault v0_faultPlace) H := hP
  have hD : va_D A (wd00_23 a0 z0_bytes x1 0 0 0 v0_fault v0_faultPlace) := hD
  refine lv_aload_n hx hb (dt_of tkX8_open_k0 14 rfl) rfl (lv_at hl 0 rfl) ?_
  refine lv_iconst (v := 0) hx hb (dt_of tkX8_open_k0 15 rfl) (by decide) ?_
  refine va_put (D := (dC, dI)) (ci := 8) (v := .int 0) (ty := .int) (C := RX8) (T := TX8) (N := 7) hx hb hts ui_X8_open_X8 tyX8 tyX8_ok nmX8 hown hK hP hD hS 0 rfl rfl 5 (by decide) (hts _ uw_X8_open_f37) (fun _ h9 => h9) rfl (by decide +kernel) rfl rfl (Nat.le_of_ble_eq_true rfl) (dt_of tkX8_open_k28 0 rfl) (fun H locs hP hD hS => ?_)
  have hP : va_P (dC, dI) vwCl (wd00_23 a0 z0_bytes x1 0 0 0 0 v0_faultPlace) H := hP
  have hD : va_D A (wd00_23 a0 z0_bytes x1 0 0 0 0 v0_faultPlace) := hD
  refine lv_aload_n hx hb (dt_of tkX8_open_k28 1 rfl) rfl (lv_at hl 0 rfl) ?_
  refine lv_iconst (v := (-1)) hx hb (dt_of tkX8_open_k28 2 rfl) (by decide) ?_
  refine va_put (D := (dC, dI)) (ci := 8) (v := .int (-1)) (ty := .int) (C := RX8) (T := TX8) (N := 7) hx hb hts ui_X8_open_X8 tyX8 tyX8_ok nmX8 hown hK hP hD hS 0 rfl rfl 6 (by decide) (hts _ uw_X8_open_f15) (fun _ h9 => h9) rfl (by decide +kernel) rfl rfl (Nat.le_of_ble_eq_true rfl) (dt_of tkX8_open_k28 3 rfl) (fun H locs hP hD hS => ?_)
  have hP : va_P (dC, dI) vwCl (wd00_23 a0 z0_bytes x1 0 0 0 0 (-1)) H := hP
  have hD : va_D A (wd00_23 a0 z0_bytes x1 0 0 0 0 (-1)) := hD
  exact ((W.vret hx hb hr (fun t ht hW => ⟨⟨(x1, 0, 0, 0, 0, (-1)), rfl, hw, by rw [ht]; exact hP, va_K.moved hW.alike hK, hD⟩, hS.F ht⟩) hS.2.2 (dt_of tkX8_open_k28 4 rfl)))
theorem ui_X10_openText_X10 : ∀ w ∈ u_ws RX10 TX10 19, w ∈ wsX10_openText := uiM mbX10_openText euX10 (by decide +kernel)
theorem ui_X10_openText_X8 : ∀ w ∈ u_ws RX8 TX8 7, w ∈ wsX10_openText := uiM mbX10_openText euX8 (by decide +kernel)
theorem uw_X10_openText_f10 : (.fieldLink RX10 10 "MarchHares" "tape" "LMarchHares$Tape;" : Cond) ∈ wsX10_openText := mbX10_openText 16 (by decide +kernel)
theorem uw_X10_openText_f105 : (.fieldLink RX10 105 "MarchHares$Tape" "filled" "I" : Cond) ∈ wsX10_openText := mbX10_openText 535 (by decide +kernel)
theorem uw_X10_openText_inim : (.initialized "java/lang/Math" : Cond) ∈ wsX10_openText := mbX10_openText 651 (by decide +kernel)
theorem uw_X10_openText_m384 : (.methodLink RX10 384 Lib.Math.min.name : Cond) ∈ wsX10_openText := mbX10_openText 649 (by decide +kernel)
theorem uw_X10_openText_mcmin : (.code Lib.Math.min.name Lib.Math.min.code 2 (some .int) : Cond) ∈ wsX10_openText := mbX10_openText 652 (by decide +kernel)
theorem uw_X10_openText_msmin : (.static Lib.Math.min.name : Cond) ∈ wsX10_openText := mbX10_openText 650 (by decide +kernel)
set_option maxHeartbeats 4000000 in
set_option maxRecDepth 100000 in
theorem ck_X10_openText (l : Launch) (dC : Nat → ClassId) (dI : Nat → Nat → Nat) (cyB cyI cyJ cyP : ClassId) (a0 a0_tape : Nat) (sz : Nat) (z0_ground : Value) (z0_spareGround : Value) (z0_rule : Value) (z0_spareRule : Value) (z0_lines : Value) (z0_spareLines : Value) (z0_steps : Value) (z0_now : Value) (z0_trial : Value) (z0_past : Value) (z0_images : Value) (z0_round : Value) (z0_seating : Value) (z0_fitting : Value) (z0_imagesKept : Value) (z0_refusedSteps : Value) (z0_callsNoSuch : Value) (z0_tape_bytes : Value)  (v0_callsIllegal : Int32) (v0_tape_length : Int32) (v0_tape_at : Int32) (v0_tape_token : Int32) (v0_tape_filled : Int32) (v0_tape_fault : Int32) (v0_tape_faultPlace : Int32) (p1 : Int32) (p2 : Int32) {E : String → Int32 → Int32 → Int32 → Int32 → Int32 → Int32 → Int32 → Prop} {Q : Int32 → Int32 → Int32 → Int32 → Int32 → Int32 → Int32 → Prop} (hw : wq_X10_openText  v0_callsIllegal v0_tape_length v0_tape_at v0_tape_token v0_tape_filled v0_tape_fault v0_tape_faultPlace p1 p2 E Q) : vx_Met l yX10_openText wsX10_openText ({ frames := 8, cells := 1, slots := 6, locals := 164 }) (va_Pc [.ref a0, .int p1, .int p2] (cPx l (dC, dI) (kT cyB cyI cyJ cyP) (wd00_24 a0 a0_tape z0_ground z0_spareGround z0_rule z0_spareRule z0_lines z0_spareLines z0_steps z0_now z0_trial z0_past z0_images z0_round z0_seating z0_fitting z0_imagesKept z0_refusedSteps z0_callsNoSuch v0_callsIllegal a0_tape z0_tape_bytes v0_tape_length v0_tape_at v0_tape_token v0_tape_filled v0_tape_fault v0_tape_faultPlace) sz)) (va_Qv (fun (u : Int32 × Int32 × Int32 × Int32 × Int32 × Int32 × Int32) => Q u.1 u.2.1 u.2.2.1 u.2.2.2.1 u.2.2.2.2.1 u.2.2.2.2.2.1 u.2.2.2.2.2.2) (cB (dC, dI) (kT cyB cyI cyJ cyP) (va_A (wd00_24 a0 a0_tape z0_ground z0_spareGround z0_rule z0_spareRule z0_lines z0_spareLines z0_steps z0_now z0_trial z0_past z0_images z0_round z0_seating z0_fitting z0_imagesKept z0_refusedSteps z0_callsNoSuch v0_callsIllegal a0_tape z0_tape_bytes v0_tape_length v0_tape_at v0_tape_token v0_tape_filled v0_tape_fault v0_tape_faultPlace) sz) (fun u : Int32 × Int32 × Int32 × Int32 × Int32 × Int32 × Int32 => ((wd00_24 a0 a0_tape z0_ground z0_spareGround z0_rule z0_spareRule z0_lines z0_spareLines z0_steps z0_now z0_trial z0_past z0_images z0_round z0_seating z0_fitting z0_imagesKept z0_refusedSteps z0_callsNoSuch u.1 a0_tape z0_tape_bytes u.2.1 u.2.2.1 u.2.2.2.1 u.2.2.2.2.1 u.2.2.2.2.2.1 u.2.2.2.2.2.2) : va_W))) (va_A (wd00_24 a0 a0_tape z0_ground z0_spareGround z0_rule z0_spareRule z0_lines z0_spareLines z0_steps z0_now z0_trial z0_past z0_images z0_round z0_seating z0_fitting z0_imagesKept z0_refusedSteps z0_callsNoSuch v0_callsIllegal a0_tape z0_tape_bytes v0_tape_length v0_tape_at v0_tape_token v0_tape_filled v0_tape_fault v0_tape_faultPlace) sz)) (vx_X (fun _ => True) (fun (en : String) (u : Int32 × Int32 × Int32 × Int32 × Int32 × Int32 × Int32) (t : State) => E en u.1 u.2.1 u.2.2.1 u.2.2.2.1 u.2.2.2.2.1 u.2.2.2.2.2.1 u.2.2.2.2.2.2 ∧ cB (dC, dI) (kT cyB cyI cyJ cyP) (va_A (wd00_24 a0 a0_tape z0_ground z0_spareGround z0_rule z0_spareRule z0_lines z0_spareLines z0_steps z0_now z0_trial z0_past z0_images z0_round z0_seating z0_fitting z0_imagesKept z0_refusedSteps z0_callsNoSuch v0_callsIllegal a0_tape z0_tape_bytes v0_tape_length v0_tape_at v0_tape_token v0_tape_filled v0_tape_fault v0_tape_faultPlace) sz) (fun u : Int32 × Int32 × Int32 × Int32 × Int32 × Int32 × Int32 => ((wd00_24 a0 a0_tape z0_ground z0_spareGround z0_rule z0_spareRule z0_lines z0_spareLines z0_steps z0_now z0_trial z0_past z0_images z0_round z0_seating z0_fitting z0_imagesKept z0_refusedSteps z0_callsNoSuch u.1 a0_tape z0_tape_bytes u.2.1 u.2.2.1 u.2.2.2.1 u.2.2.2.2.1 u.2.2.2.2.2.1 u.2.2.2.2.2.2) : va_W)) u t) (va_A (wd00_24 a0 a0_tape z0_ground z0_spareGround z0_rule z0_spareRule z0_lines z0_spareLines z0_steps z0_now z0_trial z0_past z0_images z0_round z0_seating z0_fitting z0_imagesKept z0_refusedSteps z0_callsNoSuch v0_callsIllegal a0_tape z0_tape_bytes v0_tape_length v0_tape_at v0_tape_token v0_tape_filled v0_tape_fault v0_tape_faultPlace) sz)) 1 6 (va_A (wd00_24 a0 a0_tape z0_ground z0_spareGround z0_rule z0_spareRule z0_lines z0_spareLines z0_steps z0_now z0_trial z0_past z0_images z0_round z0_seating z0_fitting z0_imagesKept z0_refusedSteps z0_callsNoSuch v0_callsIllegal a0_tape z0_tape_bytes v0_tape_length v0_tape_at v0_tape_token v0_tape_filled v0_tape_fault v0_tape_faultPlace) sz) := by
  refine vx_ofW (cc := cX10_openText) (maxL := 3) (ret := none) (by decide) rfl ?_
  intro p e s m args below meth c s₁ B hml hnt hv
  obtain ⟨rfl, hsz, hP, hK, hD0, hNw, hXl, hXu, hXn, hXt⟩ := hv
  have hx := B.exec
  have hb := B.bytes
  have hr := B.returns
  have hts := atoms_spec (ws := wsX10_openText) B.pre
  have hown : s.vm.findClass RX10 = some m.cls := findClass_of_methodNamed B.named
  have hlocks := B.notSynchronized
  subst hsz
  have hD := hD0.self (sz := s.heap.size)
  generalize hAe : va_A (wd00_24 a0 a0_tape z0_ground z0_spareGround z0_rule z0_spareRule z0_lines z0_spareLines z0_steps z0_now z0_trial z0_past z0_images z0_round z0_seating z0_fitting z0_imagesKept z0_refusedSteps z0_callsNoSuch v0_callsIllegal a0_tape z0_tape_bytes v0_tape_length v0_tape_at v0_tape_token v0_tape_filled v0_tape_fault v0_tape_faultPlace) s.heap.size = A at hD hXu hXn ⊢
  have hA : ∀ q : Nat, s.heap.size ≤ q → A q := fun q h => by rw [← hAe]; exact Or.inr h
  have hS : va_S A s.heap s.heap [] := va_S.rf
  have hP : va_P (dC, dI) vwCl (wd00_24 a0 a0_tape z0_ground z0_spareGround z0_rule z0_spareRule z0_lines z0_spareLines z0_steps z0_now z0_trial z0_past z0_images z0_round z0_seating z0_fitting z0_imagesKept z0_refusedSteps z0_callsNoSuch v0_callsIllegal a0_tape z0_tape_bytes v0_tape_length v0_tape_at v0_tape_token v0_tape_filled v0_tape_fault v0_tape_faultPlace) s.heap := hP
  have hl := lv_entry ([.ref a0, .int p1, .int p2]) (n := 3) (Nat.le_of_ble_eq_true rfl)
  rw [lg_entry_eq]
  generalize (lg_sl ([.ref a0, .int p1, .int p2]) ++ List.replicate (3 - (lg_sl ([.ref a0, .int p1, .int p2])).length) Slot.unset).toArray = ls at hl ⊢
  have hl : lv_has ls 3 [(0, .ref a0), (1, .int p1), (2, .int p2)] := hl
  have hY : cfY l s A := ⟨hXl, hXu, hXn, hXt⟩
  have hXs : cfX l s c A := ⟨hnt, hY⟩
  have C0 : cfx p s m _ meth c cX10_openText none wsX10_openText RX10 3 A (dC, dI) (kT cyB cyI cyJ cyP) ∧ cfX l s c A := ⟨⟨hx, hb, hr, hts, hown, hlocks, hml, hA, hK, hNw⟩, hXs⟩
  clear hAe
  obtain ⟨H, hH⟩ : ∃ H, H = s.heap := ⟨_, rfl⟩
  rw [← hH] at hP ⊢
  have hS : va_S A s.heap H [] := by rw [hH]; exact va_S.rf
  have hS := hS
  refine lv_aload_n hx hb (dt_of tkX10_openText_k0 0 rfl) rfl (lv_at hl 0 rfl) ?_
  refine lv_iload_n hx hb (dt_of tkX10_openText_k0 1 rfl) rfl (lv_at hl 1 rfl) ?_
  refine lv_iconst (v := 0) hx hb (dt_of tkX10_openText_k0 2 rfl) (by decide) ?_
  refine lv_iload_n hx hb (dt_of tkX10_openText_k0 3 rfl) rfl (lv_at hl 2 rfl) ?_
  refine lv_aload_n hx hb (dt_of tkX10_openText_k0 4 rfl) rfl (lv_at hl 0 rfl) ?_
  refine va_get (D := (dC, dI)) (ci := 10) (v := .ref a0_tape) (C := RX10) (T := TX10) (N := 19) hx hb hts ui_X10_openText_X10 hown hK hP 0 rfl rfl 0 (by decide) (hts _ uw_X10_openText_f10) (fun _ h9 => h9) rfl (dt_of tkX10_openText_k0 5 rfl) ?_
  refine va_get (D := (dC, dI)) (ci := 8) (v := .int v0_tape_filled) (C := RX8) (T := TX8) (N := 7) hx hb hts ui_X10_openText_X8 hown hK hP 1 rfl rfl 4 (by decide) (hts _ uw_X10_openText_f105) (fun _ h9 => h9) rfl (dt_of tkX10_openText_k0 6 rfl) ?_
  refine va_mmin hx hb (by rw [hml]; exact hl.1.symm) hown (hts _ uw_X10_openText_m384) (hts _ uw_X10_openText_msmin) (hts _ uw_X10_openText_inim) (hts _ uw_X10_openText_mcmin) (Nat.le_of_ble_eq_true rfl) (Nat.le_of_ble_eq_true rfl) (Nat.le_of_ble_eq_true rfl) (Nat.le_of_ble_eq_true rfl) (dt_of tkX10_openText_k0 7 rfl) ?_
  refine lv_topi (fun x1 ex1 => ?_)
  have hw := hw x1 ex1
  obtain ⟨hCc, hPc, hDc, hFc⟩ := va_pick (ws' := (wd00_25 a0 a0_tape z0_ground z0_spareGround z0_rule z0_spareRule z0_lines z0_spareLines z0_steps z0_now z0_trial z0_past z0_images z0_round z0_seating z0_fitting z0_imagesKept z0_refusedSteps z0_callsNoSuch v0_callsIllegal)) hP hD hS hA [0] (by decide +kernel) rfl
  refine vx_callv (vx_runV (As := [.int p1, .int 0, .int x1]) (rest := []) ⟨hx, hb, hml, hown, hts⟩ (ck_X10_needWithin l dC dI cyB cyI cyJ cyP a0 H.size (.ref a0_tape) (z0_ground) (z0_spareGround) (z0_rule) (z0_spareRule) (z0_lines) (z0_spareLines) (z0_steps) (z0_now) (z0_trial) (z0_past) (z0_images) (z0_round) (z0_seating) (z0_fitting) (z0_imagesKept) (z0_refusedSteps) (z0_callsNoSuch)  v0_callsIllegal p1 0 x1 hw) (cwV 3 hts gX10_openText_X10_needWithin rfl rfl rfl (by decide +kernel) ⟨Nat.le_of_ble_eq_true rfl, Nat.le_of_ble_eq_true rfl⟩) ⟨cPx_blind, va_recv (q := (RX10, TX10, 19)) hK hPc (ci := 10) (q0 := 0) rfl rfl, cPx_pre hPc hK hDc hNw hY hS hFc⟩ rfl rfl hl.1 rfl (lv_room (Nat.le_of_ble_eq_true rfl)) (dt_of tkX10_openText_k0 8 rfl) ⟨Nat.le_of_ble_eq_true rfl, Nat.le_of_ble_eq_true rfl⟩) hS (fun q _ h => hFc q h) hFc (fun q _ h => hFc q h) (fun en ce q9 u t H1 locs ht hvm hpx hB hz1 hk1 hS hc9 hv9 hcl9 => ?_) (fun u t H1 locs ht hvm hw hB hz1 hk1 hS => ?_)
  · obtain ⟨x2, rfl⟩ : ∃ z, z = u := ⟨_, rfl⟩
    obtain ⟨hw, hP1, hK1, hD1⟩ := hB
    rw [ht] at hP1
    obtain ⟨hP, hD⟩ := va_joinN (wr := (wd00_23 a0_tape z0_tape_bytes v0_tape_length v0_tape_at v0_tape_token v0_tape_filled v0_tape_fault v0_tape_faultPlace)) (w1 := (wd00_25 a0 a0_tape z0_ground z0_spareGround z0_rule z0_spareRule z0_lines z0_spareLines z0_steps z0_now z0_trial z0_past z0_images z0_round z0_seating z0_fitting z0_imagesKept z0_refusedSteps z0_callsNoSuch x2)) (wn := (wd00_24 a0 a0_tape z0_ground z0_spareGround z0_rule z0_spareRule z0_lines z0_spareLines z0_steps z0_now z0_trial z0_past z0_images z0_round z0_seating z0_fitting z0_imagesKept z0_refusedSteps z0_callsNoSuch x2 a0_tape z0_tape_bytes v0_tape_length v0_tape_at v0_tape_token v0_tape_filled v0_tape_fault v0_tape_faultPlace)) hP hD [0] [1] [1, 0] hCc rfl (by decide +kernel) (by decide +kernel) (by decide +kernel) rfl hk1 hFc hP1 hD1
    generalize H1 = H at hP hS hc9 ⊢
    exact vx_out (fun x hx9 => (hXs.1 x hx9).elim) hlocks hc9 hv9 hcl9 (fun t2 ht2 hal2 => ⟨(x2, v0_tape_length, v0_tape_at, v0_tape_token, v0_tape_filled, v0_tape_fault, v0_tape_faultPlace), trivial, ⟨hw, by rw [ht2]; exact hP, va_K.moved hal2 hK, hD⟩, hS.F ht2⟩) hS.2.2 (Nat.le_of_ble_eq_true rfl) (Nat.le_of_ble_eq_true rfl)
  obtain ⟨x2, rfl⟩ : ∃ z, z = u := ⟨_, rfl⟩
  obtain ⟨hP1, hK1, hD1⟩ := hB
  rw [ht] at hP1
  obtain ⟨hP, hD⟩ := va_joinN (wr := (wd00_23 a0_tape z0_tape_bytes v0_tape_length v0_tape_at v0_tape_token v0_tape_filled v0_tape_fault v0_tape_faultPlace)) (w1 := (wd00_25 a0 a0_tape z0_ground z0_spareGround z0_rule z0_spareRule z0_lines z0_spareLines z0_steps z0_now z0_trial z0_past z0_images z0_round z0_seating z0_fitting z0_imagesKept z0_refusedSteps z0_callsNoSuch x2)) (wn := (wd00_24 a0 a0_tape z0_ground z0_spareGround z0_rule z0_spareRule z0_lines z0_spareLines z0_steps z0_now z0_trial z0_past z0_images z0_round z0_seating z0_fitting z0_imagesKept z0_refusedSteps z0_callsNoSuch x2 a0_tape z0_tape_bytes v0_tape_length v0_tape_at v0_tape_token v0_tape_filled v0_tape_fault v0_tape_faultPlace)) hP hD [0] [1] [1, 0] hCc rfl (by decide +kernel) (by decide +kernel) (by decide +kernel) rfl hk1 hFc hP1 hD1
  generalize H1 = H at hP hS ⊢
  refine lv_aload_n hx hb (dt_of tkX10_openText_k0 9 rfl) rfl (lv_at hl 0 rfl) ?_
  refine va_get (D := (dC, dI)) (ci := 10) (v := .ref a0_tape) (C := RX10) (T := TX10) (N := 19) hx hb hts ui_X10_openText_X10 hown hK hP 0 rfl rfl 0 (by decide) (hts _ uw_X10_openText_f10) (fun _ h9 => h9) rfl (dt_of tkX10_openText_k0 10 rfl) ?_
  refine lv_iload_n hx hb (dt_of tkX10_openText_k0 11 rfl) rfl (lv_at hl 1 rfl) ?_
  obtain ⟨hCc, hPc, hDc, hFc⟩ := va_pick (ws' := (wd00_23 a0_tape z0_tape_bytes v0_tape_length v0_tape_at v0_tape_token v0_tape_filled v0_tape_fault v0_tape_faultPlace)) hP hD hS hA [1] (by decide +kernel) rfl
  refine va_callv (va_runV (As := [.int p1]) (rest := []) ⟨hx, hb, hml, hown, hts⟩ (ck_X8_open l dC dI cyB cyI cyJ cyP a0_tape H.size (z0_tape_bytes)  v0_tape_length v0_tape_at v0_tape_token v0_tape_filled v0_tape_fault v0_tape_faultPlace p1 hw) (cwV 1 hts gX10_openText_X8_open rfl rfl rfl (by decide +kernel) ⟨Nat.le_of_ble_eq_true rfl, Nat.le_of_ble_eq_true rfl⟩) ⟨cPc_blind, va_recv (q := (RX8, TX8, 7)) hK hPc (ci := 8) (q0 := 0) rfl rfl, cPc_pre hPc hK hDc hNw⟩ rfl rfl hl.1 rfl (lv_room (Nat.le_of_ble_eq_true rfl)) (dt_of tkX10_openText_k0 12 rfl) ⟨Nat.le_of_ble_eq_true rfl, Nat.le_of_ble_eq_true rfl⟩) hS (fun q _ h => hFc q h) hFc (fun u t H1 locs ht hvm hw hB hz1 hk1 hS => ?_)
  obtain ⟨x3, x4, x5, x6, x7, x8⟩ := u
  obtain ⟨hP1, hK1, hD1⟩ := hB
  rw [ht] at hP1
  obtain ⟨hP, hD⟩ := va_joinI (wr := (wd00_25 a0 a0_tape z0_ground z0_spareGround z0_rule z0_spareRule z0_lines z0_spareLines z0_steps z0_now z0_trial z0_past z0_images z0_round z0_seating z0_fitting z0_imagesKept z0_refusedSteps z0_callsNoSuch x2)) (w1 := (wd00_23 a0_tape z0_tape_bytes x3 x4 x5 x6 x7 x8)) (wn := (wd00_24 a0 a0_tape z0_ground z0_spareGround z0_rule z0_spareRule z0_lines z0_spareLines z0_steps z0_now z0_trial z0_past z0_images z0_round z0_seating z0_fitting z0_imagesKept z0_refusedSteps z0_callsNoSuch x2 a0_tape z0_tape_bytes x3 x4 x5 x6 x7 x8)) hP hD [1] [0] hCc rfl (by decide +kernel) (by decide +kernel) rfl hk1 hFc hP1 hD1
  generalize H1 = H at hP hS ⊢
  exact vx_ret (W.widen (k := 1) (n := 6) (Nat.le_of_ble_eq_true rfl) (Nat.le_of_ble_eq_true rfl) (W.vret hx hb hr (fun t ht hW => ⟨⟨(x2, x3, x4, x5, x6, x7, x8), rfl, hw, by rw [ht]; exact hP, va_K.moved hW.alike hK, hD⟩, hS.F ht⟩) hS.2.2 (dt_of tkX10_openText_k0 13 rfl)))
theorem ui_X0_clear_X0 : ∀ w ∈ u_ws RX0 TX0 2, w ∈ wsX0_clear := uiM mbX0_clear euX0 (by decide +kernel)
theorem uw_X0_clear_f18 : (.fieldLink RX0 18 "MarchHares$Book" "many" "I" : Cond) ∈ wsX0_clear := mbX0_clear 262 (by decide +kernel)
theorem uw_X0_clear_f9 : (.fieldLink RX0 9 "MarchHares$Book" "seen" "[I" : Cond) ∈ wsX0_clear := mbX0_clear 257 (by decide +kernel)
set_option maxHeartbeats 4000000 in
set_option maxRecDepth 100000 in
theorem kl_X0_clear_7 {p : Program} {l : Launch} {e : Env} {s : State} {m : MethodId} {args : Array Value} {below : List Frame} {meth : Method} {c : Code} {A : Nat → Prop} (dC : Nat → ClassId) (dI : Nat → Nat → Nat) (cyB cyI cyJ cyP : ClassId) (a0 a0_seen : Nat)   (Q : Int32 → (Nat → Int32) → Prop)  (C0 : cfx p s m args meth c cX0_clear none wsX0_clear RX0 2 A (dC, dI) (kT cyB cyI cyJ cyP)) : ∀ (n : Nat) (H : Heap) (locs : List Loc) (ls : Array Slot) (v0_many : Int32) (f0_seen : Nat → Int32) (l1 : Int32), va_P (dC, dI) vwCl (wd00_26 a0 a0_seen v0_many a0_seen cyI f0_seen) H → va_D A (wd00_26 a0 a0_seen v0_many a0_seen cyI f0_seen) → va_S A s.heap H locs → lv_has ls 2 [(0, .ref a0), (1, .int l1)] → wl_X0_clear_7  Q  n v0_many f0_seen l1 → W p l e (headSpec wsX0_clear ({ frames := 0, cells := 0, slots := 0, locals := 0 })).room s m args below meth c H locs 0 0 (MQ below (va_Qv (fun (u : Int32 × (Nat → Int32)) => Q u.1 u.2) (cB (dC, dI) (kT cyB cyI cyJ cyP) A (fun u : Int32 × (Nat → Int32) => ((wd00_26 a0 a0_seen u.1 a0_seen cyI u.2) : va_W))) A) args s 0 0 A) (F0 m 7 ls []) := by
  obtain ⟨hx, hb, hr, hts, hown, hlocks, hml, hA, hK, hNw⟩ := id C0
  intro n
  induction n with
  | zero => intro H locs ls v0_many f0_seen l1 hP hD hS hl hw; exact False.elim hw
  | succ n ih =>
    intro H locs ls v0_many f0_seen l1 hP hD hS hl hw
    refine lv_iload_n hx hb (dt_of tkX0_clear_k0 5 rfl) rfl (lv_at hl 1 rfl) ?_
    refine lv_bipush (v := 8) hx hb (dt_of tkX0_clear_k0 6 rfl) (by decide) ?_
    refine lv_icmp_ge (tgt := 26) hx hb (dt_of tkX0_clear_k0 7 rfl) (by decide) (fun c1 => ?_) (fun c1 => ?_)
    · have hw := hw.1 c1
      exact ((W.vret hx hb hr (fun t ht hW => ⟨⟨(v0_many, f0_seen), rfl, hw, by rw [ht]; exact hP, va_K.moved hW.alike hK, hD⟩, hS.F ht⟩) hS.2.2 (dt_of tkX0_clear_k0 15 rfl)))
    · have hw := hw.2 c1
      refine lv_aload_n hx hb (dt_of tkX0_clear_k0 8 rfl) rfl (lv_at hl 0 rfl) ?_
      refine va_get (D := (dC, dI)) (ci := 0) (v := .ref a0_seen) (C := RX0) (T := TX0) (N := 2) hx hb hts ui_X0_clear_X0 hown hK hP 0 rfl rfl 0 (by decide) (hts _ uw_X0_clear_f9) (fun _ h9 => h9) rfl (dt_of tkX0_clear_k0 9 rfl) ?_
      refine lv_iload_n hx hb (dt_of tkX0_clear_k0 10 rfl) rfl (lv_at hl 1 rfl) ?_
      refine lv_iconst (v := (-1)) hx hb (dt_of tkX0_clear_k0 11 rfl) (by decide) ?_
      obtain ⟨hi9, hw⟩ := hw
      refine va_iast hx hb hK hP hD hS 1 1 rfl rfl hi9 (dt_of tkX0_clear_k0 12 rfl) (fun H locs hP hD hS => ?_)
      obtain ⟨f2, ef2⟩ : ∃ y : Nat → Int32, y = upd f0_seen l1.toNatClampNeg (-1) := ⟨_, rfl⟩
      have hw := hw f2 ef2
      have hP : va_P (dC, dI) vwCl (wd00_26 a0 a0_seen v0_many a0_seen cyI f2) H := by rw [ef2]; exact hP
      have hD : va_D A (wd00_26 a0 a0_seen v0_many a0_seen cyI f2) := by rw [ef2]; exact hD
      obtain ⟨x3, ex3⟩ : ∃ y : Int32, y = l1 + 1 := ⟨_, rfl⟩
      have hw := hw x3 ex3
      refine lv_iinc (v := x3) (lv' := [(1, .int x3), (0, .ref a0)]) hx hb (dt_of tkX0_clear_k0 13 rfl) hl (k := 1) rfl (by rw [ex3]; rfl) (by decide) rfl (fun ls hl => ?_)
      refine lv_goto (tgt := 7) hx hb (dt_of tkX0_clear_k0 14 rfl) (by decide) ?_
      exact ih _ _ _ v0_many f2 x3 hP hD hS (lv_sub hl [1, 0] rfl) hw
set_option maxHeartbeats 4000000 in
set_option maxRecDepth 100000 in
theorem ck_X0_clear (l : Launch) (dC : Nat → ClassId) (dI : Nat → Nat → Nat) (cyB cyI cyJ cyP : ClassId) (a0 a0_seen : Nat) (sz : Nat)   (v0_many : Int32) (f0_seen : Nat → Int32)  {Q : Int32 → (Nat → Int32) → Prop} (hw : wq_X0_clear  v0_many f0_seen  Q) : Met l yX0_clear wsX0_clear ({ frames := 0, cells := 0, slots := 0, locals := 0 }) (va_Pc [.ref a0] (cPc (dC, dI) (kT cyB cyI cyJ cyP) (wd00_26 a0 a0_seen v0_many a0_seen cyI f0_seen) sz)) (va_Qv (fun (u : Int32 × (Nat → Int32)) => Q u.1 u.2) (cB (dC, dI) (kT cyB cyI cyJ cyP) (va_A (wd00_26 a0 a0_seen v0_many a0_seen cyI f0_seen) sz) (fun u : Int32 × (Nat → Int32) => ((wd00_26 a0 a0_seen u.1 a0_seen cyI u.2) : va_W))) (va_A (wd00_26 a0 a0_seen v0_many a0_seen cyI f0_seen) sz)) 0 0 (va_A (wd00_26 a0 a0_seen v0_many a0_seen cyI f0_seen) sz) := by
  refine Met.ofW (cc := cX0_clear) (maxL := 2) (ret := none) (by decide) rfl ?_
  intro p e s m args below meth c s₁ B hml hv
  obtain ⟨rfl, hsz, hP, hK, hD0, hNw⟩ := hv
  have hx := B.exec
  have hb := B.bytes
  have hr := B.returns
  have hts := atoms_spec (ws := wsX0_clear) B.pre
  have hown : s.vm.findClass RX0 = some m.cls := findClass_of_methodNamed B.named
  have hlocks := B.notSynchronized
  subst hsz
  have hD := hD0.self (sz := s.heap.size)
  generalize hAe : va_A (wd00_26 a0 a0_seen v0_many a0_seen cyI f0_seen) s.heap.size = A at hD ⊢
  have hA : ∀ q : Nat, s.heap.size ≤ q → A q := fun q h => by rw [← hAe]; exact Or.inr h
  have hS : va_S A s.heap s.heap [] := va_S.rf
  have hP : va_P (dC, dI) vwCl (wd00_26 a0 a0_seen v0_many a0_seen cyI f0_seen) s.heap := hP
  have hl := lv_entry ([.ref a0]) (n := 2) (Nat.le_of_ble_eq_true rfl)
  rw [lg_entry_eq]
  generalize (lg_sl ([.ref a0]) ++ List.replicate (2 - (lg_sl ([.ref a0])).length) Slot.unset).toArray = ls at hl ⊢
  have hl : lv_has ls 2 [(0, .ref a0)] := hl
  have C0 : cfx p s m _ meth c cX0_clear none wsX0_clear RX0 2 A (dC, dI) (kT cyB cyI cyJ cyP) := ⟨hx, hb, hr, hts, hown, hlocks, hml, hA, hK, hNw⟩
  clear hAe
  obtain ⟨H, hH⟩ : ∃ H, H = s.heap := ⟨_, rfl⟩
  rw [← hH] at hP ⊢
  have hS : va_S A s.heap H [] := by rw [hH]; exact va_S.rf
  have hS := hS
  refine lv_aload_n hx hb (dt_of tkX0_clear_k0 0 rfl) rfl (lv_at hl 0 rfl) ?_
  refine lv_iconst (v := 0) hx hb (dt_of tkX0_clear_k0 1 rfl) (by decide) ?_
  refine va_put (D := (dC, dI)) (ci := 0) (v := .int 0) (ty := .int) (C := RX0) (T := TX0) (N := 2) hx hb hts ui_X0_clear_X0 tyX0 tyX0_ok nmX0 hown hK hP hD hS 0 rfl rfl 1 (by decide) (hts _ uw_X0_clear_f18) (fun _ h9 => h9) rfl (by decide +kernel) rfl rfl (Nat.le_of_ble_eq_true rfl) (dt_of tkX0_clear_k0 2 rfl) (fun H locs hP hD hS => ?_)
  have hP : va_P (dC, dI) vwCl (wd00_26 a0 a0_seen 0 a0_seen cyI f0_seen) H := hP
  have hD : va_D A (wd00_26 a0 a0_seen 0 a0_seen cyI f0_seen) := hD
  refine lv_iconst (v := 0) hx hb (dt_of tkX0_clear_k0 3 rfl) (by decide) ?_
  refine lv_istore_n (lv' := [(1, .int 0), (0, .ref a0)]) hx hb (dt_of tkX0_clear_k0 4 rfl) rfl hl (by decide) rfl (fun ls hl => ?_)
  obtain ⟨n9, hw⟩ := hw
  exact kl_X0_clear_7 dC dI cyB cyI cyJ cyP a0 a0_seen   Q  C0 n9 _ _ _ 0 f0_seen 0 hP hD hS (lv_sub hl [1, 0] rfl) hw
theorem ui_X8_isFaulty_X8 : ∀ w ∈ u_ws RX8 TX8 7, w ∈ wsX8_isFaulty := uiM mbX8_isFaulty euX8 (by decide +kernel)
theorem uw_X8_isFaulty_f37 : (.fieldLink RX8 37 "MarchHares$Tape" "fault" "I" : Cond) ∈ wsX8_isFaulty := mbX8_isFaulty 715 (by decide +kernel)
set_option maxHeartbeats 4000000 in
set_option maxRecDepth 100000 in
theorem ck_X8_isFaulty (l : Launch) (dC : Nat → ClassId) (dI : Nat → Nat → Nat) (cyB cyI cyJ cyP : ClassId) (a0 : Nat) (sz : Nat) (z0_bytes : Value) (z0_length : Value) (z0_at : Value) (z0_token : Value) (z0_filled : Value) (z0_faultPlace : Value) (v0_fault : Int32)   {Q : Int32 → Prop} (hw : wq_X8_isFaulty v0_fault   Q) : Met l yX8_isFaulty wsX8_isFaulty ({ frames := 0, cells := 0, slots := 0, locals := 0 }) (va_Pc [.ref a0] (cPc (dC, dI) (kT cyB cyI cyJ cyP) (wd00_27 a0 z0_bytes z0_length z0_at z0_token z0_filled v0_fault z0_faultPlace) sz)) (va_Qi (fun (r : Int32) (_ : Unit) => Q r ) (cB (dC, dI) (kT cyB cyI cyJ cyP) (va_A (wd00_27 a0 z0_bytes z0_length z0_at z0_token z0_filled v0_fault z0_faultPlace) sz) (fun u : Unit => ((wd00_27 a0 z0_bytes z0_length z0_at z0_token z0_filled v0_fault z0_faultPlace) : va_W))) (va_A (wd00_27 a0 z0_bytes z0_length z0_at z0_token z0_filled v0_fault z0_faultPlace) sz)) 0 0 (va_A (wd00_27 a0 z0_bytes z0_length z0_at z0_token z0_filled v0_fault z0_faultPlace) sz) := by
  refine Met.ofW (cc := cX8_isFaulty) (maxL := 1) (ret := (some .boolean)) (by decide) rfl ?_
  intro p e s m args below meth c s₁ B hml hv
  obtain ⟨rfl, hsz, hP, hK, hD0, hNw⟩ := hv
  have hx := B.exec
  have hb := B.bytes
  have hr := B.returns
  have hts := atoms_spec (ws := wsX8_isFaulty) B.pre
  have hown : s.vm.findClass RX8 = some m.cls := findClass_of_methodNamed B.named
  have hlocks := B.notSynchronized
  subst hsz
  have hD := hD0.self (sz := s.heap.size)
  generalize hAe : va_A (wd00_27 a0 z0_bytes z0_length z0_at z0_token z0_filled v0_fault z0_faultPlace) s.heap.size = A at hD ⊢
  have hA : ∀ q : Nat, s.heap.size ≤ q → A q := fun q h => by rw [← hAe]; exact Or.inr h
  have hS : va_S A s.heap s.heap [] := va_S.rf
  have hP : va_P (dC, dI) vwCl (wd00_27 a0 z0_bytes z0_length z0_at z0_token z0_filled v0_fault z0_faultPlace) s.heap := hP
  have hl := lv_entry ([.ref a0]) (n := 1) (Nat.le_of_ble_eq_true rfl)
  rw [lg_entry_eq]
  generalize (lg_sl ([.ref a0]) ++ List.replicate (1 - (lg_sl ([.ref a0])).length) Slot.unset).toArray = ls at hl ⊢
  have hl : lv_has ls 1 [(0, .ref a0)] := hl
  have C0 : cfx p s m _ meth c cX8_isFaulty (some .boolean) wsX8_isFaulty RX8 1 A (dC, dI) (kT cyB cyI cyJ cyP) := ⟨hx, hb, hr, hts, hown, hlocks, hml, hA, hK, hNw⟩
  clear hAe
  obtain ⟨H, hH⟩ : ∃ H, H = s.heap := ⟨_, rfl⟩
  rw [← hH] at hP ⊢
  have hS : va_S A s.heap H [] := by rw [hH]; exact va_S.rf
  have hS := hS
  refine lv_aload_n hx hb (dt_of tkX8_isFaulty_k0 0 rfl) rfl (lv_at hl 0 rfl) ?_
  refine va_get (D := (dC, dI)) (ci := 8) (v := .int v0_fault) (C := RX8) (T := TX8) (N := 7) hx hb hts ui_X8_isFaulty_X8 hown hK hP 0 rfl rfl 5 (by decide) (hts _ uw_X8_isFaulty_f37) (fun _ h9 => h9) rfl (dt_of tkX8_isFaulty_k0 1 rfl) ?_
  refine lv_if_eq (tgt := 11) hx hb (dt_of tkX8_isFaulty_k0 2 rfl) (by decide) (fun c1 => ?_) (fun c1 => ?_)
  · have hw := hw.1 c1
    refine lv_iconst (v := 0) hx hb (dt_of tkX8_isFaulty_k0 5 rfl) (by decide) ?_
    exact ((W.zret (v := 0) hx hb hr rfl (fun t ht hW => ⟨⟨0, (), rfl, hw, by rw [ht]; exact hP, va_K.moved hW.alike hK, hD⟩, hS.F ht⟩) hS.2.2 (dt_of tkX8_isFaulty_k0 6 rfl)))
  · have hw := hw.2 c1
    refine lv_iconst (v := 1) hx hb (dt_of tkX8_isFaulty_k0 3 rfl) (by decide) ?_
    refine lv_goto (tgt := 12) hx hb (dt_of tkX8_isFaulty_k0 4 rfl) (by decide) ?_
    exact ((W.zret (v := 1) hx hb hr rfl (fun t ht hW => ⟨⟨1, (), rfl, hw, by rw [ht]; exact hP, va_K.moved hW.alike hK, hD⟩, hS.F ht⟩) hS.2.2 (dt_of tkX8_isFaulty_k0 6 rfl)))
theorem ui_X8_skipBlanks_X8 : ∀ w ∈ u_ws RX8 TX8 7, w ∈ wsX8_skipBlanks := uiM mbX8_skipBlanks euX8 (by decide +kernel)
theorem uw_X8_skipBlanks_f11 : (.fieldLink RX8 11 "MarchHares$Tape" "bytes" "[B" : Cond) ∈ wsX8_skipBlanks := mbX8_skipBlanks 142 (by decide +kernel)
theorem uw_X8_skipBlanks_f28 : (.fieldLink RX8 28 "MarchHares$Tape" "length" "I" : Cond) ∈ wsX8_skipBlanks := mbX8_skipBlanks 712 (by decide +kernel)
theorem uw_X8_skipBlanks_f31 : (.fieldLink RX8 31 "MarchHares$Tape" "at" "I" : Cond) ∈ wsX8_skipBlanks := mbX8_skipBlanks 713 (by decide +kernel)
set_option maxHeartbeats 4000000 in
set_option maxRecDepth 100000 in
theorem kl_X8_skipBlanks_0 {p : Program} {l : Launch} {e : Env} {s : State} {m : MethodId} {args : Array Value} {below : List Frame} {meth : Method} {c : Code} {A : Nat → Prop} (dC : Nat → ClassId) (dI : Nat → Nat → Nat) (cyB cyI cyJ cyP : ClassId) (a0 a0_bytes : Nat) (z0_token : Value) (z0_filled : Value) (z0_fault : Value) (z0_faultPlace : Value) (v0_length : Int32) (f0_bytes : Nat → Int32) (Q : Int32 → Prop)  (C0 : cfx p s m args meth c cX8_skipBlanks none wsX8_skipBlanks RX8 1 A (dC, dI) (kT cyB cyI cyJ cyP)) : ∀ (n : Nat) (H : Heap) (locs : List Loc) (ls : Array Slot) (v0_at : Int32), va_P (dC, dI) vwCl (wd00_28 a0 a0_bytes v0_length v0_at z0_token z0_filled z0_fault z0_faultPlace a0_bytes cyB f0_bytes) H → va_D A (wd00_28 a0 a0_bytes v0_length v0_at z0_token z0_filled z0_fault z0_faultPlace a0_bytes cyB f0_bytes) → va_S A s.heap H locs → lv_has ls 1 [(0, .ref a0)] → wl_X8_skipBlanks_0 v0_length f0_bytes Q  n v0_at → W p l e (headSpec wsX8_skipBlanks ({ frames := 0, cells := 0, slots := 0, locals := 0 })).room s m args below meth c H locs 0 0 (MQ below (va_Qv (fun (u : Int32) => Q u) (cB (dC, dI) (kT cyB cyI cyJ cyP) A (fun u : Int32 => ((wd00_28 a0 a0_bytes v0_length u z0_token z0_filled z0_fault z0_faultPlace a0_bytes cyB f0_bytes) : va_W))) A) args s 0 0 A) (F0 m 0 ls []) := by
  obtain ⟨hx, hb, hr, hts, hown, hlocks, hml, hA, hK, hNw⟩ := id C0
  intro n
  induction n with
  | zero => intro H locs ls v0_at hP hD hS hl hw; exact False.elim hw
  | succ n ih =>
    intro H locs ls v0_at hP hD hS hl hw
    refine lv_aload_n hx hb (dt_of tkX8_skipBlanks_k0 0 rfl) rfl (lv_at hl 0 rfl) ?_
    refine va_get (D := (dC, dI)) (ci := 8) (v := .int v0_at) (C := RX8) (T := TX8) (N := 7) hx hb hts ui_X8_skipBlanks_X8 hown hK hP 0 rfl rfl 2 (by decide) (hts _ uw_X8_skipBlanks_f31) (fun _ h9 => h9) rfl (dt_of tkX8_skipBlanks_k0 1 rfl) ?_
    refine lv_aload_n hx hb (dt_of tkX8_skipBlanks_k0 2 rfl) rfl (lv_at hl 0 rfl) ?_
    refine va_get (D := (dC, dI)) (ci := 8) (v := .int v0_length) (C := RX8) (T := TX8) (N := 7) hx hb hts ui_X8_skipBlanks_X8 hown hK hP 0 rfl rfl 1 (by decide) (hts _ uw_X8_skipBlanks_f28) (fun _ h9 => h9) rfl (dt_of tkX8_skipBlanks_k0 3 rfl) ?_
    refine lv_icmp_ge (tgt := 38) hx hb (dt_of tkX8_skipBlanks_k0 4 rfl) (by decide) (fun c1 => ?_) (fun c1 => ?_)
    · have hw := hw.1 c1
      exact ((W.vret hx hb hr (fun t ht hW => ⟨⟨(v0_at), rfl, hw, by rw [ht]; exact hP, va_K.moved hW.alike hK, hD⟩, hS.F ht⟩) hS.2.2 (dt_of tkX8_skipBlanks_k31 3 rfl)))
    · have hw := hw.2 c1
      refine lv_aload_n hx hb (dt_of tkX8_skipBlanks_k0 5 rfl) rfl (lv_at hl 0 rfl) ?_
      refine va_get (D := (dC, dI)) (ci := 8) (v := .ref a0_bytes) (C := RX8) (T := TX8) (N := 7) hx hb hts ui_X8_skipBlanks_X8 hown hK hP 0 rfl rfl 0 (by decide) (hts _ uw_X8_skipBlanks_f11) (fun _ h9 => h9) rfl (dt_of tkX8_skipBlanks_k0 6 rfl) ?_
      refine lv_aload_n hx hb (dt_of tkX8_skipBlanks_k0 7 rfl) rfl (lv_at hl 0 rfl) ?_
      refine va_get (D := (dC, dI)) (ci := 8) (v := .int v0_at) (C := RX8) (T := TX8) (N := 7) hx hb hts ui_X8_skipBlanks_X8 hown hK hP 0 rfl rfl 2 (by decide) (hts _ uw_X8_skipBlanks_f31) (fun _ h9 => h9) rfl (dt_of tkX8_skipBlanks_k0 8 rfl) ?_
      obtain ⟨hi9, hw⟩ := hw
      refine va_bald hx hb hK hP 1 0 rfl rfl hi9 (dt_of tkX8_skipBlanks_k0 9 rfl) ?_
      refine lv_topi (fun x2 ex2 => ?_)
      have hw := hw x2 ex2
      refine lv_bipush (v := 32) hx hb (dt_of tkX8_skipBlanks_k0 10 rfl) (by decide) ?_
      refine lv_icmp_ne (tgt := 38) hx hb (dt_of tkX8_skipBlanks_k0 11 rfl) (by decide) (fun c3 => ?_) (fun c3 => ?_)
      · have hw := hw.1 c3
        exact ((W.vret hx hb hr (fun t ht hW => ⟨⟨(v0_at), rfl, hw, by rw [ht]; exact hP, va_K.moved hW.alike hK, hD⟩, hS.F ht⟩) hS.2.2 (dt_of tkX8_skipBlanks_k31 3 rfl)))
      · have hw := hw.2 c3
        refine lv_aload_n hx hb (dt_of tkX8_skipBlanks_k0 12 rfl) rfl (lv_at hl 0 rfl) ?_
        refine lv_dup hx hb (dt_of tkX8_skipBlanks_k0 13 rfl) rfl ?_
        refine va_get (D := (dC, dI)) (ci := 8) (v := .int v0_at) (C := RX8) (T := TX8) (N := 7) hx hb hts ui_X8_skipBlanks_X8 hown hK hP 0 rfl rfl 2 (by decide) (hts _ uw_X8_skipBlanks_f31) (fun _ h9 => h9) rfl (dt_of tkX8_skipBlanks_k0 14 rfl) ?_
        refine lv_iconst (v := 1) hx hb (dt_of tkX8_skipBlanks_k0 15 rfl) (by decide) ?_
        refine lv_iadd hx hb (dt_of tkX8_skipBlanks_k31 0 rfl) ?_
        refine lv_topi (fun x4 ex4 => ?_)
        have hw := hw x4 ex4
        refine va_put (D := (dC, dI)) (ci := 8) (v := .int x4) (ty := .int) (C := RX8) (T := TX8) (N := 7) hx hb hts ui_X8_skipBlanks_X8 tyX8 tyX8_ok nmX8 hown hK hP hD hS 0 rfl rfl 2 (by decide) (hts _ uw_X8_skipBlanks_f31) (fun _ h9 => h9) rfl (by decide +kernel) rfl rfl (Nat.le_of_ble_eq_true rfl) (dt_of tkX8_skipBlanks_k31 1 rfl) (fun H locs hP hD hS => ?_)
        have hP : va_P (dC, dI) vwCl (wd00_28 a0 a0_bytes v0_length x4 z0_token z0_filled z0_fault z0_faultPlace a0_bytes cyB f0_bytes) H := hP
        have hD : va_D A (wd00_28 a0 a0_bytes v0_length x4 z0_token z0_filled z0_fault z0_faultPlace a0_bytes cyB f0_bytes) := hD
        refine lv_goto (tgt := 0) hx hb (dt_of tkX8_skipBlanks_k31 2 rfl) (by decide) ?_
        exact ih _ _ _ x4 hP hD hS (lv_sub hl [0] rfl) hw
set_option maxHeartbeats 4000000 in
set_option maxRecDepth 100000 in
theorem ck_X8_skipBlanks (l : Launch) (dC : Nat → ClassId) (dI : Nat → Nat → Nat) (cyB cyI cyJ cyP : ClassId) (a0 a0_bytes : Nat) (sz : Nat) (z0_token : Value) (z0_filled : Value) (z0_fault : Value) (z0_faultPlace : Value) (v0_length : Int32) (f0_bytes : Nat → Int32) (v0_at : Int32)  {Q : Int32 → Prop} (hw : wq_X8_skipBlanks v0_length f0_bytes v0_at  Q) : Met l yX8_skipBlanks wsX8_skipBlanks ({ frames := 0, cells := 0, slots := 0, locals := 0 }) (va_Pc [.ref a0] (cPc (dC, dI) (kT cyB cyI cyJ cyP) (wd00_28 a0 a0_bytes v0_length v0_at z0_token z0_filled z0_fault z0_faultPlace a0_bytes cyB f0_bytes) sz)) (va_Qv (fun (u : Int32) => Q u) (cB (dC, dI) (kT cyB cyI cyJ cyP) (va_A (wd00_28 a0 a0_bytes v0_length v0_at z0_token z0_filled z0_fault z0_faultPlace a0_bytes cyB f0_bytes) sz) (fun u : Int32 => ((wd00_28 a0 a0_bytes v0_length u z0_token z0_filled z0_fault z0_faultPlace a0_bytes cyB f0_bytes) : va_W))) (va_A (wd00_28 a0 a0_bytes v0_length v0_at z0_token z0_filled z0_fault z0_faultPlace a0_bytes cyB f0_bytes) sz)) 0 0 (va_A (wd00_28 a0 a0_bytes v0_length v0_at z0_token z0_filled z0_fault z0_faultPlace a0_bytes cyB f0_bytes) sz) := by
  refine Met.ofW (cc := cX8_skipBlanks) (maxL := 1) (ret := none) (by decide) rfl ?_
  intro p e s m args below meth c s₁ B hml hv
  obtain ⟨rfl, hsz, hP, hK, hD0, hNw⟩ := hv
  have hx := B.exec
  have hb := B.bytes
  have hr := B.returns
  have hts := atoms_spec (ws := wsX8_skipBlanks) B.pre
  have hown : s.vm.findClass RX8 = some m.cls := findClass_of_methodNamed B.named
  have hlocks := B.notSynchronized
  subst hsz
  have hD := hD0.self (sz := s.heap.size)
  generalize hAe : va_A (wd00_28 a0 a0_bytes v0_length v0_at z0_token z0_filled z0_fault z0_faultPlace a0_bytes cyB f0_bytes) s.heap.size = A at hD ⊢
  have hA : ∀ q : Nat, s.heap.size ≤ q → A q := fun q h => by rw [← hAe]; exact Or.inr h
  have hS : va_S A s.heap s.heap [] := va_S.rf
  have hP : va_P (dC, dI) vwCl (wd00_28 a0 a0_bytes v0_length v0_at z0_token z0_filled z0_fault z0_faultPlace a0_bytes cyB f0_bytes) s.heap := hP
  have hl := lv_entry ([.ref a0]) (n := 1) (Nat.le_of_ble_eq_true rfl)
  rw [lg_entry_eq]
  generalize (lg_sl ([.ref a0]) ++ List.replicate (1 - (lg_sl ([.ref a0])).length) Slot.unset).toArray = ls at hl ⊢
  have hl : lv_has ls 1 [(0, .ref a0)] := hl
  have C0 : cfx p s m _ meth c cX8_skipBlanks none wsX8_skipBlanks RX8 1 A (dC, dI) (kT cyB cyI cyJ cyP) := ⟨hx, hb, hr, hts, hown, hlocks, hml, hA, hK, hNw⟩
  clear hAe
  obtain ⟨H, hH⟩ : ∃ H, H = s.heap := ⟨_, rfl⟩
  rw [← hH] at hP ⊢
  have hS : va_S A s.heap H [] := by rw [hH]; exact va_S.rf
  have hS := hS
  obtain ⟨n9, hw⟩ := hw
  exact kl_X8_skipBlanks_0 dC dI cyB cyI cyJ cyP a0 a0_bytes z0_token z0_filled z0_fault z0_faultPlace v0_length f0_bytes Q  C0 n9 _ _ _ v0_at hP hD hS (lv_sub hl [0] rfl) hw
theorem ui_X8_isEnded_X8 : ∀ w ∈ u_ws RX8 TX8 7, w ∈ wsX8_isEnded := uiM mbX8_isEnded euX8 (by decide +kernel)
theorem uw_X8_isEnded_f28 : (.fieldLink RX8 28 "MarchHares$Tape" "length" "I" : Cond) ∈ wsX8_isEnded := mbX8_isEnded 712 (by decide +kernel)
theorem uw_X8_isEnded_f31 : (.fieldLink RX8 31 "MarchHares$Tape" "at" "I" : Cond) ∈ wsX8_isEnded := mbX8_isEnded 713 (by decide +kernel)
set_option maxHeartbeats 4000000 in
set_option maxRecDepth 100000 in
theorem ck_X8_isEnded (l : Launch) (dC : Nat → ClassId) (dI : Nat → Nat → Nat) (cyB cyI cyJ cyP : ClassId) (a0 a0_bytes : Nat) (sz : Nat) (z0_token : Value) (z0_filled : Value) (z0_fault : Value) (z0_faultPlace : Value) (v0_length : Int32) (f0_bytes : Nat → Int32) (v0_at : Int32)  {Q : Int32 → Int32 → Prop} (hw : wq_X8_isEnded v0_length f0_bytes v0_at  Q) : Met l yX8_isEnded wsX8_isEnded ({ frames := 1, cells := 0, slots := 0, locals := 20 }) (va_Pc [.ref a0] (cPc (dC, dI) (kT cyB cyI cyJ cyP) (wd00_28 a0 a0_bytes v0_length v0_at z0_token z0_filled z0_fault z0_faultPlace a0_bytes cyB f0_bytes) sz)) (va_Qi (fun (r : Int32) (u : Int32) => Q r u) (cB (dC, dI) (kT cyB cyI cyJ cyP) (va_A (wd00_28 a0 a0_bytes v0_length v0_at z0_token z0_filled z0_fault z0_faultPlace a0_bytes cyB f0_bytes) sz) (fun u : Int32 => ((wd00_28 a0 a0_bytes v0_length u z0_token z0_filled z0_fault z0_faultPlace a0_bytes cyB f0_bytes) : va_W))) (va_A (wd00_28 a0 a0_bytes v0_length v0_at z0_token z0_filled z0_fault z0_faultPlace a0_bytes cyB f0_bytes) sz)) 0 0 (va_A (wd00_28 a0 a0_bytes v0_length v0_at z0_token z0_filled z0_fault z0_faultPlace a0_bytes cyB f0_bytes) sz) := by
  refine Met.ofW (cc := cX8_isEnded) (maxL := 1) (ret := (some .boolean)) (by decide) rfl ?_
  intro p e s m args below meth c s₁ B hml hv
  obtain ⟨rfl, hsz, hP, hK, hD0, hNw⟩ := hv
  have hx := B.exec
  have hb := B.bytes
  have hr := B.returns
  have hts := atoms_spec (ws := wsX8_isEnded) B.pre
  have hown : s.vm.findClass RX8 = some m.cls := findClass_of_methodNamed B.named
  have hlocks := B.notSynchronized
  subst hsz
  have hD := hD0.self (sz := s.heap.size)
  generalize hAe : va_A (wd00_28 a0 a0_bytes v0_length v0_at z0_token z0_filled z0_fault z0_faultPlace a0_bytes cyB f0_bytes) s.heap.size = A at hD ⊢
  have hA : ∀ q : Nat, s.heap.size ≤ q → A q := fun q h => by rw [← hAe]; exact Or.inr h
  have hS : va_S A s.heap s.heap [] := va_S.rf
  have hP : va_P (dC, dI) vwCl (wd00_28 a0 a0_bytes v0_length v0_at z0_token z0_filled z0_fault z0_faultPlace a0_bytes cyB f0_bytes) s.heap := hP
  have hl := lv_entry ([.ref a0]) (n := 1) (Nat.le_of_ble_eq_true rfl)
  rw [lg_entry_eq]
  generalize (lg_sl ([.ref a0]) ++ List.replicate (1 - (lg_sl ([.ref a0])).length) Slot.unset).toArray = ls at hl ⊢
  have hl : lv_has ls 1 [(0, .ref a0)] := hl
  have C0 : cfx p s m _ meth c cX8_isEnded (some .boolean) wsX8_isEnded RX8 1 A (dC, dI) (kT cyB cyI cyJ cyP) := ⟨hx, hb, hr, hts, hown, hlocks, hml, hA, hK, hNw⟩
  clear hAe
  obtain ⟨H, hH⟩ : ∃ H, H = s.heap := ⟨_, rfl⟩
  rw [← hH] at hP ⊢
  have hS : va_S A s.heap H [] := by rw [hH]; exact va_S.rf
  have hS := hS
  refine lv_aload_n hx hb (dt_of tkX8_isEnded_k0 0 rfl) rfl (lv_at hl 0 rfl) ?_
  obtain ⟨hCc, hPc, hDc, hFc⟩ := va_pick (ws' := (wd00_28 a0 a0_bytes v0_length v0_at z0_token z0_filled z0_fault z0_faultPlace a0_bytes cyB f0_bytes)) hP hD hS hA [0, 1] (by decide +kernel) rfl
  refine va_callv (va_runV (As := []) (rest := []) ⟨hx, hb, hml, hown, hts⟩ (ck_X8_skipBlanks l dC dI cyB cyI cyJ cyP a0 a0_bytes H.size (z0_token) (z0_filled) (z0_fault) (z0_faultPlace) v0_length f0_bytes v0_at  hw) (cwV 0 hts gX8_isEnded_X8_skipBlanks rfl rfl rfl (by decide +kernel) ⟨Nat.le_of_ble_eq_true rfl, Nat.le_of_ble_eq_true rfl⟩) ⟨cPc_blind, va_recv (q := (RX8, TX8, 7)) hK hPc (ci := 8) (q0 := 0) rfl rfl, cPc_pre hPc hK hDc hNw⟩ rfl rfl hl.1 rfl (lv_room (Nat.le_of_ble_eq_true rfl)) (dt_of tkX8_isEnded_k0 1 rfl) ⟨Nat.le_of_ble_eq_true rfl, Nat.le_of_ble_eq_true rfl⟩) hS (fun q _ h => hFc q h) hFc (fun u t H1 locs ht hvm hw hB hz1 hk1 hS => ?_)
  obtain ⟨x1, rfl⟩ : ∃ z, z = u := ⟨_, rfl⟩
  obtain ⟨hP1, hK1, hD1⟩ := hB
  rw [ht] at hP1
  obtain ⟨hP, hD⟩ := va_joinI (wr := []) (w1 := (wd00_28 a0 a0_bytes v0_length x1 z0_token z0_filled z0_fault z0_faultPlace a0_bytes cyB f0_bytes)) (wn := (wd00_28 a0 a0_bytes v0_length x1 z0_token z0_filled z0_fault z0_faultPlace a0_bytes cyB f0_bytes)) hP hD [0, 1] [] hCc rfl (by decide +kernel) (by decide +kernel) rfl hk1 hFc hP1 hD1
  generalize H1 = H at hP hS ⊢
  refine lv_aload_n hx hb (dt_of tkX8_isEnded_k0 2 rfl) rfl (lv_at hl 0 rfl) ?_
  refine va_get (D := (dC, dI)) (ci := 8) (v := .int x1) (C := RX8) (T := TX8) (N := 7) hx hb hts ui_X8_isEnded_X8 hown hK hP 0 rfl rfl 2 (by decide) (hts _ uw_X8_isEnded_f31) (fun _ h9 => h9) rfl (dt_of tkX8_isEnded_k0 3 rfl) ?_
  refine lv_aload_n hx hb (dt_of tkX8_isEnded_k0 4 rfl) rfl (lv_at hl 0 rfl) ?_
  refine va_get (D := (dC, dI)) (ci := 8) (v := .int v0_length) (C := RX8) (T := TX8) (N := 7) hx hb hts ui_X8_isEnded_X8 hown hK hP 0 rfl rfl 1 (by decide) (hts _ uw_X8_isEnded_f28) (fun _ h9 => h9) rfl (dt_of tkX8_isEnded_k0 5 rfl) ?_
  refine lv_icmp_lt (tgt := 19) hx hb (dt_of tkX8_isEnded_k0 6 rfl) (by decide) (fun c2 => ?_) (fun c2 => ?_)
  · have hw := hw.1 c2
    refine lv_iconst (v := 0) hx hb (dt_of tkX8_isEnded_k0 9 rfl) (by decide) ?_
    exact ((W.zret (v := 0) hx hb hr rfl (fun t ht hW => ⟨⟨0, (x1), rfl, hw, by rw [ht]; exact hP, va_K.moved hW.alike hK, hD⟩, hS.F ht⟩) hS.2.2 (dt_of tkX8_isEnded_k0 10 rfl)))
  · have hw := hw.2 c2
    refine lv_iconst (v := 1) hx hb (dt_of tkX8_isEnded_k0 7 rfl) (by decide) ?_
    refine lv_goto (tgt := 20) hx hb (dt_of tkX8_isEnded_k0 8 rfl) (by decide) ?_
    exact ((W.zret (v := 1) hx hb hr rfl (fun t ht hW => ⟨⟨1, (x1), rfl, hw, by rw [ht]; exact hP, va_K.moved hW.alike hK, hD⟩, hS.F ht⟩) hS.2.2 (dt_of tkX8_isEnded_k0 10 rfl)))
theorem ui_X8_digitAt_X8 : ∀ w ∈ u_ws RX8 TX8 7, w ∈ wsX8_digitAt := uiM mbX8_digitAt euX8 (by decide +kernel)
theorem uw_X8_digitAt_f11 : (.fieldLink RX8 11 "MarchHares$Tape" "bytes" "[B" : Cond) ∈ wsX8_digitAt := mbX8_digitAt 142 (by decide +kernel)
theorem uw_X8_digitAt_f28 : (.fieldLink RX8 28 "MarchHares$Tape" "length" "I" : Cond) ∈ wsX8_digitAt := mbX8_digitAt 712 (by decide +kernel)
set_option maxHeartbeats 4000000 in
set_option maxRecDepth 100000 in
theorem ck_X8_digitAt (l : Launch) (dC : Nat → ClassId) (dI : Nat → Nat → Nat) (cyB cyI cyJ cyP : ClassId) (a0 a0_bytes : Nat) (sz : Nat) (z0_at : Value) (z0_token : Value) (z0_filled : Value) (z0_fault : Value) (z0_faultPlace : Value) (v0_length : Int32) (f0_bytes : Nat → Int32)  (p1 : Int32) {Q : Int32 → Prop} (hw : wq_X8_digitAt v0_length f0_bytes  p1 Q) : Met l yX8_digitAt wsX8_digitAt ({ frames := 0, cells := 0, slots := 0, locals := 0 }) (va_Pc [.ref a0, .int p1] (cPc (dC, dI) (kT cyB cyI cyJ cyP) (wd00_29 a0 a0_bytes v0_length z0_at z0_token z0_filled z0_fault z0_faultPlace a0_bytes cyB f0_bytes) sz)) (va_Qi (fun (r : Int32) (_ : Unit) => Q r ) (cB (dC, dI) (kT cyB cyI cyJ cyP) (va_A (wd00_29 a0 a0_bytes v0_length z0_at z0_token z0_filled z0_fault z0_faultPlace a0_bytes cyB f0_bytes) sz) (fun u : Unit => ((wd00_29 a0 a0_bytes v0_length z0_at z0_token z0_filled z0_fault z0_faultPlace a0_bytes cyB f0_bytes) : va_W))) (va_A (wd00_29 a0 a0_bytes v0_length z0_at z0_token z0_filled z0_fault z0_faultPlace a0_bytes cyB f0_bytes) sz)) 0 0 (va_A (wd00_29 a0 a0_bytes v0_length z0_at z0_token z0_filled z0_fault z0_faultPlace a0_bytes cyB f0_bytes) sz) := by
  refine Met.ofW (cc := cX8_digitAt) (maxL := 2) (ret := (some .int)) (by decide) rfl ?_
  intro p e s m args below meth c s₁ B hml hv
  obtain ⟨rfl, hsz, hP, hK, hD0, hNw⟩ := hv
  have hx := B.exec
  have hb := B.bytes
  have hr := B.returns
  have hts := atoms_spec (ws := wsX8_digitAt) B.pre
  have hown : s.vm.findClass RX8 = some m.cls := findClass_of_methodNamed B.named
  have hlocks := B.notSynchronized
  subst hsz
  have hD := hD0.self (sz := s.heap.size)
  generalize hAe : va_A (wd00_29 a0 a0_bytes v0_length z0_at z0_token z0_filled z0_fault z0_faultPlace a0_bytes cyB f0_bytes) s.heap.size = A at hD ⊢
  have hA : ∀ q : Nat, s.heap.size ≤ q → A q := fun q h => by rw [← hAe]; exact Or.inr h
  have hS : va_S A s.heap s.heap [] := va_S.rf
  have hP : va_P (dC, dI) vwCl (wd00_29 a0 a0_bytes v0_length z0_at z0_token z0_filled z0_fault z0_faultPlace a0_bytes cyB f0_bytes) s.heap := hP
  have hl := lv_entry ([.ref a0, .int p1]) (n := 2) (Nat.le_of_ble_eq_true rfl)
  rw [lg_entry_eq]
  generalize (lg_sl ([.ref a0, .int p1]) ++ List.replicate (2 - (lg_sl ([.ref a0, .int p1])).length) Slot.unset).toArray = ls at hl ⊢
  have hl : lv_has ls 2 [(0, .ref a0), (1, .int p1)] := hl
  have C0 : cfx p s m _ meth c cX8_digitAt (some .int) wsX8_digitAt RX8 2 A (dC, dI) (kT cyB cyI cyJ cyP) := ⟨hx, hb, hr, hts, hown, hlocks, hml, hA, hK, hNw⟩
  clear hAe
  obtain ⟨H, hH⟩ : ∃ H, H = s.heap := ⟨_, rfl⟩
  rw [← hH] at hP ⊢
  have hS : va_S A s.heap H [] := by rw [hH]; exact va_S.rf
  have hS := hS
  refine lv_iload_n hx hb (dt_of tkX8_digitAt_k0 0 rfl) rfl (lv_at hl 1 rfl) ?_
  refine lv_aload_n hx hb (dt_of tkX8_digitAt_k0 1 rfl) rfl (lv_at hl 0 rfl) ?_
  refine va_get (D := (dC, dI)) (ci := 8) (v := .int v0_length) (C := RX8) (T := TX8) (N := 7) hx hb hts ui_X8_digitAt_X8 hown hK hP 0 rfl rfl 1 (by decide) (hts _ uw_X8_digitAt_f28) (fun _ h9 => h9) rfl (dt_of tkX8_digitAt_k0 2 rfl) ?_
  refine lv_icmp_ge (tgt := 30) hx hb (dt_of tkX8_digitAt_k0 3 rfl) (by decide) (fun c1 => ?_) (fun c1 => ?_)
  · have hw := hw.1 c1
    refine lv_iconst (v := (-1)) hx hb (dt_of tkX8_digitAt_k30 0 rfl) (by decide) ?_
    exact ((W.iret (v := (-1)) hx hb hr (fun t ht hW => ⟨⟨(-1), (), rfl, hw, by rw [ht]; exact hP, va_K.moved hW.alike hK, hD⟩, hS.F ht⟩) hS.2.2 (dt_of tkX8_digitAt_k30 1 rfl)))
  · have hw := hw.2 c1
    refine lv_aload_n hx hb (dt_of tkX8_digitAt_k0 4 rfl) rfl (lv_at hl 0 rfl) ?_
    refine va_get (D := (dC, dI)) (ci := 8) (v := .ref a0_bytes) (C := RX8) (T := TX8) (N := 7) hx hb hts ui_X8_digitAt_X8 hown hK hP 0 rfl rfl 0 (by decide) (hts _ uw_X8_digitAt_f11) (fun _ h9 => h9) rfl (dt_of tkX8_digitAt_k0 5 rfl) ?_
    refine lv_iload_n hx hb (dt_of tkX8_digitAt_k0 6 rfl) rfl (lv_at hl 1 rfl) ?_
    obtain ⟨hi9, hw⟩ := hw
    refine va_bald hx hb hK hP 1 0 rfl rfl hi9 (dt_of tkX8_digitAt_k0 7 rfl) ?_
    refine lv_topi (fun x2 ex2 => ?_)
    have hw := hw x2 ex2
    refine lv_bipush (v := 48) hx hb (dt_of tkX8_digitAt_k0 8 rfl) (by decide) ?_
    refine lv_icmp_lt (tgt := 30) hx hb (dt_of tkX8_digitAt_k0 9 rfl) (by decide) (fun c3 => ?_) (fun c3 => ?_)
    · have hw := hw.1 c3
      refine lv_iconst (v := (-1)) hx hb (dt_of tkX8_digitAt_k30 0 rfl) (by decide) ?_
      exact ((W.iret (v := (-1)) hx hb hr (fun t ht hW => ⟨⟨(-1), (), rfl, hw, by rw [ht]; exact hP, va_K.moved hW.alike hK, hD⟩, hS.F ht⟩) hS.2.2 (dt_of tkX8_digitAt_k30 1 rfl)))
    · have hw := hw.2 c3
      refine lv_aload_n hx hb (dt_of tkX8_digitAt_k0 10 rfl) rfl (lv_at hl 0 rfl) ?_
      refine va_get (D := (dC, dI)) (ci := 8) (v := .ref a0_bytes) (C := RX8) (T := TX8) (N := 7) hx hb hts ui_X8_digitAt_X8 hown hK hP 0 rfl rfl 0 (by decide) (hts _ uw_X8_digitAt_f11) (fun _ h9 => h9) rfl (dt_of tkX8_digitAt_k0 11 rfl) ?_
      refine lv_iload_n hx hb (dt_of tkX8_digitAt_k0 12 rfl) rfl (lv_at hl 1 rfl) ?_
      obtain ⟨hi9, hw⟩ := hw
      refine va_bald hx hb hK hP 1 0 rfl rfl hi9 (dt_of tkX8_digitAt_k0 13 rfl) ?_
      refine lv_topi (fun x4 ex4 => ?_)
      have hw := hw x4 ex4
      refine lv_bipush (v := 57) hx hb (dt_of tkX8_digitAt_k0 14 rfl) (by decide) ?_
      refine lv_icmp_le (tgt := 32) hx hb (dt_of tkX8_digitAt_k0 15 rfl) (by decide) (fun c5 => ?_) (fun c5 => ?_)
      · have hw := hw.1 c5
        refine lv_aload_n hx hb (dt_of tkX8_digitAt_k30 2 rfl) rfl (lv_at hl 0 rfl) ?_
        refine va_get (D := (dC, dI)) (ci := 8) (v := .ref a0_bytes) (C := RX8) (T := TX8) (N := 7) hx hb hts ui_X8_digitAt_X8 hown hK hP 0 rfl rfl 0 (by decide) (hts _ uw_X8_digitAt_f11) (fun _ h9 => h9) rfl (dt_of tkX8_digitAt_k30 3 rfl) ?_
        refine lv_iload_n hx hb (dt_of tkX8_digitAt_k30 4 rfl) rfl (lv_at hl 1 rfl) ?_
        obtain ⟨hi9, hw⟩ := hw
        refine va_bald hx hb hK hP 1 0 rfl rfl hi9 (dt_of tkX8_digitAt_k30 5 rfl) ?_
        refine lv_topi (fun x6 ex6 => ?_)
        have hw := hw x6 ex6
        refine lv_bipush (v := 48) hx hb (dt_of tkX8_digitAt_k30 6 rfl) (by decide) ?_
        refine lv_isub hx hb (dt_of tkX8_digitAt_k30 7 rfl) ?_
        exact ((W.iret (v := (x6 - 48)) hx hb hr (fun t ht hW => ⟨⟨(x6 - 48), (), rfl, hw, by rw [ht]; exact hP, va_K.moved hW.alike hK, hD⟩, hS.F ht⟩) hS.2.2 (dt_of tkX8_digitAt_k30 8 rfl)))
      · have hw := hw.2 c5
        refine lv_iconst (v := (-1)) hx hb (dt_of tkX8_digitAt_k30 0 rfl) (by decide) ?_
        exact ((W.iret (v := (-1)) hx hb hr (fun t ht hW => ⟨⟨(-1), (), rfl, hw, by rw [ht]; exact hP, va_K.moved hW.alike hK, hD⟩, hS.F ht⟩) hS.2.2 (dt_of tkX8_digitAt_k30 1 rfl)))
theorem ui_X8_blame_X8 : ∀ w ∈ u_ws RX8 TX8 7, w ∈ wsX8_blame := uiM mbX8_blame euX8 (by decide +kernel)
theorem uw_X8_blame_f15 : (.fieldLink RX8 15 "MarchHares$Tape" "faultPlace" "I" : Cond) ∈ wsX8_blame := mbX8_blame 143 (by decide +kernel)
theorem uw_X8_blame_f37 : (.fieldLink RX8 37 "MarchHares$Tape" "fault" "I" : Cond) ∈ wsX8_blame := mbX8_blame 715 (by decide +kernel)
set_option maxHeartbeats 4000000 in
set_option maxRecDepth 100000 in
theorem ck_X8_blame (l : Launch) (dC : Nat → ClassId) (dI : Nat → Nat → Nat) (cyB cyI cyJ cyP : ClassId) (a0 : Nat) (sz : Nat) (z0_bytes : Value) (z0_length : Value) (z0_at : Value) (z0_token : Value) (z0_filled : Value)  (v0_fault : Int32) (v0_faultPlace : Int32) (p1 : Int32) (p2 : Int32) {Q : Int32 → Int32 → Prop} (hw : wq_X8_blame  v0_fault v0_faultPlace p1 p2 Q) : Met l yX8_blame wsX8_blame ({ frames := 0, cells := 0, slots := 0, locals := 0 }) (va_Pc [.ref a0, .int p1, .int p2] (cPc (dC, dI) (kT cyB cyI cyJ cyP) (wd00_30 a0 z0_bytes z0_length z0_at z0_token z0_filled v0_fault v0_faultPlace) sz)) (va_Qv (fun (u : Int32 × Int32) => Q u.1 u.2) (cB (dC, dI) (kT cyB cyI cyJ cyP) (va_A (wd00_30 a0 z0_bytes z0_length z0_at z0_token z0_filled v0_fault v0_faultPlace) sz) (fun u : Int32 × Int32 => ((wd00_30 a0 z0_bytes z0_length z0_at z0_token z0_filled u.1 u.2) : va_W))) (va_A (wd00_30 a0 z0_bytes z0_length z0_at z0_token z0_filled v0_fault v0_faultPlace) sz)) 0 0 (va_A (wd00_30 a0 z0_bytes z0_length z0_at z0_token z0_filled v0_fault v0_faultPlace) sz) := by
  refine Met.ofW (cc := cX8_blame) (maxL := 3) (ret := none) (by decide) rfl ?_
  intro p e s m args below meth c s₁ B hml hv
  obtain ⟨rfl, hsz, hP, hK, hD0, hNw⟩ := hv
  have hx := B.exec
  have hb := B.bytes
  have hr := B.returns
  have hts := atoms_spec (ws := wsX8_blame) B.pre
  have hown : s.vm.findClass RX8 = some m.cls := findClass_of_methodNamed B.named
  have hlocks := B.notSynchronized
  subst hsz
  have hD := hD0.self (sz := s.heap.size)
  generalize hAe : va_A (wd00_30 a0 z0_bytes z0_length z0_at z0_token z0_filled v0_fault v0_faultPlace) s.heap.size = A at hD ⊢
  have hA : ∀ q : Nat, s.heap.size ≤ q → A q := fun q h => by rw [← hAe]; exact Or.inr h
  have hS : va_S A s.heap s.heap [] := va_S.rf
  have hP : va_P (dC, dI) vwCl (wd00_30 a0 z0_bytes z0_length z0_at z0_token z0_filled v0_fault v0_faultPlace) s.heap := hP
  have hl := lv_entry ([.ref a0, .int p1, .int p2]) (n := 3) (Nat.le_of_ble_eq_true rfl)
  rw [lg_entry_eq]
  generalize (lg_sl ([.ref a0, .int p1, .int p2]) ++ List.replicate (3 - (lg_sl ([.ref a0, .int p1, .int p2])).length) Slot.unset).toArray = ls at hl ⊢
  have hl : lv_has ls 3 [(0, .ref a0), (1, .int p1), (2, .int p2)] := hl
  have C0 : cfx p s m _ meth c cX8_blame none wsX8_blame RX8 3 A (dC, dI) (kT cyB cyI cyJ cyP) := ⟨hx, hb, hr, hts, hown, hlocks, hml, hA, hK, hNw⟩
  clear hAe
  obtain ⟨H, hH⟩ : ∃ H, H = s.heap := ⟨_, rfl⟩
  rw [← hH] at hP ⊢
  have hS : va_S A s.heap H [] := by rw [hH]; exact va_S.rf
  have hS := hS
  refine lv_aload_n hx hb (dt_of tkX8_blame_k0 0 rfl) rfl (lv_at hl 0 rfl) ?_
  refine va_get (D := (dC, dI)) (ci := 8) (v := .int v0_fault) (C := RX8) (T := TX8) (N := 7) hx hb hts ui_X8_blame_X8 hown hK hP 0 rfl rfl 5 (by decide) (hts _ uw_X8_blame_f37) (fun _ h9 => h9) rfl (dt_of tkX8_blame_k0 1 rfl) ?_
  refine lv_if_ne (tgt := 17) hx hb (dt_of tkX8_blame_k0 2 rfl) (by decide) (fun c1 => ?_) (fun c1 => ?_)
  · have hw := hw.1 c1
    exact ((W.vret hx hb hr (fun t ht hW => ⟨⟨(v0_fault, v0_faultPlace), rfl, hw, by rw [ht]; exact hP, va_K.moved hW.alike hK, hD⟩, hS.F ht⟩) hS.2.2 (dt_of tkX8_blame_k0 9 rfl)))
  · have hw := hw.2 c1
    refine lv_aload_n hx hb (dt_of tkX8_blame_k0 3 rfl) rfl (lv_at hl 0 rfl) ?_
    refine lv_iload_n hx hb (dt_of tkX8_blame_k0 4 rfl) rfl (lv_at hl 1 rfl) ?_
    refine va_put (D := (dC, dI)) (ci := 8) (v := .int p1) (ty := .int) (C := RX8) (T := TX8) (N := 7) hx hb hts ui_X8_blame_X8 tyX8 tyX8_ok nmX8 hown hK hP hD hS 0 rfl rfl 5 (by decide) (hts _ uw_X8_blame_f37) (fun _ h9 => h9) rfl (by decide +kernel) rfl rfl (Nat.le_of_ble_eq_true rfl) (dt_of tkX8_blame_k0 5 rfl) (fun H locs hP hD hS => ?_)
    have hP : va_P (dC, dI) vwCl (wd00_30 a0 z0_bytes z0_length z0_at z0_token z0_filled p1 v0_faultPlace) H := hP
    have hD : va_D A (wd00_30 a0 z0_bytes z0_length z0_at z0_token z0_filled p1 v0_faultPlace) := hD
    refine lv_aload_n hx hb (dt_of tkX8_blame_k0 6 rfl) rfl (lv_at hl 0 rfl) ?_
    refine lv_iload_n hx hb (dt_of tkX8_blame_k0 7 rfl) rfl (lv_at hl 2 rfl) ?_
    refine va_put (D := (dC, dI)) (ci := 8) (v := .int p2) (ty := .int) (C := RX8) (T := TX8) (N := 7) hx hb hts ui_X8_blame_X8 tyX8 tyX8_ok nmX8 hown hK hP hD hS 0 rfl rfl 6 (by decide) (hts _ uw_X8_blame_f15) (fun _ h9 => h9) rfl (by decide +kernel) rfl rfl (Nat.le_of_ble_eq_true rfl) (dt_of tkX8_blame_k0 8 rfl) (fun H locs hP hD hS => ?_)
    have hP : va_P (dC, dI) vwCl (wd00_30 a0 z0_bytes z0_length z0_at z0_token z0_filled p1 p2) H := hP
    have hD : va_D A (wd00_30 a0 z0_bytes z0_length z0_at z0_token z0_filled p1 p2) := hD
    exact ((W.vret hx hb hr (fun t ht hW => ⟨⟨(p1, p2), rfl, hw, by rw [ht]; exact hP, va_K.moved hW.alike hK, hD⟩, hS.F ht⟩) hS.2.2 (dt_of tkX8_blame_k0 9 rfl)))
theorem ui_X8_number_X8 : ∀ w ∈ u_ws RX8 TX8 7, w ∈ wsX8_number := uiM mbX8_number euX8 (by decide +kernel)
theorem uw_X8_number_f28 : (.fieldLink RX8 28 "MarchHares$Tape" "length" "I" : Cond) ∈ wsX8_number := mbX8_number 712 (by decide +kernel)
theorem uw_X8_number_f31 : (.fieldLink RX8 31 "MarchHares$Tape" "at" "I" : Cond) ∈ wsX8_number := mbX8_number 713 (by decide +kernel)
theorem uw_X8_number_f34 : (.fieldLink RX8 34 "MarchHares$Tape" "token" "I" : Cond) ∈ wsX8_number := mbX8_number 714 (by decide +kernel)
theorem uw_X8_number_iniRX10 : (.initialized RX10 : Cond) ∈ wsX8_number := mbX8_number 2 (by decide +kernel)
theorem uw_X8_number_inim : (.initialized "java/lang/Math" : Cond) ∈ wsX8_number := mbX8_number 651 (by decide +kernel)
theorem uw_X8_number_k78 : (.constant RX8 78 (100000) : Cond) ∈ wsX8_number := mbX8_number 973 (by decide +kernel)
theorem uw_X8_number_m22 : (.methodLink RX8 22 Lib.Math.min.name : Cond) ∈ wsX8_number := mbX8_number 711 (by decide +kernel)
theorem uw_X8_number_mcmin : (.code Lib.Math.min.name Lib.Math.min.code 2 (some .int) : Cond) ∈ wsX8_number := mbX8_number 652 (by decide +kernel)
theorem uw_X8_number_msmin : (.static Lib.Math.min.name : Cond) ∈ wsX8_number := mbX8_number 650 (by decide +kernel)
theorem uw_X8_number_stX10_within : (.static yX10_within : Cond) ∈ wsX8_number := mbX8_number 658 (by decide +kernel)
set_option maxHeartbeats 4000000 in
set_option maxRecDepth 100000 in
theorem kb_X8_number_97 {p : Program} {l : Launch} {e : Env} {s : State} {m : MethodId} {args : Array Value} {below : List Frame} {meth : Method} {c : Code} {A : Nat → Prop} (dC : Nat → ClassId) (dI : Nat → Nat → Nat) (cyB cyI cyJ cyP : ClassId) (a0 a0_bytes : Nat) (z0_filled : Value) (v0_length : Int32) (f0_bytes : Nat → Int32) (Q : Int32 → Int32 → Int32 → Int32 → Int32 → Prop)  (C0 : cfx p s m args meth c cX8_number (some .int) wsX8_number RX8 4 A (dC, dI) (kT cyB cyI cyJ cyP)) : ∀ (H : Heap) (locs : List Loc) (ls : Array Slot) (v0_at : Int32) (v0_fault : Int32) (v0_faultPlace : Int32) (v0_token : Int32) (l1 : Int32) (l2 : Int32) (l3 : Int32), va_P (dC, dI) vwCl (wd00_31 a0 a0_bytes v0_length v0_at v0_token z0_filled v0_fault v0_faultPlace a0_bytes cyB f0_bytes) H → va_D A (wd00_31 a0 a0_bytes v0_length v0_at v0_token z0_filled v0_fault v0_faultPlace a0_bytes cyB f0_bytes) → va_S A s.heap H locs → lv_has ls 4 [(0, .ref a0), (1, .int l1), (2, .int l2), (3, .int l3)] → wb_X8_number_97 v0_length f0_bytes Q  v0_at v0_fault v0_faultPlace v0_token l1 l2 l3 → W p l e (headSpec wsX8_number ({ frames := 1, cells := 0, slots := 0, locals := 32 })).room s m args below meth c H locs 0 0 (MQ below (va_Qi (fun (r : Int32) (u : Int32 × Int32 × Int32 × Int32) => Q r u.1 u.2.1 u.2.2.1 u.2.2.2) (cB (dC, dI) (kT cyB cyI cyJ cyP) A (fun u : Int32 × Int32 × Int32 × Int32 => ((wd00_31 a0 a0_bytes v0_length u.1 u.2.2.2 z0_filled u.2.1 u.2.2.1 a0_bytes cyB f0_bytes) : va_W))) A) args s 0 0 A) (F0 m 97 ls []) := by
  obtain ⟨hx, hb, hr, hts, hown, hlocks, hml, hA, hK, hNw⟩ := id C0
  intro H locs ls v0_at v0_fault v0_faultPlace v0_token l1 l2 l3 hP hD hS hl hw
  refine lv_iload_n hx hb (dt_of tkX8_number_k90 3 rfl) rfl (lv_at hl 3 rfl) ?_
  refine lv_iload_n hx hb (dt_of tkX8_number_k90 4 rfl) rfl (lv_at hl 1 rfl) ?_
  refine lv_iload_n hx hb (dt_of tkX8_number_k90 5 rfl) rfl (lv_at hl 2 rfl) ?_
  obtain ⟨hCc, hPc, hDc, hFc⟩ := va_pick (ws' := []) hP hD hS hA [] (by decide +kernel) rfl
  refine va_calli (va_runSN (As := [.int l3, .int l1, .int l2]) (rest := []) ⟨hx, hb, hml, hown, hts⟩ (ck_X10_within l dC dI cyB cyI cyJ cyP  H.size    l3 l1 l2 hw) ⟨(va_cnB 3 hts gX8_number_X10_within_n79 rfl rfl rfl (nw_15 hNw) (hts _ uw_X8_number_iniRX10) (by decide +kernel) ⟨Nat.le_of_ble_eq_true rfl, Nat.le_of_ble_eq_true rfl⟩), (hts _ uw_X8_number_stX10_within), trivial⟩ ⟨cPc_blind, cPc_pre hPc hK hDc hNw⟩ rfl rfl hl.1 rfl (lv_room (Nat.le_of_ble_eq_true rfl)) (dt_of tkX8_number_k90 6 rfl) ⟨Nat.le_of_ble_eq_true rfl, Nat.le_of_ble_eq_true rfl⟩) hS (fun q _ h => hFc q h) hFc (fun r14 u t H1 locs ht hvm hw hB hz1 hk1 hS => ?_)
  obtain ⟨hP1, hK1, hD1⟩ := hB
  rw [ht] at hP1
  obtain ⟨hP, hD⟩ := va_joinI (wr := (wd00_31 a0 a0_bytes v0_length v0_at v0_token z0_filled v0_fault v0_faultPlace a0_bytes cyB f0_bytes)) (w1 := []) (wn := (wd00_31 a0 a0_bytes v0_length v0_at v0_token z0_filled v0_fault v0_faultPlace a0_bytes cyB f0_bytes)) hP hD [] [0, 1] hCc rfl (by decide +kernel) (by decide +kernel) rfl hk1 hFc hP1 hD1
  generalize H1 = H at hP hS ⊢
  refine lv_if_ne (tgt := 115) hx hb (dt_of tkX8_number_k90 7 rfl) (by decide) (fun c15 => ?_) (fun c15 => ?_)
  · have hw := hw.1 c15
    refine lv_iload_n hx hb (dt_of tkX8_number_k90 13 rfl) rfl (lv_at hl 3 rfl) ?_
    exact ((W.iret (v := l3) hx hb hr (fun t ht hW => ⟨⟨l3, (v0_at, v0_fault, v0_faultPlace, v0_token), rfl, hw, by rw [ht]; exact hP, va_K.moved hW.alike hK, hD⟩, hS.F ht⟩) hS.2.2 (dt_of tkX8_number_k90 14 rfl)))
  · have hw := hw.2 c15
    refine lv_aload_n hx hb (dt_of tkX8_number_k90 8 rfl) rfl (lv_at hl 0 rfl) ?_
    refine lv_iconst (v := 2) hx hb (dt_of tkX8_number_k90 9 rfl) (by decide) ?_
    refine lv_aload_n hx hb (dt_of tkX8_number_k90 10 rfl) rfl (lv_at hl 0 rfl) ?_
    refine va_get (D := (dC, dI)) (ci := 8) (v := .int v0_token) (C := RX8) (T := TX8) (N := 7) hx hb hts ui_X8_number_X8 hown hK hP 0 rfl rfl 3 (by decide) (hts _ uw_X8_number_f34) (fun _ h9 => h9) rfl (dt_of tkX8_number_k90 11 rfl) ?_
    obtain ⟨hCc, hPc, hDc, hFc⟩ := va_pick (ws' := (wd00_32 a0 a0_bytes v0_length v0_at v0_token z0_filled v0_fault v0_faultPlace)) hP hD hS hA [0] (by decide +kernel) rfl
    refine va_callv (va_runV (As := [.int 2, .int v0_token]) (rest := []) ⟨hx, hb, hml, hown, hts⟩ (ck_X8_blame l dC dI cyB cyI cyJ cyP a0 H.size (.ref a0_bytes) (.int v0_length) (.int v0_at) (.int v0_token) (z0_filled)  v0_fault v0_faultPlace 2 v0_token hw) (cwV 2 hts gX8_number_X8_blame rfl rfl rfl (by decide +kernel) ⟨Nat.le_of_ble_eq_true rfl, Nat.le_of_ble_eq_true rfl⟩) ⟨cPc_blind, va_recv (q := (RX8, TX8, 7)) hK hPc (ci := 8) (q0 := 0) rfl rfl, cPc_pre hPc hK hDc hNw⟩ rfl rfl hl.1 rfl (lv_room (Nat.le_of_ble_eq_true rfl)) (dt_of tkX8_number_k90 12 rfl) ⟨Nat.le_of_ble_eq_true rfl, Nat.le_of_ble_eq_true rfl⟩) hS (fun q _ h => hFc q h) hFc (fun u t H1 locs ht hvm hw hB hz1 hk1 hS => ?_)
    obtain ⟨x16, x17⟩ := u
    obtain ⟨hP1, hK1, hD1⟩ := hB
    rw [ht] at hP1
    obtain ⟨hP, hD⟩ := va_joinN (wr := (wd00_33 a0_bytes cyB f0_bytes)) (w1 := (wd00_32 a0 a0_bytes v0_length v0_at v0_token z0_filled x16 x17)) (wn := (wd00_31 a0 a0_bytes v0_length v0_at v0_token z0_filled x16 x17 a0_bytes cyB f0_bytes)) hP hD [0] [1] [1, 0] hCc rfl (by decide +kernel) (by decide +kernel) (by decide +kernel) rfl hk1 hFc hP1 hD1
    generalize H1 = H at hP hS ⊢
    refine lv_iload_n hx hb (dt_of tkX8_number_k90 13 rfl) rfl (lv_at hl 3 rfl) ?_
    exact ((W.iret (v := l3) hx hb hr (fun t ht hW => ⟨⟨l3, (v0_at, x16, x17, v0_token), rfl, hw, by rw [ht]; exact hP, va_K.moved hW.alike hK, hD⟩, hS.F ht⟩) hS.2.2 (dt_of tkX8_number_k90 14 rfl)))
set_option maxHeartbeats 4000000 in
set_option maxRecDepth 100000 in
theorem kl_X8_number_43 {p : Program} {l : Launch} {e : Env} {s : State} {m : MethodId} {args : Array Value} {below : List Frame} {meth : Method} {c : Code} {A : Nat → Prop} (dC : Nat → ClassId) (dI : Nat → Nat → Nat) (cyB cyI cyJ cyP : ClassId) (a0 a0_bytes : Nat) (z0_filled : Value) (v0_length : Int32) (f0_bytes : Nat → Int32) (Q : Int32 → Int32 → Int32 → Int32 → Int32 → Prop)  (C0 : cfx p s m args meth c cX8_number (some .int) wsX8_number RX8 4 A (dC, dI) (kT cyB cyI cyJ cyP)) : ∀ (n : Nat) (H : Heap) (locs : List Loc) (ls : Array Slot) (v0_at : Int32) (v0_fault : Int32) (v0_faultPlace : Int32) (v0_token : Int32) (l1 : Int32) (l2 : Int32) (l3 : Int32), va_P (dC, dI) vwCl (wd00_31 a0 a0_bytes v0_length v0_at v0_token z0_filled v0_fault v0_faultPlace a0_bytes cyB f0_bytes) H → va_D A (wd00_31 a0 a0_bytes v0_length v0_at v0_token z0_filled v0_fault v0_faultPlace a0_bytes cyB f0_bytes) → va_S A s.heap H locs → lv_has ls 4 [(0, .ref a0), (1, .int l1), (2, .int l2), (3, .int l3)] → wl_X8_number_43 v0_length f0_bytes Q  n v0_at v0_fault v0_faultPlace v0_token l1 l2 l3 → W p l e (headSpec wsX8_number ({ frames := 1, cells := 0, slots := 0, locals := 32 })).room s m args below meth c H locs 0 0 (MQ below (va_Qi (fun (r : Int32) (u : Int32 × Int32 × Int32 × Int32) => Q r u.1 u.2.1 u.2.2.1 u.2.2.2) (cB (dC, dI) (kT cyB cyI cyJ cyP) A (fun u : Int32 × Int32 × Int32 × Int32 => ((wd00_31 a0 a0_bytes v0_length u.1 u.2.2.2 z0_filled u.2.1 u.2.2.1 a0_bytes cyB f0_bytes) : va_W))) A) args s 0 0 A) (F0 m 43 ls []) := by
  obtain ⟨hx, hb, hr, hts, hown, hlocks, hml, hA, hK, hNw⟩ := id C0
  intro n
  induction n with
  | zero => intro H locs ls v0_at v0_fault v0_faultPlace v0_token l1 l2 l3 hP hD hS hl hw; exact False.elim hw
  | succ n ih =>
    intro H locs ls v0_at v0_fault v0_faultPlace v0_token l1 l2 l3 hP hD hS hl hw
    refine lv_aload_n hx hb (dt_of tkX8_number_k32 7 rfl) rfl (lv_at hl 0 rfl) ?_
    refine va_get (D := (dC, dI)) (ci := 8) (v := .int v0_at) (C := RX8) (T := TX8) (N := 7) hx hb hts ui_X8_number_X8 hown hK hP 0 rfl rfl 2 (by decide) (hts _ uw_X8_number_f31) (fun _ h9 => h9) rfl (dt_of tkX8_number_k32 8 rfl) ?_
    refine lv_aload_n hx hb (dt_of tkX8_number_k32 9 rfl) rfl (lv_at hl 0 rfl) ?_
    refine va_get (D := (dC, dI)) (ci := 8) (v := .int v0_length) (C := RX8) (T := TX8) (N := 7) hx hb hts ui_X8_number_X8 hown hK hP 0 rfl rfl 1 (by decide) (hts _ uw_X8_number_f28) (fun _ h9 => h9) rfl (dt_of tkX8_number_k32 10 rfl) ?_
    refine lv_icmp_ge (tgt := 97) hx hb (dt_of tkX8_number_k32 11 rfl) (by decide) (fun c8 => ?_) (fun c8 => ?_)
    · have hw := hw.1 c8
      exact kb_X8_number_97 dC dI cyB cyI cyJ cyP a0 a0_bytes z0_filled v0_length f0_bytes Q  C0 _ _ _ v0_at v0_fault v0_faultPlace v0_token l1 l2 l3 hP hD hS (lv_sub hl [0, 1, 2, 3] rfl) hw
    · have hw := hw.2 c8
      refine lv_aload_n hx hb (dt_of tkX8_number_k32 12 rfl) rfl (lv_at hl 0 rfl) ?_
      refine lv_aload_n hx hb (dt_of tkX8_number_k32 13 rfl) rfl (lv_at hl 0 rfl) ?_
      refine va_get (D := (dC, dI)) (ci := 8) (v := .int v0_at) (C := RX8) (T := TX8) (N := 7) hx hb hts ui_X8_number_X8 hown hK hP 0 rfl rfl 2 (by decide) (hts _ uw_X8_number_f31) (fun _ h9 => h9) rfl (dt_of tkX8_number_k32 14 rfl) ?_
      obtain ⟨hCc, hPc, hDc, hFc⟩ := va_pick (ws' := (wd00_31 a0 a0_bytes v0_length v0_at v0_token z0_filled v0_fault v0_faultPlace a0_bytes cyB f0_bytes)) hP hD hS hA [0, 1] (by decide +kernel) rfl
      refine va_calli (va_runV (As := [.int v0_at]) (rest := []) ⟨hx, hb, hml, hown, hts⟩ (ck_X8_digitAt l dC dI cyB cyI cyJ cyP a0 a0_bytes H.size (.int v0_at) (.int v0_token) (z0_filled) (.int v0_fault) (.int v0_faultPlace) v0_length f0_bytes  v0_at hw) (cwV 1 hts gX8_number_X8_digitAt rfl rfl rfl (by decide +kernel) ⟨Nat.le_of_ble_eq_true rfl, Nat.le_of_ble_eq_true rfl⟩) ⟨cPc_blind, va_recv (q := (RX8, TX8, 7)) hK hPc (ci := 8) (q0 := 0) rfl rfl, cPc_pre hPc hK hDc hNw⟩ rfl rfl hl.1 rfl (lv_room (Nat.le_of_ble_eq_true rfl)) (dt_of tkX8_number_k32 15 rfl) ⟨Nat.le_of_ble_eq_true rfl, Nat.le_of_ble_eq_true rfl⟩) hS (fun q _ h => hFc q h) hFc (fun r9 u t H1 locs ht hvm hw hB hz1 hk1 hS => ?_)
      obtain ⟨hP1, hK1, hD1⟩ := hB
      rw [ht] at hP1
      obtain ⟨hP, hD⟩ := va_joinI (wr := []) (w1 := (wd00_31 a0 a0_bytes v0_length v0_at v0_token z0_filled v0_fault v0_faultPlace a0_bytes cyB f0_bytes)) (wn := (wd00_31 a0 a0_bytes v0_length v0_at v0_token z0_filled v0_fault v0_faultPlace a0_bytes cyB f0_bytes)) hP hD [0, 1] [] hCc rfl (by decide +kernel) (by decide +kernel) rfl hk1 hFc hP1 hD1
      generalize H1 = H at hP hS ⊢
      refine lv_if_lt (tgt := 97) hx hb (dt_of tkX8_number_k62 0 rfl) (by decide) (fun c10 => ?_) (fun c10 => ?_)
      · have hw := hw.1 c10
        exact kb_X8_number_97 dC dI cyB cyI cyJ cyP a0 a0_bytes z0_filled v0_length f0_bytes Q  C0 _ _ _ v0_at v0_fault v0_faultPlace v0_token l1 l2 l3 hP hD hS (lv_sub hl [0, 1, 2, 3] rfl) hw
      · have hw := hw.2 c10
        refine lv_ldc (v := 100000) hx hb hown (hts _ uw_X8_number_k78) (dt_of tkX8_number_k62 1 rfl) ?_
        refine lv_iload_n hx hb (dt_of tkX8_number_k62 2 rfl) rfl (lv_at hl 3 rfl) ?_
        refine lv_bipush (v := 10) hx hb (dt_of tkX8_number_k62 3 rfl) (by decide) ?_
        refine lv_imul hx hb (dt_of tkX8_number_k62 4 rfl) ?_
        refine lv_aload_n hx hb (dt_of tkX8_number_k62 5 rfl) rfl (lv_at hl 0 rfl) ?_
        refine lv_aload_n hx hb (dt_of tkX8_number_k62 6 rfl) rfl (lv_at hl 0 rfl) ?_
        refine va_get (D := (dC, dI)) (ci := 8) (v := .int v0_at) (C := RX8) (T := TX8) (N := 7) hx hb hts ui_X8_number_X8 hown hK hP 0 rfl rfl 2 (by decide) (hts _ uw_X8_number_f31) (fun _ h9 => h9) rfl (dt_of tkX8_number_k62 7 rfl) ?_
        obtain ⟨hCc, hPc, hDc, hFc⟩ := va_pick (ws' := (wd00_31 a0 a0_bytes v0_length v0_at v0_token z0_filled v0_fault v0_faultPlace a0_bytes cyB f0_bytes)) hP hD hS hA [0, 1] (by decide +kernel) rfl
        refine va_calli (va_runV (As := [.int v0_at]) (rest := [.int (l3 * 10), .int 100000]) ⟨hx, hb, hml, hown, hts⟩ (ck_X8_digitAt l dC dI cyB cyI cyJ cyP a0 a0_bytes H.size (.int v0_at) (.int v0_token) (z0_filled) (.int v0_fault) (.int v0_faultPlace) v0_length f0_bytes  v0_at hw) (cwV 1 hts gX8_number_X8_digitAt rfl rfl rfl (by decide +kernel) ⟨Nat.le_of_ble_eq_true rfl, Nat.le_of_ble_eq_true rfl⟩) ⟨cPc_blind, va_recv (q := (RX8, TX8, 7)) hK hPc (ci := 8) (q0 := 0) rfl rfl, cPc_pre hPc hK hDc hNw⟩ rfl rfl hl.1 rfl (lv_room (Nat.le_of_ble_eq_true rfl)) (dt_of tkX8_number_k62 8 rfl) ⟨Nat.le_of_ble_eq_true rfl, Nat.le_of_ble_eq_true rfl⟩) hS (fun q _ h => hFc q h) hFc (fun r11 u t H1 locs ht hvm hw hB hz1 hk1 hS => ?_)
        obtain ⟨hP1, hK1, hD1⟩ := hB
        rw [ht] at hP1
        obtain ⟨hP, hD⟩ := va_joinI (wr := []) (w1 := (wd00_31 a0 a0_bytes v0_length v0_at v0_token z0_filled v0_fault v0_faultPlace a0_bytes cyB f0_bytes)) (wn := (wd00_31 a0 a0_bytes v0_length v0_at v0_token z0_filled v0_fault v0_faultPlace a0_bytes cyB f0_bytes)) hP hD [0, 1] [] hCc rfl (by decide +kernel) (by decide +kernel) rfl hk1 hFc hP1 hD1
        generalize H1 = H at hP hS ⊢
        refine lv_iadd hx hb (dt_of tkX8_number_k62 9 rfl) ?_
        refine va_mmin hx hb (by rw [hml]; exact hl.1.symm) hown (hts _ uw_X8_number_m22) (hts _ uw_X8_number_msmin) (hts _ uw_X8_number_inim) (hts _ uw_X8_number_mcmin) (Nat.le_of_ble_eq_true rfl) (Nat.le_of_ble_eq_true rfl) (Nat.le_of_ble_eq_true rfl) (Nat.le_of_ble_eq_true rfl) (dt_of tkX8_number_k62 10 rfl) ?_
        refine lv_topi (fun x12 ex12 => ?_)
        have hw := hw x12 ex12
        refine lv_istore_n (lv' := [(3, .int x12), (0, .ref a0), (1, .int l1), (2, .int l2)]) hx hb (dt_of tkX8_number_k62 11 rfl) rfl hl (by decide) rfl (fun ls hl => ?_)
        refine lv_aload_n hx hb (dt_of tkX8_number_k62 12 rfl) rfl (lv_at hl 1 rfl) ?_
        refine lv_dup hx hb (dt_of tkX8_number_k62 13 rfl) rfl ?_
        refine va_get (D := (dC, dI)) (ci := 8) (v := .int v0_at) (C := RX8) (T := TX8) (N := 7) hx hb hts ui_X8_number_X8 hown hK hP 0 rfl rfl 2 (by decide) (hts _ uw_X8_number_f31) (fun _ h9 => h9) rfl (dt_of tkX8_number_k62 14 rfl) ?_
        refine lv_iconst (v := 1) hx hb (dt_of tkX8_number_k62 15 rfl) (by decide) ?_
        refine lv_iadd hx hb (dt_of tkX8_number_k90 0 rfl) ?_
        refine lv_topi (fun x13 ex13 => ?_)
        have hw := hw x13 ex13
        refine va_put (D := (dC, dI)) (ci := 8) (v := .int x13) (ty := .int) (C := RX8) (T := TX8) (N := 7) hx hb hts ui_X8_number_X8 tyX8 tyX8_ok nmX8 hown hK hP hD hS 0 rfl rfl 2 (by decide) (hts _ uw_X8_number_f31) (fun _ h9 => h9) rfl (by decide +kernel) rfl rfl (Nat.le_of_ble_eq_true rfl) (dt_of tkX8_number_k90 1 rfl) (fun H locs hP hD hS => ?_)
        have hP : va_P (dC, dI) vwCl (wd00_31 a0 a0_bytes v0_length x13 v0_token z0_filled v0_fault v0_faultPlace a0_bytes cyB f0_bytes) H := hP
        have hD : va_D A (wd00_31 a0 a0_bytes v0_length x13 v0_token z0_filled v0_fault v0_faultPlace a0_bytes cyB f0_bytes) := hD
        refine lv_goto (tgt := 43) hx hb (dt_of tkX8_number_k90 2 rfl) (by decide) ?_
        exact ih _ _ _ x13 v0_fault v0_faultPlace v0_token l1 l2 x12 hP hD hS (lv_sub hl [1, 2, 3, 0] rfl) hw
set_option maxHeartbeats 4000000 in
set_option maxRecDepth 100000 in
theorem kb_X8_number_24 {p : Program} {l : Launch} {e : Env} {s : State} {m : MethodId} {args : Array Value} {below : List Frame} {meth : Method} {c : Code} {A : Nat → Prop} (dC : Nat → ClassId) (dI : Nat → Nat → Nat) (cyB cyI cyJ cyP : ClassId) (a0 a0_bytes : Nat) (z0_filled : Value) (v0_length : Int32) (f0_bytes : Nat → Int32) (Q : Int32 → Int32 → Int32 → Int32 → Int32 → Prop)  (C0 : cfx p s m args meth c cX8_number (some .int) wsX8_number RX8 4 A (dC, dI) (kT cyB cyI cyJ cyP)) : ∀ (H : Heap) (locs : List Loc) (ls : Array Slot) (v0_at : Int32) (v0_fault : Int32) (v0_faultPlace : Int32) (v0_token : Int32) (l1 : Int32) (l2 : Int32), va_P (dC, dI) vwCl (wd00_31 a0 a0_bytes v0_length v0_at v0_token z0_filled v0_fault v0_faultPlace a0_bytes cyB f0_bytes) H → va_D A (wd00_31 a0 a0_bytes v0_length v0_at v0_token z0_filled v0_fault v0_faultPlace a0_bytes cyB f0_bytes) → va_S A s.heap H locs → lv_has ls 4 [(0, .ref a0), (1, .int l1), (2, .int l2)] → wb_X8_number_24 v0_length f0_bytes Q  v0_at v0_fault v0_faultPlace v0_token l1 l2 → W p l e (headSpec wsX8_number ({ frames := 1, cells := 0, slots := 0, locals := 32 })).room s m args below meth c H locs 0 0 (MQ below (va_Qi (fun (r : Int32) (u : Int32 × Int32 × Int32 × Int32) => Q r u.1 u.2.1 u.2.2.1 u.2.2.2) (cB (dC, dI) (kT cyB cyI cyJ cyP) A (fun u : Int32 × Int32 × Int32 × Int32 => ((wd00_31 a0 a0_bytes v0_length u.1 u.2.2.2 z0_filled u.2.1 u.2.2.1 a0_bytes cyB f0_bytes) : va_W))) A) args s 0 0 A) (F0 m 24 ls []) := by
  obtain ⟨hx, hb, hr, hts, hown, hlocks, hml, hA, hK, hNw⟩ := id C0
  intro H locs ls v0_at v0_fault v0_faultPlace v0_token l1 l2 hP hD hS hl hw
  refine lv_aload_n hx hb (dt_of tkX8_number_k0 12 rfl) rfl (lv_at hl 0 rfl) ?_
  obtain ⟨hCc, hPc, hDc, hFc⟩ := va_pick (ws' := (wd00_32 a0 a0_bytes v0_length v0_at v0_token z0_filled v0_fault v0_faultPlace)) hP hD hS hA [0] (by decide +kernel) rfl
  refine va_calli (va_runV (As := []) (rest := []) ⟨hx, hb, hml, hown, hts⟩ (ck_X8_isFaulty l dC dI cyB cyI cyJ cyP a0 H.size (.ref a0_bytes) (.int v0_length) (.int v0_at) (.int v0_token) (z0_filled) (.int v0_faultPlace) v0_fault   hw) (cwV 0 hts gX8_number_X8_isFaulty rfl rfl rfl (by decide +kernel) ⟨Nat.le_of_ble_eq_true rfl, Nat.le_of_ble_eq_true rfl⟩) ⟨cPc_blind, va_recv (q := (RX8, TX8, 7)) hK hPc (ci := 8) (q0 := 0) rfl rfl, cPc_pre hPc hK hDc hNw⟩ rfl rfl hl.1 rfl (lv_room (Nat.le_of_ble_eq_true rfl)) (dt_of tkX8_number_k0 13 rfl) ⟨Nat.le_of_ble_eq_true rfl, Nat.le_of_ble_eq_true rfl⟩) hS (fun q _ h => hFc q h) hFc (fun r6 u t H1 locs ht hvm hw hB hz1 hk1 hS => ?_)
  obtain ⟨hP1, hK1, hD1⟩ := hB
  rw [ht] at hP1
  obtain ⟨hP, hD⟩ := va_joinN (wr := (wd00_33 a0_bytes cyB f0_bytes)) (w1 := (wd00_32 a0 a0_bytes v0_length v0_at v0_token z0_filled v0_fault v0_faultPlace)) (wn := (wd00_31 a0 a0_bytes v0_length v0_at v0_token z0_filled v0_fault v0_faultPlace a0_bytes cyB f0_bytes)) hP hD [0] [1] [1, 0] hCc rfl (by decide +kernel) (by decide +kernel) (by decide +kernel) rfl hk1 hFc hP1 hD1
  generalize H1 = H at hP hS ⊢
  refine lv_if_eq (tgt := 33) hx hb (dt_of tkX8_number_k0 14 rfl) (by decide) (fun c7 => ?_) (fun c7 => ?_)
  · have hw := hw.1 c7
    refine lv_aload_n hx hb (dt_of tkX8_number_k32 1 rfl) rfl (lv_at hl 0 rfl) ?_
    refine lv_aload_n hx hb (dt_of tkX8_number_k32 2 rfl) rfl (lv_at hl 0 rfl) ?_
    refine va_get (D := (dC, dI)) (ci := 8) (v := .int v0_at) (C := RX8) (T := TX8) (N := 7) hx hb hts ui_X8_number_X8 hown hK hP 0 rfl rfl 2 (by decide) (hts _ uw_X8_number_f31) (fun _ h9 => h9) rfl (dt_of tkX8_number_k32 3 rfl) ?_
    refine va_put (D := (dC, dI)) (ci := 8) (v := .int v0_at) (ty := .int) (C := RX8) (T := TX8) (N := 7) hx hb hts ui_X8_number_X8 tyX8 tyX8_ok nmX8 hown hK hP hD hS 0 rfl rfl 3 (by decide) (hts _ uw_X8_number_f34) (fun _ h9 => h9) rfl (by decide +kernel) rfl rfl (Nat.le_of_ble_eq_true rfl) (dt_of tkX8_number_k32 4 rfl) (fun H locs hP hD hS => ?_)
    have hP : va_P (dC, dI) vwCl (wd00_31 a0 a0_bytes v0_length v0_at v0_at z0_filled v0_fault v0_faultPlace a0_bytes cyB f0_bytes) H := hP
    have hD : va_D A (wd00_31 a0 a0_bytes v0_length v0_at v0_at z0_filled v0_fault v0_faultPlace a0_bytes cyB f0_bytes) := hD
    refine lv_iconst (v := 0) hx hb (dt_of tkX8_number_k32 5 rfl) (by decide) ?_
    refine lv_istore_n (lv' := [(3, .int 0), (0, .ref a0), (1, .int l1), (2, .int l2)]) hx hb (dt_of tkX8_number_k32 6 rfl) rfl hl (by decide) rfl (fun ls hl => ?_)
    obtain ⟨n9, hw⟩ := hw
    exact kl_X8_number_43 dC dI cyB cyI cyJ cyP a0 a0_bytes z0_filled v0_length f0_bytes Q  C0 n9 _ _ _ v0_at v0_fault v0_faultPlace v0_at l1 l2 0 hP hD hS (lv_sub hl [1, 2, 3, 0] rfl) hw
  · have hw := hw.2 c7
    refine lv_iconst (v := 0) hx hb (dt_of tkX8_number_k0 15 rfl) (by decide) ?_
    exact ((W.iret (v := 0) hx hb hr (fun t ht hW => ⟨⟨0, (v0_at, v0_fault, v0_faultPlace, v0_token), rfl, hw, by rw [ht]; exact hP, va_K.moved hW.alike hK, hD⟩, hS.F ht⟩) hS.2.2 (dt_of tkX8_number_k32 0 rfl)))
set_option maxHeartbeats 4000000 in
set_option maxRecDepth 100000 in
theorem ck_X8_number (l : Launch) (dC : Nat → ClassId) (dI : Nat → Nat → Nat) (cyB cyI cyJ cyP : ClassId) (a0 a0_bytes : Nat) (sz : Nat) (z0_filled : Value) (v0_length : Int32) (f0_bytes : Nat → Int32) (v0_at : Int32) (v0_fault : Int32) (v0_faultPlace : Int32) (v0_token : Int32) (p1 : Int32) (p2 : Int32) {Q : Int32 → Int32 → Int32 → Int32 → Int32 → Prop} (hw : wq_X8_number v0_length f0_bytes v0_at v0_fault v0_faultPlace v0_token p1 p2 Q) : Met l yX8_number wsX8_number ({ frames := 1, cells := 0, slots := 0, locals := 32 }) (va_Pc [.ref a0, .int p1, .int p2] (cPc (dC, dI) (kT cyB cyI cyJ cyP) (wd00_31 a0 a0_bytes v0_length v0_at v0_token z0_filled v0_fault v0_faultPlace a0_bytes cyB f0_bytes) sz)) (va_Qi (fun (r : Int32) (u : Int32 × Int32 × Int32 × Int32) => Q r u.1 u.2.1 u.2.2.1 u.2.2.2) (cB (dC, dI) (kT cyB cyI cyJ cyP) (va_A (wd00_31 a0 a0_bytes v0_length v0_at v0_token z0_filled v0_fault v0_faultPlace a0_bytes cyB f0_bytes) sz) (fun u : Int32 × Int32 × Int32 × Int32 => ((wd00_31 a0 a0_bytes v0_length u.1 u.2.2.2 z0_filled u.2.1 u.2.2.1 a0_bytes cyB f0_bytes) : va_W))) (va_A (wd00_31 a0 a0_bytes v0_length v0_at v0_token z0_filled v0_fault v0_faultPlace a0_bytes cyB f0_bytes) sz)) 0 0 (va_A (wd00_31 a0 a0_bytes v0_length v0_at v0_token z0_filled v0_fault v0_faultPlace a0_bytes cyB f0_bytes) sz) := by
  refine Met.ofW (cc := cX8_number) (maxL := 4) (ret := (some .int)) (by decide) rfl ?_
  intro p e s m args below meth c s₁ B hml hv
  obtain ⟨rfl, hsz, hP, hK, hD0, hNw⟩ := hv
  have hx := B.exec
  have hb := B.bytes
  have hr := B.returns
  have hts := atoms_spec (ws := wsX8_number) B.pre
  have hown : s.vm.findClass RX8 = some m.cls := findClass_of_methodNamed B.named
  have hlocks := B.notSynchronized
  subst hsz
  have hD := hD0.self (sz := s.heap.size)
  generalize hAe : va_A (wd00_31 a0 a0_bytes v0_length v0_at v0_token z0_filled v0_fault v0_faultPlace a0_bytes cyB f0_bytes) s.heap.size = A at hD ⊢
  have hA : ∀ q : Nat, s.heap.size ≤ q → A q := fun q h => by rw [← hAe]; exact Or.inr h
  have hS : va_S A s.heap s.heap [] := va_S.rf
  have hP : va_P (dC, dI) vwCl (wd00_31 a0 a0_bytes v0_length v0_at v0_token z0_filled v0_fault v0_faultPlace a0_bytes cyB f0_bytes) s.heap := hP
  have hl := lv_entry ([.ref a0, .int p1, .int p2]) (n := 4) (Nat.le_of_ble_eq_true rfl)
  rw [lg_entry_eq]
  generalize (lg_sl ([.ref a0, .int p1, .int p2]) ++ List.replicate (4 - (lg_sl ([.ref a0, .int p1, .int p2])).length) Slot.unset).toArray = ls at hl ⊢
  have hl : lv_has ls 4 [(0, .ref a0), (1, .int p1), (2, .int p2)] := hl
  have C0 : cfx p s m _ meth c cX8_number (some .int) wsX8_number RX8 4 A (dC, dI) (kT cyB cyI cyJ cyP) := ⟨hx, hb, hr, hts, hown, hlocks, hml, hA, hK, hNw⟩
  clear hAe
  obtain ⟨H, hH⟩ : ∃ H, H = s.heap := ⟨_, rfl⟩
  rw [← hH] at hP ⊢
  have hS : va_S A s.heap H [] := by rw [hH]; exact va_S.rf
  have hS := hS
  refine lv_aload_n hx hb (dt_of tkX8_number_k0 0 rfl) rfl (lv_at hl 0 rfl) ?_
  obtain ⟨hCc, hPc, hDc, hFc⟩ := va_pick (ws' := (wd00_31 a0 a0_bytes v0_length v0_at v0_token z0_filled v0_fault v0_faultPlace a0_bytes cyB f0_bytes)) hP hD hS hA [0, 1] (by decide +kernel) rfl
  refine va_callv (va_runV (As := []) (rest := []) ⟨hx, hb, hml, hown, hts⟩ (ck_X8_skipBlanks l dC dI cyB cyI cyJ cyP a0 a0_bytes H.size (.int v0_token) (z0_filled) (.int v0_fault) (.int v0_faultPlace) v0_length f0_bytes v0_at  hw) (cwV 0 hts gX8_number_X8_skipBlanks rfl rfl rfl (by decide +kernel) ⟨Nat.le_of_ble_eq_true rfl, Nat.le_of_ble_eq_true rfl⟩) ⟨cPc_blind, va_recv (q := (RX8, TX8, 7)) hK hPc (ci := 8) (q0 := 0) rfl rfl, cPc_pre hPc hK hDc hNw⟩ rfl rfl hl.1 rfl (lv_room (Nat.le_of_ble_eq_true rfl)) (dt_of tkX8_number_k0 1 rfl) ⟨Nat.le_of_ble_eq_true rfl, Nat.le_of_ble_eq_true rfl⟩) hS (fun q _ h => hFc q h) hFc (fun u t H1 locs ht hvm hw hB hz1 hk1 hS => ?_)
  obtain ⟨x1, rfl⟩ : ∃ z, z = u := ⟨_, rfl⟩
  obtain ⟨hP1, hK1, hD1⟩ := hB
  rw [ht] at hP1
  obtain ⟨hP, hD⟩ := va_joinI (wr := []) (w1 := (wd00_31 a0 a0_bytes v0_length x1 v0_token z0_filled v0_fault v0_faultPlace a0_bytes cyB f0_bytes)) (wn := (wd00_31 a0 a0_bytes v0_length x1 v0_token z0_filled v0_fault v0_faultPlace a0_bytes cyB f0_bytes)) hP hD [0, 1] [] hCc rfl (by decide +kernel) (by decide +kernel) rfl hk1 hFc hP1 hD1
  generalize H1 = H at hP hS ⊢
  refine lv_aload_n hx hb (dt_of tkX8_number_k0 2 rfl) rfl (lv_at hl 0 rfl) ?_
  refine lv_aload_n hx hb (dt_of tkX8_number_k0 3 rfl) rfl (lv_at hl 0 rfl) ?_
  refine va_get (D := (dC, dI)) (ci := 8) (v := .int x1) (C := RX8) (T := TX8) (N := 7) hx hb hts ui_X8_number_X8 hown hK hP 0 rfl rfl 2 (by decide) (hts _ uw_X8_number_f31) (fun _ h9 => h9) rfl (dt_of tkX8_number_k0 4 rfl) ?_
  obtain ⟨hCc, hPc, hDc, hFc⟩ := va_pick (ws' := (wd00_31 a0 a0_bytes v0_length x1 v0_token z0_filled v0_fault v0_faultPlace a0_bytes cyB f0_bytes)) hP hD hS hA [0, 1] (by decide +kernel) rfl
  refine va_calli (va_runV (As := [.int x1]) (rest := []) ⟨hx, hb, hml, hown, hts⟩ (ck_X8_digitAt l dC dI cyB cyI cyJ cyP a0 a0_bytes H.size (.int x1) (.int v0_token) (z0_filled) (.int v0_fault) (.int v0_faultPlace) v0_length f0_bytes  x1 hw) (cwV 1 hts gX8_number_X8_digitAt rfl rfl rfl (by decide +kernel) ⟨Nat.le_of_ble_eq_true rfl, Nat.le_of_ble_eq_true rfl⟩) ⟨cPc_blind, va_recv (q := (RX8, TX8, 7)) hK hPc (ci := 8) (q0 := 0) rfl rfl, cPc_pre hPc hK hDc hNw⟩ rfl rfl hl.1 rfl (lv_room (Nat.le_of_ble_eq_true rfl)) (dt_of tkX8_number_k0 5 rfl) ⟨Nat.le_of_ble_eq_true rfl, Nat.le_of_ble_eq_true rfl⟩) hS (fun q _ h => hFc q h) hFc (fun r2 u t H1 locs ht hvm hw hB hz1 hk1 hS => ?_)
  obtain ⟨hP1, hK1, hD1⟩ := hB
  rw [ht] at hP1
  obtain ⟨hP, hD⟩ := va_joinI (wr := []) (w1 := (wd00_31 a0 a0_bytes v0_length x1 v0_token z0_filled v0_fault v0_faultPlace a0_bytes cyB f0_bytes)) (wn := (wd00_31 a0 a0_bytes v0_length x1 v0_token z0_filled v0_fault v0_faultPlace a0_bytes cyB f0_bytes)) hP hD [0, 1] [] hCc rfl (by decide +kernel) (by decide +kernel) rfl hk1 hFc hP1 hD1
  generalize H1 = H at hP hS ⊢
  refine lv_if_ge (tgt := 24) hx hb (dt_of tkX8_number_k0 6 rfl) (by decide) (fun c3 => ?_) (fun c3 => ?_)
  · have hw := hw.1 c3
    exact kb_X8_number_24 dC dI cyB cyI cyJ cyP a0 a0_bytes z0_filled v0_length f0_bytes Q  C0 _ _ _ x1 v0_fault v0_faultPlace v0_token p1 p2 hP hD hS (lv_sub hl [0, 1, 2] rfl) hw
  · have hw := hw.2 c3
    refine lv_aload_n hx hb (dt_of tkX8_number_k0 7 rfl) rfl (lv_at hl 0 rfl) ?_
    refine lv_iconst (v := 1) hx hb (dt_of tkX8_number_k0 8 rfl) (by decide) ?_
    refine lv_aload_n hx hb (dt_of tkX8_number_k0 9 rfl) rfl (lv_at hl 0 rfl) ?_
    refine va_get (D := (dC, dI)) (ci := 8) (v := .int x1) (C := RX8) (T := TX8) (N := 7) hx hb hts ui_X8_number_X8 hown hK hP 0 rfl rfl 2 (by decide) (hts _ uw_X8_number_f31) (fun _ h9 => h9) rfl (dt_of tkX8_number_k0 10 rfl) ?_
    obtain ⟨hCc, hPc, hDc, hFc⟩ := va_pick (ws' := (wd00_32 a0 a0_bytes v0_length x1 v0_token z0_filled v0_fault v0_faultPlace)) hP hD hS hA [0] (by decide +kernel) rfl
    refine va_callv (va_runV (As := [.int 1, .int x1]) (rest := []) ⟨hx, hb, hml, hown, hts⟩ (ck_X8_blame l dC dI cyB cyI cyJ cyP a0 H.size (.ref a0_bytes) (.int v0_length) (.int x1) (.int v0_token) (z0_filled)  v0_fault v0_faultPlace 1 x1 hw) (cwV 2 hts gX8_number_X8_blame rfl rfl rfl (by decide +kernel) ⟨Nat.le_of_ble_eq_true rfl, Nat.le_of_ble_eq_true rfl⟩) ⟨cPc_blind, va_recv (q := (RX8, TX8, 7)) hK hPc (ci := 8) (q0 := 0) rfl rfl, cPc_pre hPc hK hDc hNw⟩ rfl rfl hl.1 rfl (lv_room (Nat.le_of_ble_eq_true rfl)) (dt_of tkX8_number_k0 11 rfl) ⟨Nat.le_of_ble_eq_true rfl, Nat.le_of_ble_eq_true rfl⟩) hS (fun q _ h => hFc q h) hFc (fun u t H1 locs ht hvm hw hB hz1 hk1 hS => ?_)
    obtain ⟨x4, x5⟩ := u
    obtain ⟨hP1, hK1, hD1⟩ := hB
    rw [ht] at hP1
    obtain ⟨hP, hD⟩ := va_joinN (wr := (wd00_33 a0_bytes cyB f0_bytes)) (w1 := (wd00_32 a0 a0_bytes v0_length x1 v0_token z0_filled x4 x5)) (wn := (wd00_31 a0 a0_bytes v0_length x1 v0_token z0_filled x4 x5 a0_bytes cyB f0_bytes)) hP hD [0] [1] [1, 0] hCc rfl (by decide +kernel) (by decide +kernel) (by decide +kernel) rfl hk1 hFc hP1 hD1
    generalize H1 = H at hP hS ⊢
    exact kb_X8_number_24 dC dI cyB cyI cyJ cyP a0 a0_bytes z0_filled v0_length f0_bytes Q  C0 _ _ _ x1 x4 x5 v0_token p1 p2 hP hD hS (lv_sub hl [0, 1, 2] rfl) hw
theorem ui_X0_tells_X0 : ∀ w ∈ u_ws RX0 TX0 2, w ∈ wsX0_tells := uiM mbX0_tells euX0 (by decide +kernel)
theorem uw_X0_tells_f9 : (.fieldLink RX0 9 "MarchHares$Book" "seen" "[I" : Cond) ∈ wsX0_tells := mbX0_tells 257 (by decide +kernel)
set_option maxHeartbeats 4000000 in
set_option maxRecDepth 100000 in
theorem ck_X0_tells (l : Launch) (dC : Nat → ClassId) (dI : Nat → Nat → Nat) (cyB cyI cyJ cyP : ClassId) (a0 a0_seen : Nat) (sz : Nat) (z0_many : Value) (f0_seen : Nat → Int32)  (p1 : Int32) {Q : Int32 → Prop} (hw : wq_X0_tells f0_seen  p1 Q) : Met l yX0_tells wsX0_tells ({ frames := 0, cells := 0, slots := 0, locals := 0 }) (va_Pc [.ref a0, .int p1] (cPc (dC, dI) (kT cyB cyI cyJ cyP) (wd00_34 a0 a0_seen z0_many a0_seen cyI f0_seen) sz)) (va_Qi (fun (r : Int32) (_ : Unit) => Q r ) (cB (dC, dI) (kT cyB cyI cyJ cyP) (va_A (wd00_34 a0 a0_seen z0_many a0_seen cyI f0_seen) sz) (fun u : Unit => ((wd00_34 a0 a0_seen z0_many a0_seen cyI f0_seen) : va_W))) (va_A (wd00_34 a0 a0_seen z0_many a0_seen cyI f0_seen) sz)) 0 0 (va_A (wd00_34 a0 a0_seen z0_many a0_seen cyI f0_seen) sz) := by
  refine Met.ofW (cc := cX0_tells) (maxL := 2) (ret := (some .boolean)) (by decide) rfl ?_
  intro p e s m args below meth c s₁ B hml hv
  obtain ⟨rfl, hsz, hP, hK, hD0, hNw⟩ := hv
  have hx := B.exec
  have hb := B.bytes
  have hr := B.returns
  have hts := atoms_spec (ws := wsX0_tells) B.pre
  have hown : s.vm.findClass RX0 = some m.cls := findClass_of_methodNamed B.named
  have hlocks := B.notSynchronized
  subst hsz
  have hD := hD0.self (sz := s.heap.size)
  generalize hAe : va_A (wd00_34 a0 a0_seen z0_many a0_seen cyI f0_seen) s.heap.size = A at hD ⊢
  have hA : ∀ q : Nat, s.heap.size ≤ q → A q := fun q h => by rw [← hAe]; exact Or.inr h
  have hS : va_S A s.heap s.heap [] := va_S.rf
  have hP : va_P (dC, dI) vwCl (wd00_34 a0 a0_seen z0_many a0_seen cyI f0_seen) s.heap := hP
  have hl := lv_entry ([.ref a0, .int p1]) (n := 2) (Nat.le_of_ble_eq_true rfl)
  rw [lg_entry_eq]
  generalize (lg_sl ([.ref a0, .int p1]) ++ List.replicate (2 - (lg_sl ([.ref a0, .int p1])).length) Slot.unset).toArray = ls at hl ⊢
  have hl : lv_has ls 2 [(0, .ref a0), (1, .int p1)] := hl
  have C0 : cfx p s m _ meth c cX0_tells (some .boolean) wsX0_tells RX0 2 A (dC, dI) (kT cyB cyI cyJ cyP) := ⟨hx, hb, hr, hts, hown, hlocks, hml, hA, hK, hNw⟩
  clear hAe
  obtain ⟨H, hH⟩ : ∃ H, H = s.heap := ⟨_, rfl⟩
  rw [← hH] at hP ⊢
  have hS : va_S A s.heap H [] := by rw [hH]; exact va_S.rf
  have hS := hS
  refine lv_aload_n hx hb (dt_of tkX0_tells_k0 0 rfl) rfl (lv_at hl 0 rfl) ?_
  refine va_get (D := (dC, dI)) (ci := 0) (v := .ref a0_seen) (C := RX0) (T := TX0) (N := 2) hx hb hts ui_X0_tells_X0 hown hK hP 0 rfl rfl 0 (by decide) (hts _ uw_X0_tells_f9) (fun _ h9 => h9) rfl (dt_of tkX0_tells_k0 1 rfl) ?_
  refine lv_iload_n hx hb (dt_of tkX0_tells_k0 2 rfl) rfl (lv_at hl 1 rfl) ?_
  obtain ⟨hi9, hw⟩ := hw
  refine va_iald hx hb hK hP 1 1 rfl rfl hi9 (dt_of tkX0_tells_k0 3 rfl) ?_
  refine lv_topi (fun x1 ex1 => ?_)
  have hw := hw x1 ex1
  refine lv_iconst (v := (-1)) hx hb (dt_of tkX0_tells_k0 4 rfl) (by decide) ?_
  refine lv_icmp_eq (tgt := 14) hx hb (dt_of tkX0_tells_k0 5 rfl) (by decide) (fun c2 => ?_) (fun c2 => ?_)
  · have hw := hw.1 c2
    refine lv_iconst (v := 0) hx hb (dt_of tkX0_tells_k0 8 rfl) (by decide) ?_
    exact ((W.zret (v := 0) hx hb hr rfl (fun t ht hW => ⟨⟨0, (), rfl, hw, by rw [ht]; exact hP, va_K.moved hW.alike hK, hD⟩, hS.F ht⟩) hS.2.2 (dt_of tkX0_tells_k0 9 rfl)))
  · have hw := hw.2 c2
    refine lv_iconst (v := 1) hx hb (dt_of tkX0_tells_k0 6 rfl) (by decide) ?_
    refine lv_goto (tgt := 15) hx hb (dt_of tkX0_tells_k0 7 rfl) (by decide) ?_
    exact ((W.zret (v := 1) hx hb hr rfl (fun t ht hW => ⟨⟨1, (), rfl, hw, by rw [ht]; exact hP, va_K.moved hW.alike hK, hD⟩, hS.F ht⟩) hS.2.2 (dt_of tkX0_tells_k0 9 rfl)))
theorem ui_X8_blameToken_X8 : ∀ w ∈ u_ws RX8 TX8 7, w ∈ wsX8_blameToken := uiM mbX8_blameToken euX8 (by decide +kernel)
theorem uw_X8_blameToken_f34 : (.fieldLink RX8 34 "MarchHares$Tape" "token" "I" : Cond) ∈ wsX8_blameToken := mbX8_blameToken 714 (by decide +kernel)
set_option maxHeartbeats 4000000 in
set_option maxRecDepth 100000 in
theorem ck_X8_blameToken (l : Launch) (dC : Nat → ClassId) (dI : Nat → Nat → Nat) (cyB cyI cyJ cyP : ClassId) (a0 : Nat) (sz : Nat) (z0_bytes : Value) (z0_length : Value) (z0_at : Value) (z0_filled : Value) (v0_token : Int32) (v0_fault : Int32) (v0_faultPlace : Int32) (p1 : Int32) {Q : Int32 → Int32 → Prop} (hw : wq_X8_blameToken v0_token v0_fault v0_faultPlace p1 Q) : Met l yX8_blameToken wsX8_blameToken ({ frames := 1, cells := 0, slots := 0, locals := 22 }) (va_Pc [.ref a0, .int p1] (cPc (dC, dI) (kT cyB cyI cyJ cyP) (wd00_35 a0 z0_bytes z0_length z0_at v0_token z0_filled v0_fault v0_faultPlace) sz)) (va_Qv (fun (u : Int32 × Int32) => Q u.1 u.2) (cB (dC, dI) (kT cyB cyI cyJ cyP) (va_A (wd00_35 a0 z0_bytes z0_length z0_at v0_token z0_filled v0_fault v0_faultPlace) sz) (fun u : Int32 × Int32 => ((wd00_35 a0 z0_bytes z0_length z0_at v0_token z0_filled u.1 u.2) : va_W))) (va_A (wd00_35 a0 z0_bytes z0_length z0_at v0_token z0_filled v0_fault v0_faultPlace) sz)) 0 0 (va_A (wd00_35 a0 z0_bytes z0_length z0_at v0_token z0_filled v0_fault v0_faultPlace) sz) := by
  refine Met.ofW (cc := cX8_blameToken) (maxL := 2) (ret := none) (by decide) rfl ?_
  intro p e s m args below meth c s₁ B hml hv
  obtain ⟨rfl, hsz, hP, hK, hD0, hNw⟩ := hv
  have hx := B.exec
  have hb := B.bytes
  have hr := B.returns
  have hts := atoms_spec (ws := wsX8_blameToken) B.pre
  have hown : s.vm.findClass RX8 = some m.cls := findClass_of_methodNamed B.named
  have hlocks := B.notSynchronized
  subst hsz
  have hD := hD0.self (sz := s.heap.size)
  generalize hAe : va_A (wd00_35 a0 z0_bytes z0_length z0_at v0_token z0_filled v0_fault v0_faultPlace) s.heap.size = A at hD ⊢
  have hA : ∀ q : Nat, s.heap.size ≤ q → A q := fun q h => by rw [← hAe]; exact Or.inr h
  have hS : va_S A s.heap s.heap [] := va_S.rf
  have hP : va_P (dC, dI) vwCl (wd00_35 a0 z0_bytes z0_length z0_at v0_token z0_filled v0_fault v0_faultPlace) s.heap := hP
  have hl := lv_entry ([.ref a0, .int p1]) (n := 2) (Nat.le_of_ble_eq_true rfl)
  rw [lg_entry_eq]
  generalize (lg_sl ([.ref a0, .int p1]) ++ List.replicate (2 - (lg_sl ([.ref a0, .int p1])).length) Slot.unset).toArray = ls at hl ⊢
  have hl : lv_has ls 2 [(0, .ref a0), (1, .int p1)] := hl
  have C0 : cfx p s m _ meth c cX8_blameToken none wsX8_blameToken RX8 2 A (dC, dI) (kT cyB cyI cyJ cyP) := ⟨hx, hb, hr, hts, hown, hlocks, hml, hA, hK, hNw⟩
  clear hAe
  obtain ⟨H, hH⟩ : ∃ H, H = s.heap := ⟨_, rfl⟩
  rw [← hH] at hP ⊢
  have hS : va_S A s.heap H [] := by rw [hH]; exact va_S.rf
  have hS := hS
  refine lv_aload_n hx hb (dt_of tkX8_blameToken_k0 0 rfl) rfl (lv_at hl 0 rfl) ?_
  refine lv_iload_n hx hb (dt_of tkX8_blameToken_k0 1 rfl) rfl (lv_at hl 1 rfl) ?_
  refine lv_aload_n hx hb (dt_of tkX8_blameToken_k0 2 rfl) rfl (lv_at hl 0 rfl) ?_
  refine va_get (D := (dC, dI)) (ci := 8) (v := .int v0_token) (C := RX8) (T := TX8) (N := 7) hx hb hts ui_X8_blameToken_X8 hown hK hP 0 rfl rfl 3 (by decide) (hts _ uw_X8_blameToken_f34) (fun _ h9 => h9) rfl (dt_of tkX8_blameToken_k0 3 rfl) ?_
  obtain ⟨hCc, hPc, hDc, hFc⟩ := va_pick (ws' := (wd00_35 a0 z0_bytes z0_length z0_at v0_token z0_filled v0_fault v0_faultPlace)) hP hD hS hA [0] (by decide +kernel) rfl
  refine va_callv (va_runV (As := [.int p1, .int v0_token]) (rest := []) ⟨hx, hb, hml, hown, hts⟩ (ck_X8_blame l dC dI cyB cyI cyJ cyP a0 H.size (z0_bytes) (z0_length) (z0_at) (.int v0_token) (z0_filled)  v0_fault v0_faultPlace p1 v0_token hw) (cwV 2 hts gX8_blameToken_X8_blame rfl rfl rfl (by decide +kernel) ⟨Nat.le_of_ble_eq_true rfl, Nat.le_of_ble_eq_true rfl⟩) ⟨cPc_blind, va_recv (q := (RX8, TX8, 7)) hK hPc (ci := 8) (q0 := 0) rfl rfl, cPc_pre hPc hK hDc hNw⟩ rfl rfl hl.1 rfl (lv_room (Nat.le_of_ble_eq_true rfl)) (dt_of tkX8_blameToken_k0 4 rfl) ⟨Nat.le_of_ble_eq_true rfl, Nat.le_of_ble_eq_true rfl⟩) hS (fun q _ h => hFc q h) hFc (fun u t H1 locs ht hvm hw hB hz1 hk1 hS => ?_)
  obtain ⟨x1, x2⟩ := u
  obtain ⟨hP1, hK1, hD1⟩ := hB
  rw [ht] at hP1
  obtain ⟨hP, hD⟩ := va_joinI (wr := []) (w1 := (wd00_35 a0 z0_bytes z0_length z0_at v0_token z0_filled x1 x2)) (wn := (wd00_35 a0 z0_bytes z0_length z0_at v0_token z0_filled x1 x2)) hP hD [0] [] hCc rfl (by decide +kernel) (by decide +kernel) rfl hk1 hFc hP1 hD1
  generalize H1 = H at hP hS ⊢
  exact ((W.vret hx hb hr (fun t ht hW => ⟨⟨(x1, x2), rfl, hw, by rw [ht]; exact hP, va_K.moved hW.alike hK, hD⟩, hS.F ht⟩) hS.2.2 (dt_of tkX8_blameToken_k0 5 rfl)))
theorem ui_X8_takes_X8 : ∀ w ∈ u_ws RX8 TX8 7, w ∈ wsX8_takes := uiM mbX8_takes euX8 (by decide +kernel)
theorem uw_X8_takes_f11 : (.fieldLink RX8 11 "MarchHares$Tape" "bytes" "[B" : Cond) ∈ wsX8_takes := mbX8_takes 142 (by decide +kernel)
theorem uw_X8_takes_f28 : (.fieldLink RX8 28 "MarchHares$Tape" "length" "I" : Cond) ∈ wsX8_takes := mbX8_takes 712 (by decide +kernel)
theorem uw_X8_takes_f31 : (.fieldLink RX8 31 "MarchHares$Tape" "at" "I" : Cond) ∈ wsX8_takes := mbX8_takes 713 (by decide +kernel)
theorem uw_X8_takes_f34 : (.fieldLink RX8 34 "MarchHares$Tape" "token" "I" : Cond) ∈ wsX8_takes := mbX8_takes 714 (by decide +kernel)
set_option maxHeartbeats 4000000 in
set_option maxRecDepth 100000 in
theorem ck_X8_takes (l : Launch) (dC : Nat → ClassId) (dI : Nat → Nat → Nat) (cyB cyI cyJ cyP : ClassId) (a0 a0_bytes : Nat) (sz : Nat) (z0_filled : Value) (z0_faultPlace : Value) (v0_length : Int32) (v0_fault : Int32) (f0_bytes : Nat → Int32) (v0_at : Int32) (v0_token : Int32) (p1 : Int32) {Q : Int32 → Int32 → Int32 → Prop} (hw : wq_X8_takes v0_length v0_fault f0_bytes v0_at v0_token p1 Q) : Met l yX8_takes wsX8_takes ({ frames := 1, cells := 0, slots := 0, locals := 20 }) (va_Pc [.ref a0, .int p1] (cPc (dC, dI) (kT cyB cyI cyJ cyP) (wd00_36 a0 a0_bytes v0_length v0_at v0_token z0_filled v0_fault z0_faultPlace a0_bytes cyB f0_bytes) sz)) (va_Qi (fun (r : Int32) (u : Int32 × Int32) => Q r u.1 u.2) (cB (dC, dI) (kT cyB cyI cyJ cyP) (va_A (wd00_36 a0 a0_bytes v0_length v0_at v0_token z0_filled v0_fault z0_faultPlace a0_bytes cyB f0_bytes) sz) (fun u : Int32 × Int32 => ((wd00_36 a0 a0_bytes v0_length u.1 u.2 z0_filled v0_fault z0_faultPlace a0_bytes cyB f0_bytes) : va_W))) (va_A (wd00_36 a0 a0_bytes v0_length v0_at v0_token z0_filled v0_fault z0_faultPlace a0_bytes cyB f0_bytes) sz)) 0 0 (va_A (wd00_36 a0 a0_bytes v0_length v0_at v0_token z0_filled v0_fault z0_faultPlace a0_bytes cyB f0_bytes) sz) := by
  refine Met.ofW (cc := cX8_takes) (maxL := 2) (ret := (some .boolean)) (by decide) rfl ?_
  intro p e s m args below meth c s₁ B hml hv
  obtain ⟨rfl, hsz, hP, hK, hD0, hNw⟩ := hv
  have hx := B.exec
  have hb := B.bytes
  have hr := B.returns
  have hts := atoms_spec (ws := wsX8_takes) B.pre
  have hown : s.vm.findClass RX8 = some m.cls := findClass_of_methodNamed B.named
  have hlocks := B.notSynchronized
  subst hsz
  have hD := hD0.self (sz := s.heap.size)
  generalize hAe : va_A (wd00_36 a0 a0_bytes v0_length v0_at v0_token z0_filled v0_fault z0_faultPlace a0_bytes cyB f0_bytes) s.heap.size = A at hD ⊢
  have hA : ∀ q : Nat, s.heap.size ≤ q → A q := fun q h => by rw [← hAe]; exact Or.inr h
  have hS : va_S A s.heap s.heap [] := va_S.rf
  have hP : va_P (dC, dI) vwCl (wd00_36 a0 a0_bytes v0_length v0_at v0_token z0_filled v0_fault z0_faultPlace a0_bytes cyB f0_bytes) s.heap := hP
  have hl := lv_entry ([.ref a0, .int p1]) (n := 2) (Nat.le_of_ble_eq_true rfl)
  rw [lg_entry_eq]
  generalize (lg_sl ([.ref a0, .int p1]) ++ List.replicate (2 - (lg_sl ([.ref a0, .int p1])).length) Slot.unset).toArray = ls at hl ⊢
  have hl : lv_has ls 2 [(0, .ref a0), (1, .int p1)] := hl
  have C0 : cfx p s m _ meth c cX8_takes (some .boolean) wsX8_takes RX8 2 A (dC, dI) (kT cyB cyI cyJ cyP) := ⟨hx, hb, hr, hts, hown, hlocks, hml, hA, hK, hNw⟩
  clear hAe
  obtain ⟨H, hH⟩ : ∃ H, H = s.heap := ⟨_, rfl⟩
  rw [← hH] at hP ⊢
  have hS : va_S A s.heap H [] := by rw [hH]; exact va_S.rf
  have hS := hS
  refine lv_aload_n hx hb (dt_of tkX8_takes_k0 0 rfl) rfl (lv_at hl 0 rfl) ?_
  obtain ⟨hCc, hPc, hDc, hFc⟩ := va_pick (ws' := (wd00_36 a0 a0_bytes v0_length v0_at v0_token z0_filled v0_fault z0_faultPlace a0_bytes cyB f0_bytes)) hP hD hS hA [0, 1] (by decide +kernel) rfl
  refine va_callv (va_runV (As := []) (rest := []) ⟨hx, hb, hml, hown, hts⟩ (ck_X8_skipBlanks l dC dI cyB cyI cyJ cyP a0 a0_bytes H.size (.int v0_token) (z0_filled) (.int v0_fault) (z0_faultPlace) v0_length f0_bytes v0_at  hw) (cwV 0 hts gX8_takes_X8_skipBlanks rfl rfl rfl (by decide +kernel) ⟨Nat.le_of_ble_eq_true rfl, Nat.le_of_ble_eq_true rfl⟩) ⟨cPc_blind, va_recv (q := (RX8, TX8, 7)) hK hPc (ci := 8) (q0 := 0) rfl rfl, cPc_pre hPc hK hDc hNw⟩ rfl rfl hl.1 rfl (lv_room (Nat.le_of_ble_eq_true rfl)) (dt_of tkX8_takes_k0 1 rfl) ⟨Nat.le_of_ble_eq_true rfl, Nat.le_of_ble_eq_true rfl⟩) hS (fun q _ h => hFc q h) hFc (fun u t H1 locs ht hvm hw hB hz1 hk1 hS => ?_)
  obtain ⟨x1, rfl⟩ : ∃ z, z = u := ⟨_, rfl⟩
  obtain ⟨hP1, hK1, hD1⟩ := hB
  rw [ht] at hP1
  obtain ⟨hP, hD⟩ := va_joinI (wr := []) (w1 := (wd00_36 a0 a0_bytes v0_length x1 v0_token z0_filled v0_fault z0_faultPlace a0_bytes cyB f0_bytes)) (wn := (wd00_36 a0 a0_bytes v0_length x1 v0_token z0_filled v0_fault z0_faultPlace a0_bytes cyB f0_bytes)) hP hD [0, 1] [] hCc rfl (by decide +kernel) (by decide +kernel) rfl hk1 hFc hP1 hD1
  generalize H1 = H at hP hS ⊢
  refine lv_aload_n hx hb (dt_of tkX8_takes_k0 2 rfl) rfl (lv_at hl 0 rfl) ?_
  obtain ⟨hCc, hPc, hDc, hFc⟩ := va_pick (ws' := (wd00_37 a0 a0_bytes v0_length x1 v0_token z0_filled v0_fault z0_faultPlace)) hP hD hS hA [0] (by decide +kernel) rfl
  refine va_calli (va_runV (As := []) (rest := []) ⟨hx, hb, hml, hown, hts⟩ (ck_X8_isFaulty l dC dI cyB cyI cyJ cyP a0 H.size (.ref a0_bytes) (.int v0_length) (.int x1) (.int v0_token) (z0_filled) (z0_faultPlace) v0_fault   hw) (cwV 0 hts gX8_takes_X8_isFaulty rfl rfl rfl (by decide +kernel) ⟨Nat.le_of_ble_eq_true rfl, Nat.le_of_ble_eq_true rfl⟩) ⟨cPc_blind, va_recv (q := (RX8, TX8, 7)) hK hPc (ci := 8) (q0 := 0) rfl rfl, cPc_pre hPc hK hDc hNw⟩ rfl rfl hl.1 rfl (lv_room (Nat.le_of_ble_eq_true rfl)) (dt_of tkX8_takes_k0 3 rfl) ⟨Nat.le_of_ble_eq_true rfl, Nat.le_of_ble_eq_true rfl⟩) hS (fun q _ h => hFc q h) hFc (fun r2 u t H1 locs ht hvm hw hB hz1 hk1 hS => ?_)
  obtain ⟨hP1, hK1, hD1⟩ := hB
  rw [ht] at hP1
  obtain ⟨hP, hD⟩ := va_joinN (wr := (wd00_33 a0_bytes cyB f0_bytes)) (w1 := (wd00_37 a0 a0_bytes v0_length x1 v0_token z0_filled v0_fault z0_faultPlace)) (wn := (wd00_36 a0 a0_bytes v0_length x1 v0_token z0_filled v0_fault z0_faultPlace a0_bytes cyB f0_bytes)) hP hD [0] [1] [1, 0] hCc rfl (by decide +kernel) (by decide +kernel) (by decide +kernel) rfl hk1 hFc hP1 hD1
  generalize H1 = H at hP hS ⊢
  refine lv_if_ne (tgt := 35) hx hb (dt_of tkX8_takes_k0 4 rfl) (by decide) (fun c3 => ?_) (fun c3 => ?_)
  · have hw := hw.1 c3
    refine lv_iconst (v := 0) hx hb (dt_of tkX8_takes_k32 1 rfl) (by decide) ?_
    exact ((W.zret (v := 0) hx hb hr rfl (fun t ht hW => ⟨⟨0, (x1, v0_token), rfl, hw, by rw [ht]; exact hP, va_K.moved hW.alike hK, hD⟩, hS.F ht⟩) hS.2.2 (dt_of tkX8_takes_k32 2 rfl)))
  · have hw := hw.2 c3
    refine lv_aload_n hx hb (dt_of tkX8_takes_k0 5 rfl) rfl (lv_at hl 0 rfl) ?_
    refine va_get (D := (dC, dI)) (ci := 8) (v := .int x1) (C := RX8) (T := TX8) (N := 7) hx hb hts ui_X8_takes_X8 hown hK hP 0 rfl rfl 2 (by decide) (hts _ uw_X8_takes_f31) (fun _ h9 => h9) rfl (dt_of tkX8_takes_k0 6 rfl) ?_
    refine lv_aload_n hx hb (dt_of tkX8_takes_k0 7 rfl) rfl (lv_at hl 0 rfl) ?_
    refine va_get (D := (dC, dI)) (ci := 8) (v := .int v0_length) (C := RX8) (T := TX8) (N := 7) hx hb hts ui_X8_takes_X8 hown hK hP 0 rfl rfl 1 (by decide) (hts _ uw_X8_takes_f28) (fun _ h9 => h9) rfl (dt_of tkX8_takes_k0 8 rfl) ?_
    refine lv_icmp_ge (tgt := 35) hx hb (dt_of tkX8_takes_k0 9 rfl) (by decide) (fun c4 => ?_) (fun c4 => ?_)
    · have hw := hw.1 c4
      refine lv_iconst (v := 0) hx hb (dt_of tkX8_takes_k32 1 rfl) (by decide) ?_
      exact ((W.zret (v := 0) hx hb hr rfl (fun t ht hW => ⟨⟨0, (x1, v0_token), rfl, hw, by rw [ht]; exact hP, va_K.moved hW.alike hK, hD⟩, hS.F ht⟩) hS.2.2 (dt_of tkX8_takes_k32 2 rfl)))
    · have hw := hw.2 c4
      refine lv_aload_n hx hb (dt_of tkX8_takes_k0 10 rfl) rfl (lv_at hl 0 rfl) ?_
      refine va_get (D := (dC, dI)) (ci := 8) (v := .ref a0_bytes) (C := RX8) (T := TX8) (N := 7) hx hb hts ui_X8_takes_X8 hown hK hP 0 rfl rfl 0 (by decide) (hts _ uw_X8_takes_f11) (fun _ h9 => h9) rfl (dt_of tkX8_takes_k0 11 rfl) ?_
      refine lv_aload_n hx hb (dt_of tkX8_takes_k0 12 rfl) rfl (lv_at hl 0 rfl) ?_
      refine va_get (D := (dC, dI)) (ci := 8) (v := .int x1) (C := RX8) (T := TX8) (N := 7) hx hb hts ui_X8_takes_X8 hown hK hP 0 rfl rfl 2 (by decide) (hts _ uw_X8_takes_f31) (fun _ h9 => h9) rfl (dt_of tkX8_takes_k0 13 rfl) ?_
      obtain ⟨hi9, hw⟩ := hw
      refine va_bald hx hb hK hP 1 0 rfl rfl hi9 (dt_of tkX8_takes_k0 14 rfl) ?_
      refine lv_topi (fun x5 ex5 => ?_)
      have hw := hw x5 ex5
      refine lv_iload_n hx hb (dt_of tkX8_takes_k0 15 rfl) rfl (lv_at hl 1 rfl) ?_
      refine lv_icmp_eq (tgt := 37) hx hb (dt_of tkX8_takes_k32 0 rfl) (by decide) (fun c6 => ?_) (fun c6 => ?_)
      · have hw := hw.1 c6
        refine lv_aload_n hx hb (dt_of tkX8_takes_k32 3 rfl) rfl (lv_at hl 0 rfl) ?_
        refine lv_aload_n hx hb (dt_of tkX8_takes_k32 4 rfl) rfl (lv_at hl 0 rfl) ?_
        refine va_get (D := (dC, dI)) (ci := 8) (v := .int x1) (C := RX8) (T := TX8) (N := 7) hx hb hts ui_X8_takes_X8 hown hK hP 0 rfl rfl 2 (by decide) (hts _ uw_X8_takes_f31) (fun _ h9 => h9) rfl (dt_of tkX8_takes_k32 5 rfl) ?_
        refine va_put (D := (dC, dI)) (ci := 8) (v := .int x1) (ty := .int) (C := RX8) (T := TX8) (N := 7) hx hb hts ui_X8_takes_X8 tyX8 tyX8_ok nmX8 hown hK hP hD hS 0 rfl rfl 3 (by decide) (hts _ uw_X8_takes_f34) (fun _ h9 => h9) rfl (by decide +kernel) rfl rfl (Nat.le_of_ble_eq_true rfl) (dt_of tkX8_takes_k32 6 rfl) (fun H locs hP hD hS => ?_)
        have hP : va_P (dC, dI) vwCl (wd00_36 a0 a0_bytes v0_length x1 x1 z0_filled v0_fault z0_faultPlace a0_bytes cyB f0_bytes) H := hP
        have hD : va_D A (wd00_36 a0 a0_bytes v0_length x1 x1 z0_filled v0_fault z0_faultPlace a0_bytes cyB f0_bytes) := hD
        refine lv_aload_n hx hb (dt_of tkX8_takes_k32 7 rfl) rfl (lv_at hl 0 rfl) ?_
        refine lv_dup hx hb (dt_of tkX8_takes_k32 8 rfl) rfl ?_
        refine va_get (D := (dC, dI)) (ci := 8) (v := .int x1) (C := RX8) (T := TX8) (N := 7) hx hb hts ui_X8_takes_X8 hown hK hP 0 rfl rfl 2 (by decide) (hts _ uw_X8_takes_f31) (fun _ h9 => h9) rfl (dt_of tkX8_takes_k32 9 rfl) ?_
        refine lv_iconst (v := 1) hx hb (dt_of tkX8_takes_k32 10 rfl) (by decide) ?_
        refine lv_iadd hx hb (dt_of tkX8_takes_k32 11 rfl) ?_
        refine lv_topi (fun x7 ex7 => ?_)
        have hw := hw x7 ex7
        refine va_put (D := (dC, dI)) (ci := 8) (v := .int x7) (ty := .int) (C := RX8) (T := TX8) (N := 7) hx hb hts ui_X8_takes_X8 tyX8 tyX8_ok nmX8 hown hK hP hD hS 0 rfl rfl 2 (by decide) (hts _ uw_X8_takes_f31) (fun _ h9 => h9) rfl (by decide +kernel) rfl rfl (Nat.le_of_ble_eq_true rfl) (dt_of tkX8_takes_k32 12 rfl) (fun H locs hP hD hS => ?_)
        have hP : va_P (dC, dI) vwCl (wd00_36 a0 a0_bytes v0_length x7 x1 z0_filled v0_fault z0_faultPlace a0_bytes cyB f0_bytes) H := hP
        have hD : va_D A (wd00_36 a0 a0_bytes v0_length x7 x1 z0_filled v0_fault z0_faultPlace a0_bytes cyB f0_bytes) := hD
        refine lv_iconst (v := 1) hx hb (dt_of tkX8_takes_k32 13 rfl) (by decide) ?_
        exact ((W.zret (v := 1) hx hb hr rfl (fun t ht hW => ⟨⟨1, (x7, x1), rfl, hw, by rw [ht]; exact hP, va_K.moved hW.alike hK, hD⟩, hS.F ht⟩) hS.2.2 (dt_of tkX8_takes_k32 14 rfl)))
      · have hw := hw.2 c6
        refine lv_iconst (v := 0) hx hb (dt_of tkX8_takes_k32 1 rfl) (by decide) ?_
        exact ((W.zret (v := 0) hx hb hr rfl (fun t ht hW => ⟨⟨0, (x1, v0_token), rfl, hw, by rw [ht]; exact hP, va_K.moved hW.alike hK, hD⟩, hS.F ht⟩) hS.2.2 (dt_of tkX8_takes_k32 2 rfl)))
theorem ui_X8_blameSign_X8 : ∀ w ∈ u_ws RX8 TX8 7, w ∈ wsX8_blameSign := uiM mbX8_blameSign euX8 (by decide +kernel)
theorem uw_X8_blameSign_f31 : (.fieldLink RX8 31 "MarchHares$Tape" "at" "I" : Cond) ∈ wsX8_blameSign := mbX8_blameSign 713 (by decide +kernel)
set_option maxHeartbeats 4000000 in
set_option maxRecDepth 100000 in
theorem ck_X8_blameSign (l : Launch) (dC : Nat → ClassId) (dI : Nat → Nat → Nat) (cyB cyI cyJ cyP : ClassId) (a0 a0_bytes : Nat) (sz : Nat) (z0_token : Value) (z0_filled : Value) (v0_length : Int32) (f0_bytes : Nat → Int32) (v0_at : Int32) (v0_fault : Int32) (v0_faultPlace : Int32)  {Q : Int32 → Int32 → Int32 → Prop} (hw : wq_X8_blameSign v0_length f0_bytes v0_at v0_fault v0_faultPlace  Q) : Met l yX8_blameSign wsX8_blameSign ({ frames := 1, cells := 0, slots := 0, locals := 22 }) (va_Pc [.ref a0] (cPc (dC, dI) (kT cyB cyI cyJ cyP) (wd00_38 a0 a0_bytes v0_length v0_at z0_token z0_filled v0_fault v0_faultPlace a0_bytes cyB f0_bytes) sz)) (va_Qv (fun (u : Int32 × Int32 × Int32) => Q u.1 u.2.1 u.2.2) (cB (dC, dI) (kT cyB cyI cyJ cyP) (va_A (wd00_38 a0 a0_bytes v0_length v0_at z0_token z0_filled v0_fault v0_faultPlace a0_bytes cyB f0_bytes) sz) (fun u : Int32 × Int32 × Int32 => ((wd00_38 a0 a0_bytes v0_length u.1 z0_token z0_filled u.2.1 u.2.2 a0_bytes cyB f0_bytes) : va_W))) (va_A (wd00_38 a0 a0_bytes v0_length v0_at z0_token z0_filled v0_fault v0_faultPlace a0_bytes cyB f0_bytes) sz)) 0 0 (va_A (wd00_38 a0 a0_bytes v0_length v0_at z0_token z0_filled v0_fault v0_faultPlace a0_bytes cyB f0_bytes) sz) := by
  refine Met.ofW (cc := cX8_blameSign) (maxL := 1) (ret := none) (by decide) rfl ?_
  intro p e s m args below meth c s₁ B hml hv
  obtain ⟨rfl, hsz, hP, hK, hD0, hNw⟩ := hv
  have hx := B.exec
  have hb := B.bytes
  have hr := B.returns
  have hts := atoms_spec (ws := wsX8_blameSign) B.pre
  have hown : s.vm.findClass RX8 = some m.cls := findClass_of_methodNamed B.named
  have hlocks := B.notSynchronized
  subst hsz
  have hD := hD0.self (sz := s.heap.size)
  generalize hAe : va_A (wd00_38 a0 a0_bytes v0_length v0_at z0_token z0_filled v0_fault v0_faultPlace a0_bytes cyB f0_bytes) s.heap.size = A at hD ⊢
  have hA : ∀ q : Nat, s.heap.size ≤ q → A q := fun q h => by rw [← hAe]; exact Or.inr h
  have hS : va_S A s.heap s.heap [] := va_S.rf
  have hP : va_P (dC, dI) vwCl (wd00_38 a0 a0_bytes v0_length v0_at z0_token z0_filled v0_fault v0_faultPlace a0_bytes cyB f0_bytes) s.heap := hP
  have hl := lv_entry ([.ref a0]) (n := 1) (Nat.le_of_ble_eq_true rfl)
  rw [lg_entry_eq]
  generalize (lg_sl ([.ref a0]) ++ List.replicate (1 - (lg_sl ([.ref a0])).length) Slot.unset).toArray = ls at hl ⊢
  have hl : lv_has ls 1 [(0, .ref a0)] := hl
  have C0 : cfx p s m _ meth c cX8_blameSign none wsX8_blameSign RX8 1 A (dC, dI) (kT cyB cyI cyJ cyP) := ⟨hx, hb, hr, hts, hown, hlocks, hml, hA, hK, hNw⟩
  clear hAe
  obtain ⟨H, hH⟩ : ∃ H, H = s.heap := ⟨_, rfl⟩
  rw [← hH] at hP ⊢
  have hS : va_S A s.heap H [] := by rw [hH]; exact va_S.rf
  have hS := hS
  refine lv_aload_n hx hb (dt_of tkX8_blameSign_k0 0 rfl) rfl (lv_at hl 0 rfl) ?_
  obtain ⟨hCc, hPc, hDc, hFc⟩ := va_pick (ws' := (wd00_38 a0 a0_bytes v0_length v0_at z0_token z0_filled v0_fault v0_faultPlace a0_bytes cyB f0_bytes)) hP hD hS hA [0, 1] (by decide +kernel) rfl
  refine va_callv (va_runV (As := []) (rest := []) ⟨hx, hb, hml, hown, hts⟩ (ck_X8_skipBlanks l dC dI cyB cyI cyJ cyP a0 a0_bytes H.size (z0_token) (z0_filled) (.int v0_fault) (.int v0_faultPlace) v0_length f0_bytes v0_at  hw) (cwV 0 hts gX8_blameSign_X8_skipBlanks rfl rfl rfl (by decide +kernel) ⟨Nat.le_of_ble_eq_true rfl, Nat.le_of_ble_eq_true rfl⟩) ⟨cPc_blind, va_recv (q := (RX8, TX8, 7)) hK hPc (ci := 8) (q0 := 0) rfl rfl, cPc_pre hPc hK hDc hNw⟩ rfl rfl hl.1 rfl (lv_room (Nat.le_of_ble_eq_true rfl)) (dt_of tkX8_blameSign_k0 1 rfl) ⟨Nat.le_of_ble_eq_true rfl, Nat.le_of_ble_eq_true rfl⟩) hS (fun q _ h => hFc q h) hFc (fun u t H1 locs ht hvm hw hB hz1 hk1 hS => ?_)
  obtain ⟨x1, rfl⟩ : ∃ z, z = u := ⟨_, rfl⟩
  obtain ⟨hP1, hK1, hD1⟩ := hB
  rw [ht] at hP1
  obtain ⟨hP, hD⟩ := va_joinI (wr := []) (w1 := (wd00_38 a0 a0_bytes v0_length x1 z0_token z0_filled v0_fault v0_faultPlace a0_bytes cyB f0_bytes)) (wn := (wd00_38 a0 a0_bytes v0_length x1 z0_token z0_filled v0_fault v0_faultPlace a0_bytes cyB f0_bytes)) hP hD [0, 1] [] hCc rfl (by decide +kernel) (by decide +kernel) rfl hk1 hFc hP1 hD1
  generalize H1 = H at hP hS ⊢
  refine lv_aload_n hx hb (dt_of tkX8_blameSign_k0 2 rfl) rfl (lv_at hl 0 rfl) ?_
  refine lv_iconst (v := 1) hx hb (dt_of tkX8_blameSign_k0 3 rfl) (by decide) ?_
  refine lv_aload_n hx hb (dt_of tkX8_blameSign_k0 4 rfl) rfl (lv_at hl 0 rfl) ?_
  refine va_get (D := (dC, dI)) (ci := 8) (v := .int x1) (C := RX8) (T := TX8) (N := 7) hx hb hts ui_X8_blameSign_X8 hown hK hP 0 rfl rfl 2 (by decide) (hts _ uw_X8_blameSign_f31) (fun _ h9 => h9) rfl (dt_of tkX8_blameSign_k0 5 rfl) ?_
  obtain ⟨hCc, hPc, hDc, hFc⟩ := va_pick (ws' := (wd00_39 a0 a0_bytes v0_length x1 z0_token z0_filled v0_fault v0_faultPlace)) hP hD hS hA [0] (by decide +kernel) rfl
  refine va_callv (va_runV (As := [.int 1, .int x1]) (rest := []) ⟨hx, hb, hml, hown, hts⟩ (ck_X8_blame l dC dI cyB cyI cyJ cyP a0 H.size (.ref a0_bytes) (.int v0_length) (.int x1) (z0_token) (z0_filled)  v0_fault v0_faultPlace 1 x1 hw) (cwV 2 hts gX8_blameSign_X8_blame rfl rfl rfl (by decide +kernel) ⟨Nat.le_of_ble_eq_true rfl, Nat.le_of_ble_eq_true rfl⟩) ⟨cPc_blind, va_recv (q := (RX8, TX8, 7)) hK hPc (ci := 8) (q0 := 0) rfl rfl, cPc_pre hPc hK hDc hNw⟩ rfl rfl hl.1 rfl (lv_room (Nat.le_of_ble_eq_true rfl)) (dt_of tkX8_blameSign_k0 6 rfl) ⟨Nat.le_of_ble_eq_true rfl, Nat.le_of_ble_eq_true rfl⟩) hS (fun q _ h => hFc q h) hFc (fun u t H1 locs ht hvm hw hB hz1 hk1 hS => ?_)
  obtain ⟨x2, x3⟩ := u
  obtain ⟨hP1, hK1, hD1⟩ := hB
  rw [ht] at hP1
  obtain ⟨hP, hD⟩ := va_joinN (wr := (wd00_33 a0_bytes cyB f0_bytes)) (w1 := (wd00_39 a0 a0_bytes v0_length x1 z0_token z0_filled x2 x3)) (wn := (wd00_38 a0 a0_bytes v0_length x1 z0_token z0_filled x2 x3 a0_bytes cyB f0_bytes)) hP hD [0] [1] [1, 0] hCc rfl (by decide +kernel) (by decide +kernel) (by decide +kernel) rfl hk1 hFc hP1 hD1
  generalize H1 = H at hP hS ⊢
  exact ((W.vret hx hb hr (fun t ht hW => ⟨⟨(x1, x2, x3), rfl, hw, by rw [ht]; exact hP, va_K.moved hW.alike hK, hD⟩, hS.F ht⟩) hS.2.2 (dt_of tkX8_blameSign_k0 7 rfl)))
set_option maxHeartbeats 4000000 in
set_option maxRecDepth 100000 in
theorem ck_X8_needs (l : Launch) (dC : Nat → ClassId) (dI : Nat → Nat → Nat) (cyB cyI cyJ cyP : ClassId) (a0 a0_bytes : Nat) (sz : Nat) (z0_filled : Value) (v0_length : Int32) (f0_bytes : Nat → Int32) (v0_at : Int32) (v0_token : Int32) (v0_fault : Int32) (v0_faultPlace : Int32) (p1 : Int32) {Q : Int32 → Int32 → Int32 → Int32 → Prop} (hw : wq_X8_needs v0_length f0_bytes v0_at v0_token v0_fault v0_faultPlace p1 Q) : Met l yX8_needs wsX8_needs ({ frames := 2, cells := 0, slots := 0, locals := 42 }) (va_Pc [.ref a0, .int p1] (cPc (dC, dI) (kT cyB cyI cyJ cyP) (wd00_31 a0 a0_bytes v0_length v0_at v0_token z0_filled v0_fault v0_faultPlace a0_bytes cyB f0_bytes) sz)) (va_Qv (fun (u : Int32 × Int32 × Int32 × Int32) => Q u.1 u.2.1 u.2.2.1 u.2.2.2) (cB (dC, dI) (kT cyB cyI cyJ cyP) (va_A (wd00_31 a0 a0_bytes v0_length v0_at v0_token z0_filled v0_fault v0_faultPlace a0_bytes cyB f0_bytes) sz) (fun u : Int32 × Int32 × Int32 × Int32 => ((wd00_31 a0 a0_bytes v0_length u.1 u.2.1 z0_filled u.2.2.1 u.2.2.2 a0_bytes cyB f0_bytes) : va_W))) (va_A (wd00_31 a0 a0_bytes v0_length v0_at v0_token z0_filled v0_fault v0_faultPlace a0_bytes cyB f0_bytes) sz)) 0 0 (va_A (wd00_31 a0 a0_bytes v0_length v0_at v0_token z0_filled v0_fault v0_faultPlace a0_bytes cyB f0_bytes) sz) := by
  refine Met.ofW (cc := cX8_needs) (maxL := 2) (ret := none) (by decide) rfl ?_
  intro p e s m args below meth c s₁ B hml hv
  obtain ⟨rfl, hsz, hP, hK, hD0, hNw⟩ := hv
  have hx := B.exec
  have hb := B.bytes
  have hr := B.returns
  have hts := atoms_spec (ws := wsX8_needs) B.pre
  have hown : s.vm.findClass RX8 = some m.cls := findClass_of_methodNamed B.named
  have hlocks := B.notSynchronized
  subst hsz
  have hD := hD0.self (sz := s.heap.size)
  generalize hAe : va_A (wd00_31 a0 a0_bytes v0_length v0_at v0_token z0_filled v0_fault v0_faultPlace a0_bytes cyB f0_bytes) s.heap.size = A at hD ⊢
  have hA : ∀ q : Nat, s.heap.size ≤ q → A q := fun q h => by rw [← hAe]; exact Or.inr h
  have hS : va_S A s.heap s.heap [] := va_S.rf
  have hP : va_P (dC, dI) vwCl (wd00_31 a0 a0_bytes v0_length v0_at v0_token z0_filled v0_fault v0_faultPlace a0_bytes cyB f0_bytes) s.heap := hP
  have hl := lv_entry ([.ref a0, .int p1]) (n := 2) (Nat.le_of_ble_eq_true rfl)
  rw [lg_entry_eq]
  generalize (lg_sl ([.ref a0, .int p1]) ++ List.replicate (2 - (lg_sl ([.ref a0, .int p1])).length) Slot.unset).toArray = ls at hl ⊢
  have hl : lv_has ls 2 [(0, .ref a0), (1, .int p1)] := hl
  have C0 : cfx p s m _ meth c cX8_needs none wsX8_needs RX8 2 A (dC, dI) (kT cyB cyI cyJ cyP) := ⟨hx, hb, hr, hts, hown, hlocks, hml, hA, hK, hNw⟩
  clear hAe
  obtain ⟨H, hH⟩ : ∃ H, H = s.heap := ⟨_, rfl⟩
  rw [← hH] at hP ⊢
  have hS : va_S A s.heap H [] := by rw [hH]; exact va_S.rf
  have hS := hS
  refine lv_aload_n hx hb (dt_of tkX8_needs_k0 0 rfl) rfl (lv_at hl 0 rfl) ?_
  refine lv_iload_n hx hb (dt_of tkX8_needs_k0 1 rfl) rfl (lv_at hl 1 rfl) ?_
  obtain ⟨hCc, hPc, hDc, hFc⟩ := va_pick (ws' := (wd00_31 a0 a0_bytes v0_length v0_at v0_token z0_filled v0_fault v0_faultPlace a0_bytes cyB f0_bytes)) hP hD hS hA [0, 1] (by decide +kernel) rfl
  refine va_calli (va_runV (As := [.int p1]) (rest := []) ⟨hx, hb, hml, hown, hts⟩ (ck_X8_takes l dC dI cyB cyI cyJ cyP a0 a0_bytes H.size (z0_filled) (.int v0_faultPlace) v0_length v0_fault f0_bytes v0_at v0_token p1 hw) (cwV 1 hts gX8_needs_X8_takes rfl rfl rfl (by decide +kernel) ⟨Nat.le_of_ble_eq_true rfl, Nat.le_of_ble_eq_true rfl⟩) ⟨cPc_blind, va_recv (q := (RX8, TX8, 7)) hK hPc (ci := 8) (q0 := 0) rfl rfl, cPc_pre hPc hK hDc hNw⟩ rfl rfl hl.1 rfl (lv_room (Nat.le_of_ble_eq_true rfl)) (dt_of tkX8_needs_k0 2 rfl) ⟨Nat.le_of_ble_eq_true rfl, Nat.le_of_ble_eq_true rfl⟩) hS (fun q _ h => hFc q h) hFc (fun r3 u t H1 locs ht hvm hw hB hz1 hk1 hS => ?_)
  obtain ⟨x1, x2⟩ := u
  obtain ⟨hP1, hK1, hD1⟩ := hB
  rw [ht] at hP1
  obtain ⟨hP, hD⟩ := va_joinI (wr := []) (w1 := (wd00_31 a0 a0_bytes v0_length x1 x2 z0_filled v0_fault v0_faultPlace a0_bytes cyB f0_bytes)) (wn := (wd00_31 a0 a0_bytes v0_length x1 x2 z0_filled v0_fault v0_faultPlace a0_bytes cyB f0_bytes)) hP hD [0, 1] [] hCc rfl (by decide +kernel) (by decide +kernel) rfl hk1 hFc hP1 hD1
  generalize H1 = H at hP hS ⊢
  refine lv_if_ne (tgt := 12) hx hb (dt_of tkX8_needs_k0 3 rfl) (by decide) (fun c4 => ?_) (fun c4 => ?_)
  · have hw := hw.1 c4
    exact ((W.vret hx hb hr (fun t ht hW => ⟨⟨(x1, x2, v0_fault, v0_faultPlace), rfl, hw, by rw [ht]; exact hP, va_K.moved hW.alike hK, hD⟩, hS.F ht⟩) hS.2.2 (dt_of tkX8_needs_k0 6 rfl)))
  · have hw := hw.2 c4
    refine lv_aload_n hx hb (dt_of tkX8_needs_k0 4 rfl) rfl (lv_at hl 0 rfl) ?_
    obtain ⟨hCc, hPc, hDc, hFc⟩ := va_pick (ws' := (wd00_31 a0 a0_bytes v0_length x1 x2 z0_filled v0_fault v0_faultPlace a0_bytes cyB f0_bytes)) hP hD hS hA [0, 1] (by decide +kernel) rfl
    refine va_callv (va_runV (As := []) (rest := []) ⟨hx, hb, hml, hown, hts⟩ (ck_X8_blameSign l dC dI cyB cyI cyJ cyP a0 a0_bytes H.size (.int x2) (z0_filled) v0_length f0_bytes x1 v0_fault v0_faultPlace  hw) (cwV 0 hts gX8_needs_X8_blameSign rfl rfl rfl (by decide +kernel) ⟨Nat.le_of_ble_eq_true rfl, Nat.le_of_ble_eq_true rfl⟩) ⟨cPc_blind, va_recv (q := (RX8, TX8, 7)) hK hPc (ci := 8) (q0 := 0) rfl rfl, cPc_pre hPc hK hDc hNw⟩ rfl rfl hl.1 rfl (lv_room (Nat.le_of_ble_eq_true rfl)) (dt_of tkX8_needs_k0 5 rfl) ⟨Nat.le_of_ble_eq_true rfl, Nat.le_of_ble_eq_true rfl⟩) hS (fun q _ h => hFc q h) hFc (fun u t H1 locs ht hvm hw hB hz1 hk1 hS => ?_)
    obtain ⟨x5, x6, x7⟩ := u
    obtain ⟨hP1, hK1, hD1⟩ := hB
    rw [ht] at hP1
    obtain ⟨hP, hD⟩ := va_joinI (wr := []) (w1 := (wd00_31 a0 a0_bytes v0_length x5 x2 z0_filled x6 x7 a0_bytes cyB f0_bytes)) (wn := (wd00_31 a0 a0_bytes v0_length x5 x2 z0_filled x6 x7 a0_bytes cyB f0_bytes)) hP hD [0, 1] [] hCc rfl (by decide +kernel) (by decide +kernel) rfl hk1 hFc hP1 hD1
    generalize H1 = H at hP hS ⊢
    exact ((W.vret hx hb hr (fun t ht hW => ⟨⟨(x5, x2, x6, x7), rfl, hw, by rw [ht]; exact hP, va_K.moved hW.alike hK, hD⟩, hS.F ht⟩) hS.2.2 (dt_of tkX8_needs_k0 6 rfl)))
theorem ui_X0_readLine_X0 : ∀ w ∈ u_ws RX0 TX0 2, w ∈ wsX0_readLine := uiM mbX0_readLine euX0 (by decide +kernel)
theorem uw_X0_readLine_f18 : (.fieldLink RX0 18 "MarchHares$Book" "many" "I" : Cond) ∈ wsX0_readLine := mbX0_readLine 262 (by decide +kernel)
theorem uw_X0_readLine_f9 : (.fieldLink RX0 9 "MarchHares$Book" "seen" "[I" : Cond) ∈ wsX0_readLine := mbX0_readLine 257 (by decide +kernel)
theorem uw_X0_readLine_iniRX10 : (.initialized RX10 : Cond) ∈ wsX0_readLine := mbX0_readLine 2 (by decide +kernel)
theorem uw_X0_readLine_stX10_within : (.static yX10_within : Cond) ∈ wsX0_readLine := mbX0_readLine 658 (by decide +kernel)
set_option maxHeartbeats 4000000 in
set_option maxRecDepth 100000 in
theorem kb_X0_readLine_33 {p : Program} {l : Launch} {e : Env} {s : State} {m : MethodId} {args : Array Value} {below : List Frame} {meth : Method} {c : Code} {A : Nat → Prop} (dC : Nat → ClassId) (dI : Nat → Nat → Nat) (cyB cyI cyJ cyP : ClassId) (a0 a1 a1_bytes a0_seen : Nat) (z1_filled : Value) (v1_length : Int32) (f1_bytes : Nat → Int32) (Q : Int32 → Int32 → Int32 → Int32 → (Nat → Int32) → Int32 → Prop)  (C0 : cfx p s m args meth c cX0_readLine none wsX0_readLine RX0 5 A (dC, dI) (kT cyB cyI cyJ cyP)) : ∀ (H : Heap) (locs : List Loc) (ls : Array Slot) (v1_at : Int32) (v1_fault : Int32) (v1_faultPlace : Int32) (v1_token : Int32) (f0_seen : Nat → Int32) (v0_many : Int32) (l3 : Int32), va_P (dC, dI) vwCl (wd00_40 a0 a0_seen v0_many a1 a1_bytes v1_length v1_at v1_token z1_filled v1_fault v1_faultPlace a1_bytes cyB f1_bytes a0_seen cyI f0_seen) H → va_D A (wd00_40 a0 a0_seen v0_many a1 a1_bytes v1_length v1_at v1_token z1_filled v1_fault v1_faultPlace a1_bytes cyB f1_bytes a0_seen cyI f0_seen) → va_S A s.heap H locs → lv_has ls 5 [(0, .ref a0), (1, .ref a1), (3, .int l3)] → wb_X0_readLine_33 v1_length f1_bytes Q  v1_at v1_fault v1_faultPlace v1_token f0_seen v0_many l3 → W p l e (headSpec wsX0_readLine ({ frames := 3, cells := 0, slots := 0, locals := 63 })).room s m args below meth c H locs 0 0 (MQ below (va_Qv (fun (u : Int32 × Int32 × Int32 × Int32 × (Nat → Int32) × Int32) => Q u.1 u.2.1 u.2.2.1 u.2.2.2.1 u.2.2.2.2.1 u.2.2.2.2.2) (cB (dC, dI) (kT cyB cyI cyJ cyP) A (fun u : Int32 × Int32 × Int32 × Int32 × (Nat → Int32) × Int32 => ((wd00_40 a0 a0_seen u.2.2.2.2.2 a1 a1_bytes v1_length u.1 u.2.2.2.1 z1_filled u.2.1 u.2.2.1 a1_bytes cyB f1_bytes a0_seen cyI u.2.2.2.2.1) : va_W))) A) args s 0 0 A) (F0 m 33 ls []) := by
  obtain ⟨hx, hb, hr, hts, hown, hlocks, hml, hA, hK, hNw⟩ := id C0
  intro H locs ls v1_at v1_fault v1_faultPlace v1_token f0_seen v0_many l3 hP hD hS hl hw
  refine lv_aload_n hx hb (dt_of tkX0_readLine_k22 5 rfl) rfl (lv_at hl 1 rfl) ?_
  refine lv_iconst (v := 0) hx hb (dt_of tkX0_readLine_k22 6 rfl) (by decide) ?_
  refine lv_bipush (v := 6) hx hb (dt_of tkX0_readLine_k22 7 rfl) (by decide) ?_
  obtain ⟨hCc, hPc, hDc, hFc⟩ := va_pick (ws' := (wd00_31 a1 a1_bytes v1_length v1_at v1_token z1_filled v1_fault v1_faultPlace a1_bytes cyB f1_bytes)) hP hD hS hA [1, 2] (by decide +kernel) rfl
  refine va_calli (va_runV (As := [.int 0, .int 6]) (rest := []) ⟨hx, hb, hml, hown, hts⟩ (ck_X8_number l dC dI cyB cyI cyJ cyP a1 a1_bytes H.size (z1_filled) v1_length f1_bytes v1_at v1_fault v1_faultPlace v1_token 0 6 hw) (cwV 2 hts gX0_readLine_X8_number rfl rfl rfl (by decide +kernel) ⟨Nat.le_of_ble_eq_true rfl, Nat.le_of_ble_eq_true rfl⟩) ⟨cPc_blind, va_recv (q := (RX8, TX8, 7)) hK hPc (ci := 8) (q0 := 0) rfl rfl, cPc_pre hPc hK hDc hNw⟩ rfl rfl hl.1 rfl (lv_room (Nat.le_of_ble_eq_true rfl)) (dt_of tkX0_readLine_k22 8 rfl) ⟨Nat.le_of_ble_eq_true rfl, Nat.le_of_ble_eq_true rfl⟩) hS (fun q _ h => hFc q h) hFc (fun r16 u t H1 locs ht hvm hw hB hz1 hk1 hS => ?_)
  obtain ⟨x12, x13, x14, x15⟩ := u
  obtain ⟨hP1, hK1, hD1⟩ := hB
  rw [ht] at hP1
  obtain ⟨hP, hD⟩ := va_joinN (wr := (wd00_26 a0 a0_seen v0_many a0_seen cyI f0_seen)) (w1 := (wd00_31 a1 a1_bytes v1_length x12 x15 z1_filled x13 x14 a1_bytes cyB f1_bytes)) (wn := (wd00_40 a0 a0_seen v0_many a1 a1_bytes v1_length x12 x15 z1_filled x13 x14 a1_bytes cyB f1_bytes a0_seen cyI f0_seen)) hP hD [1, 2] [0, 3] [0, 2, 3, 1] hCc rfl (by decide +kernel) (by decide +kernel) (by decide +kernel) rfl hk1 hFc hP1 hD1
  generalize H1 = H at hP hS ⊢
  refine lv_istore (lv' := [(4, .int r16), (0, .ref a0), (1, .ref a1), (3, .int l3)]) hx hb (dt_of tkX0_readLine_k22 9 rfl) hl (by decide) rfl (fun ls hl => ?_)
  refine lv_aload_n hx hb (dt_of tkX0_readLine_k22 10 rfl) rfl (lv_at hl 2 rfl) ?_
  refine lv_bipush (v := 59) hx hb (dt_of tkX0_readLine_k22 11 rfl) (by decide) ?_
  obtain ⟨hCc, hPc, hDc, hFc⟩ := va_pick (ws' := (wd00_31 a1 a1_bytes v1_length x12 x15 z1_filled x13 x14 a1_bytes cyB f1_bytes)) hP hD hS hA [1, 2] (by decide +kernel) rfl
  refine va_callv (va_runV (As := [.int 59]) (rest := []) ⟨hx, hb, hml, hown, hts⟩ (ck_X8_needs l dC dI cyB cyI cyJ cyP a1 a1_bytes H.size (z1_filled) v1_length f1_bytes x12 x15 x13 x14 59 hw) (cwV 1 hts gX0_readLine_X8_needs rfl rfl rfl (by decide +kernel) ⟨Nat.le_of_ble_eq_true rfl, Nat.le_of_ble_eq_true rfl⟩) ⟨cPc_blind, va_recv (q := (RX8, TX8, 7)) hK hPc (ci := 8) (q0 := 0) rfl rfl, cPc_pre hPc hK hDc hNw⟩ rfl rfl hl.1 rfl (lv_room (Nat.le_of_ble_eq_true rfl)) (dt_of tkX0_readLine_k22 12 rfl) ⟨Nat.le_of_ble_eq_true rfl, Nat.le_of_ble_eq_true rfl⟩) hS (fun q _ h => hFc q h) hFc (fun u t H1 locs ht hvm hw hB hz1 hk1 hS => ?_)
  obtain ⟨x17, x18, x19, x20⟩ := u
  obtain ⟨hP1, hK1, hD1⟩ := hB
  rw [ht] at hP1
  obtain ⟨hP, hD⟩ := va_joinN (wr := (wd00_26 a0 a0_seen v0_many a0_seen cyI f0_seen)) (w1 := (wd00_31 a1 a1_bytes v1_length x17 x18 z1_filled x19 x20 a1_bytes cyB f1_bytes)) (wn := (wd00_40 a0 a0_seen v0_many a1 a1_bytes v1_length x17 x18 z1_filled x19 x20 a1_bytes cyB f1_bytes a0_seen cyI f0_seen)) hP hD [1, 2] [0, 3] [0, 2, 3, 1] hCc rfl (by decide +kernel) (by decide +kernel) (by decide +kernel) rfl hk1 hFc hP1 hD1
  generalize H1 = H at hP hS ⊢
  refine lv_aload_n hx hb (dt_of tkX0_readLine_k22 13 rfl) rfl (lv_at hl 2 rfl) ?_
  obtain ⟨hCc, hPc, hDc, hFc⟩ := va_pick (ws' := (wd00_32 a1 a1_bytes v1_length x17 x18 z1_filled x19 x20)) hP hD hS hA [1] (by decide +kernel) rfl
  refine va_calli (va_runV (As := []) (rest := []) ⟨hx, hb, hml, hown, hts⟩ (ck_X8_isFaulty l dC dI cyB cyI cyJ cyP a1 H.size (.ref a1_bytes) (.int v1_length) (.int x17) (.int x18) (z1_filled) (.int x20) x19   hw) (cwV 0 hts gX0_readLine_X8_isFaulty rfl rfl rfl (by decide +kernel) ⟨Nat.le_of_ble_eq_true rfl, Nat.le_of_ble_eq_true rfl⟩) ⟨cPc_blind, va_recv (q := (RX8, TX8, 7)) hK hPc (ci := 8) (q0 := 0) rfl rfl, cPc_pre hPc hK hDc hNw⟩ rfl rfl hl.1 rfl (lv_room (Nat.le_of_ble_eq_true rfl)) (dt_of tkX0_readLine_k22 14 rfl) ⟨Nat.le_of_ble_eq_true rfl, Nat.le_of_ble_eq_true rfl⟩) hS (fun q _ h => hFc q h) hFc (fun r21 u t H1 locs ht hvm hw hB hz1 hk1 hS => ?_)
  obtain ⟨hP1, hK1, hD1⟩ := hB
  rw [ht] at hP1
  obtain ⟨hP, hD⟩ := va_joinN (wr := (wd00_41 a0 a0_seen v0_many a1_bytes cyB f1_bytes a0_seen cyI f0_seen)) (w1 := (wd00_32 a1 a1_bytes v1_length x17 x18 z1_filled x19 x20)) (wn := (wd00_40 a0 a0_seen v0_many a1 a1_bytes v1_length x17 x18 z1_filled x19 x20 a1_bytes cyB f1_bytes a0_seen cyI f0_seen)) hP hD [1] [0, 2, 3] [0, 3, 1, 2] hCc rfl (by decide +kernel) (by decide +kernel) (by decide +kernel) rfl hk1 hFc hP1 hD1
  generalize H1 = H at hP hS ⊢
  refine lv_if_ne (tgt := 73) hx hb (dt_of tkX0_readLine_k22 15 rfl) (by decide) (fun c22 => ?_) (fun c22 => ?_)
  · have hw := hw.1 c22
    exact ((W.vret hx hb hr (fun t ht hW => ⟨⟨(x17, x19, x20, x18, f0_seen, v0_many), rfl, hw, by rw [ht]; exact hP, va_K.moved hW.alike hK, hD⟩, hS.F ht⟩) hS.2.2 (dt_of tkX0_readLine_k55 11 rfl)))
  · have hw := hw.2 c22
    refine lv_aload_n hx hb (dt_of tkX0_readLine_k55 0 rfl) rfl (lv_at hl 1 rfl) ?_
    refine va_get (D := (dC, dI)) (ci := 0) (v := .ref a0_seen) (C := RX0) (T := TX0) (N := 2) hx hb hts ui_X0_readLine_X0 hown hK hP 0 rfl rfl 0 (by decide) (hts _ uw_X0_readLine_f9) (fun _ h9 => h9) rfl (dt_of tkX0_readLine_k55 1 rfl) ?_
    refine lv_iload_n hx hb (dt_of tkX0_readLine_k55 2 rfl) rfl (lv_at hl 3 rfl) ?_
    refine lv_iload hx hb (dt_of tkX0_readLine_k55 3 rfl) (lv_at hl 0 rfl) ?_
    obtain ⟨hi9, hw⟩ := hw
    refine va_iast hx hb hK hP hD hS 3 1 rfl rfl hi9 (dt_of tkX0_readLine_k55 4 rfl) (fun H locs hP hD hS => ?_)
    obtain ⟨f23, ef23⟩ : ∃ y : Nat → Int32, y = upd f0_seen l3.toNatClampNeg r16 := ⟨_, rfl⟩
    have hw := hw f23 ef23
    have hP : va_P (dC, dI) vwCl (wd00_40 a0 a0_seen v0_many a1 a1_bytes v1_length x17 x18 z1_filled x19 x20 a1_bytes cyB f1_bytes a0_seen cyI f23) H := by rw [ef23]; exact hP
    have hD : va_D A (wd00_40 a0 a0_seen v0_many a1 a1_bytes v1_length x17 x18 z1_filled x19 x20 a1_bytes cyB f1_bytes a0_seen cyI f23) := by rw [ef23]; exact hD
    refine lv_aload_n hx hb (dt_of tkX0_readLine_k55 5 rfl) rfl (lv_at hl 1 rfl) ?_
    refine lv_dup hx hb (dt_of tkX0_readLine_k55 6 rfl) rfl ?_
    refine va_get (D := (dC, dI)) (ci := 0) (v := .int v0_many) (C := RX0) (T := TX0) (N := 2) hx hb hts ui_X0_readLine_X0 hown hK hP 0 rfl rfl 1 (by decide) (hts _ uw_X0_readLine_f18) (fun _ h9 => h9) rfl (dt_of tkX0_readLine_k55 7 rfl) ?_
    refine lv_iconst (v := 1) hx hb (dt_of tkX0_readLine_k55 8 rfl) (by decide) ?_
    refine lv_iadd hx hb (dt_of tkX0_readLine_k55 9 rfl) ?_
    refine lv_topi (fun x24 ex24 => ?_)
    have hw := hw x24 ex24
    refine va_put (D := (dC, dI)) (ci := 0) (v := .int x24) (ty := .int) (C := RX0) (T := TX0) (N := 2) hx hb hts ui_X0_readLine_X0 tyX0 tyX0_ok nmX0 hown hK hP hD hS 0 rfl rfl 1 (by decide) (hts _ uw_X0_readLine_f18) (fun _ h9 => h9) rfl (by decide +kernel) rfl rfl (Nat.le_of_ble_eq_true rfl) (dt_of tkX0_readLine_k55 10 rfl) (fun H locs hP hD hS => ?_)
    have hP : va_P (dC, dI) vwCl (wd00_40 a0 a0_seen x24 a1 a1_bytes v1_length x17 x18 z1_filled x19 x20 a1_bytes cyB f1_bytes a0_seen cyI f23) H := hP
    have hD : va_D A (wd00_40 a0 a0_seen x24 a1 a1_bytes v1_length x17 x18 z1_filled x19 x20 a1_bytes cyB f1_bytes a0_seen cyI f23) := hD
    exact ((W.vret hx hb hr (fun t ht hW => ⟨⟨(x17, x19, x20, x18, f23, x24), rfl, hw, by rw [ht]; exact hP, va_K.moved hW.alike hK, hD⟩, hS.F ht⟩) hS.2.2 (dt_of tkX0_readLine_k55 11 rfl)))
set_option maxHeartbeats 4000000 in
set_option maxRecDepth 100000 in
theorem ck_X0_readLine (l : Launch) (dC : Nat → ClassId) (dI : Nat → Nat → Nat) (cyB cyI cyJ cyP : ClassId) (a0 a1 a1_bytes a0_seen : Nat) (sz : Nat) (z1_filled : Value) (v1_length : Int32) (f1_bytes : Nat → Int32) (v1_at : Int32) (v1_fault : Int32) (v1_faultPlace : Int32) (v1_token : Int32) (f0_seen : Nat → Int32) (v0_many : Int32) (p2 : Int32) {Q : Int32 → Int32 → Int32 → Int32 → (Nat → Int32) → Int32 → Prop} (hw : wq_X0_readLine v1_length f1_bytes v1_at v1_fault v1_faultPlace v1_token f0_seen v0_many p2 Q) : Met l yX0_readLine wsX0_readLine ({ frames := 3, cells := 0, slots := 0, locals := 63 }) (va_Pc [.ref a0, .ref a1, .int p2] (cPc (dC, dI) (kT cyB cyI cyJ cyP) (wd00_40 a0 a0_seen v0_many a1 a1_bytes v1_length v1_at v1_token z1_filled v1_fault v1_faultPlace a1_bytes cyB f1_bytes a0_seen cyI f0_seen) sz)) (va_Qv (fun (u : Int32 × Int32 × Int32 × Int32 × (Nat → Int32) × Int32) => Q u.1 u.2.1 u.2.2.1 u.2.2.2.1 u.2.2.2.2.1 u.2.2.2.2.2) (cB (dC, dI) (kT cyB cyI cyJ cyP) (va_A (wd00_40 a0 a0_seen v0_many a1 a1_bytes v1_length v1_at v1_token z1_filled v1_fault v1_faultPlace a1_bytes cyB f1_bytes a0_seen cyI f0_seen) sz) (fun u : Int32 × Int32 × Int32 × Int32 × (Nat → Int32) × Int32 => ((wd00_40 a0 a0_seen u.2.2.2.2.2 a1 a1_bytes v1_length u.1 u.2.2.2.1 z1_filled u.2.1 u.2.2.1 a1_bytes cyB f1_bytes a0_seen cyI u.2.2.2.2.1) : va_W))) (va_A (wd00_40 a0 a0_seen v0_many a1 a1_bytes v1_length v1_at v1_token z1_filled v1_fault v1_faultPlace a1_bytes cyB f1_bytes a0_seen cyI f0_seen) sz)) 0 0 (va_A (wd00_40 a0 a0_seen v0_many a1 a1_bytes v1_length v1_at v1_token z1_filled v1_fault v1_faultPlace a1_bytes cyB f1_bytes a0_seen cyI f0_seen) sz) := by
  refine Met.ofW (cc := cX0_readLine) (maxL := 5) (ret := none) (by decide) rfl ?_
  intro p e s m args below meth c s₁ B hml hv
  obtain ⟨rfl, hsz, hP, hK, hD0, hNw⟩ := hv
  have hx := B.exec
  have hb := B.bytes
  have hr := B.returns
  have hts := atoms_spec (ws := wsX0_readLine) B.pre
  have hown : s.vm.findClass RX0 = some m.cls := findClass_of_methodNamed B.named
  have hlocks := B.notSynchronized
  subst hsz
  have hD := hD0.self (sz := s.heap.size)
  generalize hAe : va_A (wd00_40 a0 a0_seen v0_many a1 a1_bytes v1_length v1_at v1_token z1_filled v1_fault v1_faultPlace a1_bytes cyB f1_bytes a0_seen cyI f0_seen) s.heap.size = A at hD ⊢
  have hA : ∀ q : Nat, s.heap.size ≤ q → A q := fun q h => by rw [← hAe]; exact Or.inr h
  have hS : va_S A s.heap s.heap [] := va_S.rf
  have hP : va_P (dC, dI) vwCl (wd00_40 a0 a0_seen v0_many a1 a1_bytes v1_length v1_at v1_token z1_filled v1_fault v1_faultPlace a1_bytes cyB f1_bytes a0_seen cyI f0_seen) s.heap := hP
  have hl := lv_entry ([.ref a0, .ref a1, .int p2]) (n := 5) (Nat.le_of_ble_eq_true rfl)
  rw [lg_entry_eq]
  generalize (lg_sl ([.ref a0, .ref a1, .int p2]) ++ List.replicate (5 - (lg_sl ([.ref a0, .ref a1, .int p2])).length) Slot.unset).toArray = ls at hl ⊢
  have hl : lv_has ls 5 [(0, .ref a0), (1, .ref a1), (2, .int p2)] := hl
  have C0 : cfx p s m _ meth c cX0_readLine none wsX0_readLine RX0 5 A (dC, dI) (kT cyB cyI cyJ cyP) := ⟨hx, hb, hr, hts, hown, hlocks, hml, hA, hK, hNw⟩
  clear hAe
  obtain ⟨H, hH⟩ : ∃ H, H = s.heap := ⟨_, rfl⟩
  rw [← hH] at hP ⊢
  have hS : va_S A s.heap H [] := by rw [hH]; exact va_S.rf
  have hS := hS
  refine lv_aload_n hx hb (dt_of tkX0_readLine_k0 0 rfl) rfl (lv_at hl 1 rfl) ?_
  refine lv_iconst (v := 0) hx hb (dt_of tkX0_readLine_k0 1 rfl) (by decide) ?_
  refine lv_iload_n hx hb (dt_of tkX0_readLine_k0 2 rfl) rfl (lv_at hl 2 rfl) ?_
  refine lv_iconst (v := 1) hx hb (dt_of tkX0_readLine_k0 3 rfl) (by decide) ?_
  refine lv_isub hx hb (dt_of tkX0_readLine_k0 4 rfl) ?_
  obtain ⟨hCc, hPc, hDc, hFc⟩ := va_pick (ws' := (wd00_31 a1 a1_bytes v1_length v1_at v1_token z1_filled v1_fault v1_faultPlace a1_bytes cyB f1_bytes)) hP hD hS hA [1, 2] (by decide +kernel) rfl
  refine va_calli (va_runV (As := [.int 0, .int (p2 - 1)]) (rest := []) ⟨hx, hb, hml, hown, hts⟩ (ck_X8_number l dC dI cyB cyI cyJ cyP a1 a1_bytes H.size (z1_filled) v1_length f1_bytes v1_at v1_fault v1_faultPlace v1_token 0 (p2 - 1) hw) (cwV 2 hts gX0_readLine_X8_number rfl rfl rfl (by decide +kernel) ⟨Nat.le_of_ble_eq_true rfl, Nat.le_of_ble_eq_true rfl⟩) ⟨cPc_blind, va_recv (q := (RX8, TX8, 7)) hK hPc (ci := 8) (q0 := 0) rfl rfl, cPc_pre hPc hK hDc hNw⟩ rfl rfl hl.1 rfl (lv_room (Nat.le_of_ble_eq_true rfl)) (dt_of tkX0_readLine_k0 5 rfl) ⟨Nat.le_of_ble_eq_true rfl, Nat.le_of_ble_eq_true rfl⟩) hS (fun q _ h => hFc q h) hFc (fun r5 u t H1 locs ht hvm hw hB hz1 hk1 hS => ?_)
  obtain ⟨x1, x2, x3, x4⟩ := u
  obtain ⟨hP1, hK1, hD1⟩ := hB
  rw [ht] at hP1
  obtain ⟨hP, hD⟩ := va_joinN (wr := (wd00_26 a0 a0_seen v0_many a0_seen cyI f0_seen)) (w1 := (wd00_31 a1 a1_bytes v1_length x1 x4 z1_filled x2 x3 a1_bytes cyB f1_bytes)) (wn := (wd00_40 a0 a0_seen v0_many a1 a1_bytes v1_length x1 x4 z1_filled x2 x3 a1_bytes cyB f1_bytes a0_seen cyI f0_seen)) hP hD [1, 2] [0, 3] [0, 2, 3, 1] hCc rfl (by decide +kernel) (by decide +kernel) (by decide +kernel) rfl hk1 hFc hP1 hD1
  generalize H1 = H at hP hS ⊢
  refine lv_istore_n (lv' := [(3, .int r5), (0, .ref a0), (1, .ref a1), (2, .int p2)]) hx hb (dt_of tkX0_readLine_k0 6 rfl) rfl hl (by decide) rfl (fun ls hl => ?_)
  refine lv_iload_n hx hb (dt_of tkX0_readLine_k0 7 rfl) rfl (lv_at hl 0 rfl) ?_
  refine lv_iconst (v := 0) hx hb (dt_of tkX0_readLine_k0 8 rfl) (by decide) ?_
  refine lv_iload_n hx hb (dt_of tkX0_readLine_k0 9 rfl) rfl (lv_at hl 3 rfl) ?_
  refine lv_iconst (v := 1) hx hb (dt_of tkX0_readLine_k0 10 rfl) (by decide) ?_
  refine lv_isub hx hb (dt_of tkX0_readLine_k0 11 rfl) ?_
  obtain ⟨hCc, hPc, hDc, hFc⟩ := va_pick (ws' := []) hP hD hS hA [] (by decide +kernel) rfl
  refine va_calli (va_runSN (As := [.int r5, .int 0, .int (p2 - 1)]) (rest := []) ⟨hx, hb, hml, hown, hts⟩ (ck_X10_within l dC dI cyB cyI cyJ cyP  H.size    r5 0 (p2 - 1) hw) ⟨(va_cnB 3 hts gX0_readLine_X10_within_n39 rfl rfl rfl (nw_7 hNw) (hts _ uw_X0_readLine_iniRX10) (by decide +kernel) ⟨Nat.le_of_ble_eq_true rfl, Nat.le_of_ble_eq_true rfl⟩), (hts _ uw_X0_readLine_stX10_within), trivial⟩ ⟨cPc_blind, cPc_pre hPc hK hDc hNw⟩ rfl rfl hl.1 rfl (lv_room (Nat.le_of_ble_eq_true rfl)) (dt_of tkX0_readLine_k0 12 rfl) ⟨Nat.le_of_ble_eq_true rfl, Nat.le_of_ble_eq_true rfl⟩) hS (fun q _ h => hFc q h) hFc (fun r6 u t H1 locs ht hvm hw hB hz1 hk1 hS => ?_)
  obtain ⟨hP1, hK1, hD1⟩ := hB
  rw [ht] at hP1
  obtain ⟨hP, hD⟩ := va_joinI (wr := (wd00_40 a0 a0_seen v0_many a1 a1_bytes v1_length x1 x4 z1_filled x2 x3 a1_bytes cyB f1_bytes a0_seen cyI f0_seen)) (w1 := []) (wn := (wd00_40 a0 a0_seen v0_many a1 a1_bytes v1_length x1 x4 z1_filled x2 x3 a1_bytes cyB f1_bytes a0_seen cyI f0_seen)) hP hD [] [0, 1, 2, 3] hCc rfl (by decide +kernel) (by decide +kernel) rfl hk1 hFc hP1 hD1
  generalize H1 = H at hP hS ⊢
  refine lv_if_eq (tgt := 33) hx hb (dt_of tkX0_readLine_k0 13 rfl) (by decide) (fun c7 => ?_) (fun c7 => ?_)
  · have hw := hw.1 c7
    exact kb_X0_readLine_33 dC dI cyB cyI cyJ cyP a0 a1 a1_bytes a0_seen z1_filled v1_length f1_bytes Q  C0 _ _ _ x1 x2 x3 x4 f0_seen v0_many r5 hP hD hS (lv_sub hl [1, 2, 0] rfl) hw
  · have hw := hw.2 c7
    refine lv_aload_n hx hb (dt_of tkX0_readLine_k0 14 rfl) rfl (lv_at hl 1 rfl) ?_
    refine lv_iload_n hx hb (dt_of tkX0_readLine_k0 15 rfl) rfl (lv_at hl 0 rfl) ?_
    obtain ⟨hCc, hPc, hDc, hFc⟩ := va_pick (ws' := (wd00_26 a0 a0_seen v0_many a0_seen cyI f0_seen)) hP hD hS hA [0, 3] (by decide +kernel) rfl
    refine va_calli (va_runV (As := [.int r5]) (rest := []) ⟨hx, hb, hml, hown, hts⟩ (ck_X0_tells l dC dI cyB cyI cyJ cyP a0 a0_seen H.size (.int v0_many) f0_seen  r5 hw) (cwV 1 hts gX0_readLine_X0_tells rfl rfl rfl (by decide +kernel) ⟨Nat.le_of_ble_eq_true rfl, Nat.le_of_ble_eq_true rfl⟩) ⟨cPc_blind, va_recv (q := (RX0, TX0, 2)) hK hPc (ci := 0) (q0 := 0) rfl rfl, cPc_pre hPc hK hDc hNw⟩ rfl rfl hl.1 rfl (lv_room (Nat.le_of_ble_eq_true rfl)) (dt_of tkX0_readLine_k22 0 rfl) ⟨Nat.le_of_ble_eq_true rfl, Nat.le_of_ble_eq_true rfl⟩) hS (fun q _ h => hFc q h) hFc (fun r8 u t H1 locs ht hvm hw hB hz1 hk1 hS => ?_)
    obtain ⟨hP1, hK1, hD1⟩ := hB
    rw [ht] at hP1
    obtain ⟨hP, hD⟩ := va_joinN (wr := (wd00_31 a1 a1_bytes v1_length x1 x4 z1_filled x2 x3 a1_bytes cyB f1_bytes)) (w1 := (wd00_26 a0 a0_seen v0_many a0_seen cyI f0_seen)) (wn := (wd00_40 a0 a0_seen v0_many a1 a1_bytes v1_length x1 x4 z1_filled x2 x3 a1_bytes cyB f1_bytes a0_seen cyI f0_seen)) hP hD [0, 3] [1, 2] [2, 0, 1, 3] hCc rfl (by decide +kernel) (by decide +kernel) (by decide +kernel) rfl hk1 hFc hP1 hD1
    generalize H1 = H at hP hS ⊢
    refine lv_if_eq (tgt := 33) hx hb (dt_of tkX0_readLine_k22 1 rfl) (by decide) (fun c9 => ?_) (fun c9 => ?_)
    · have hw := hw.1 c9
      exact kb_X0_readLine_33 dC dI cyB cyI cyJ cyP a0 a1 a1_bytes a0_seen z1_filled v1_length f1_bytes Q  C0 _ _ _ x1 x2 x3 x4 f0_seen v0_many r5 hP hD hS (lv_sub hl [1, 2, 0] rfl) hw
    · have hw := hw.2 c9
      refine lv_aload_n hx hb (dt_of tkX0_readLine_k22 2 rfl) rfl (lv_at hl 2 rfl) ?_
      refine lv_iconst (v := 2) hx hb (dt_of tkX0_readLine_k22 3 rfl) (by decide) ?_
      obtain ⟨hCc, hPc, hDc, hFc⟩ := va_pick (ws' := (wd00_32 a1 a1_bytes v1_length x1 x4 z1_filled x2 x3)) hP hD hS hA [1] (by decide +kernel) rfl
      refine va_callv (va_runV (As := [.int 2]) (rest := []) ⟨hx, hb, hml, hown, hts⟩ (ck_X8_blameToken l dC dI cyB cyI cyJ cyP a1 H.size (.ref a1_bytes) (.int v1_length) (.int x1) (z1_filled) x4 x2 x3 2 hw) (cwV 1 hts gX0_readLine_X8_blameToken rfl rfl rfl (by decide +kernel) ⟨Nat.le_of_ble_eq_true rfl, Nat.le_of_ble_eq_true rfl⟩) ⟨cPc_blind, va_recv (q := (RX8, TX8, 7)) hK hPc (ci := 8) (q0 := 0) rfl rfl, cPc_pre hPc hK hDc hNw⟩ rfl rfl hl.1 rfl (lv_room (Nat.le_of_ble_eq_true rfl)) (dt_of tkX0_readLine_k22 4 rfl) ⟨Nat.le_of_ble_eq_true rfl, Nat.le_of_ble_eq_true rfl⟩) hS (fun q _ h => hFc q h) hFc (fun u t H1 locs ht hvm hw hB hz1 hk1 hS => ?_)
      obtain ⟨x10, x11⟩ := u
      obtain ⟨hP1, hK1, hD1⟩ := hB
      rw [ht] at hP1
      obtain ⟨hP, hD⟩ := va_joinN (wr := (wd00_41 a0 a0_seen v0_many a1_bytes cyB f1_bytes a0_seen cyI f0_seen)) (w1 := (wd00_32 a1 a1_bytes v1_length x1 x4 z1_filled x10 x11)) (wn := (wd00_40 a0 a0_seen v0_many a1 a1_bytes v1_length x1 x4 z1_filled x10 x11 a1_bytes cyB f1_bytes a0_seen cyI f0_seen)) hP hD [1] [0, 2, 3] [0, 3, 1, 2] hCc rfl (by decide +kernel) (by decide +kernel) (by decide +kernel) rfl hk1 hFc hP1 hD1
      generalize H1 = H at hP hS ⊢
      exact kb_X0_readLine_33 dC dI cyB cyI cyJ cyP a0 a1 a1_bytes a0_seen z1_filled v1_length f1_bytes Q  C0 _ _ _ x1 x10 x11 x4 f0_seen v0_many r5 hP hD hS (lv_sub hl [1, 2, 0] rfl) hw
set_option maxHeartbeats 4000000 in
set_option maxRecDepth 100000 in
theorem kl_X0_readFrom_6 {p : Program} {l : Launch} {e : Env} {s : State} {m : MethodId} {args : Array Value} {below : List Frame} {meth : Method} {c : Code} {A : Nat → Prop} (dC : Nat → ClassId) (dI : Nat → Nat → Nat) (cyB cyI cyJ cyP : ClassId) (a0 a1 a0_seen a1_bytes : Nat) (z1_filled : Value) (v1_length : Int32) (f1_bytes : Nat → Int32) (Q : Int32 → (Nat → Int32) → Int32 → Int32 → Int32 → Int32 → Prop)  (C0 : cfx p s m args meth c cX0_readFrom none wsX0_readFrom RX0 4 A (dC, dI) (kT cyB cyI cyJ cyP)) : ∀ (n : Nat) (H : Heap) (locs : List Loc) (ls : Array Slot) (v0_many : Int32) (f0_seen : Nat → Int32) (v1_at : Int32) (v1_fault : Int32) (v1_faultPlace : Int32) (v1_token : Int32) (l2 : Int32) (l3 : Int32), va_P (dC, dI) vwCl (wd00_42 a0 a0_seen v0_many a0_seen cyI f0_seen a1 a1_bytes v1_length v1_at v1_token z1_filled v1_fault v1_faultPlace a1_bytes cyB f1_bytes) H → va_D A (wd00_42 a0 a0_seen v0_many a0_seen cyI f0_seen a1 a1_bytes v1_length v1_at v1_token z1_filled v1_fault v1_faultPlace a1_bytes cyB f1_bytes) → va_S A s.heap H locs → lv_has ls 4 [(0, .ref a0), (1, .ref a1), (2, .int l2), (3, .int l3)] → wl_X0_readFrom_6 v1_length f1_bytes Q  n v0_many f0_seen v1_at v1_fault v1_faultPlace v1_token l2 l3 → W p l e (headSpec wsX0_readFrom ({ frames := 4, cells := 0, slots := 0, locals := 87 })).room s m args below meth c H locs 0 0 (MQ below (va_Qv (fun (u : Int32 × (Nat → Int32) × Int32 × Int32 × Int32 × Int32) => Q u.1 u.2.1 u.2.2.1 u.2.2.2.1 u.2.2.2.2.1 u.2.2.2.2.2) (cB (dC, dI) (kT cyB cyI cyJ cyP) A (fun u : Int32 × (Nat → Int32) × Int32 × Int32 × Int32 × Int32 => ((wd00_42 a0 a0_seen u.1 a0_seen cyI u.2.1 a1 a1_bytes v1_length u.2.2.1 u.2.2.2.2.2 z1_filled u.2.2.2.1 u.2.2.2.2.1 a1_bytes cyB f1_bytes) : va_W))) A) args s 0 0 A) (F0 m 6 ls []) := by
  obtain ⟨hx, hb, hr, hts, hown, hlocks, hml, hA, hK, hNw⟩ := id C0
  intro n
  induction n with
  | zero => intro H locs ls v0_many f0_seen v1_at v1_fault v1_faultPlace v1_token l2 l3 hP hD hS hl hw; exact False.elim hw
  | succ n ih =>
    intro H locs ls v0_many f0_seen v1_at v1_fault v1_faultPlace v1_token l2 l3 hP hD hS hl hw
    refine lv_iload_n hx hb (dt_of tkX0_readFrom_k0 4 rfl) rfl (lv_at hl 3 rfl) ?_
    refine lv_bipush (v := 8) hx hb (dt_of tkX0_readFrom_k0 5 rfl) (by decide) ?_
    refine lv_icmp_gt (tgt := 38) hx hb (dt_of tkX0_readFrom_k0 6 rfl) (by decide) (fun c3 => ?_) (fun c3 => ?_)
    · have hw := hw.1 c3
      exact ((W.vret hx hb hr (fun t ht hW => ⟨⟨(v0_many, f0_seen, v1_at, v1_fault, v1_faultPlace, v1_token), rfl, hw, by rw [ht]; exact hP, va_K.moved hW.alike hK, hD⟩, hS.F ht⟩) hS.2.2 (dt_of tkX0_readFrom_k29 3 rfl)))
    · have hw := hw.2 c3
      refine lv_aload_n hx hb (dt_of tkX0_readFrom_k0 7 rfl) rfl (lv_at hl 1 rfl) ?_
      obtain ⟨hCc, hPc, hDc, hFc⟩ := va_pick (ws' := (wd00_32 a1 a1_bytes v1_length v1_at v1_token z1_filled v1_fault v1_faultPlace)) hP hD hS hA [2] (by decide +kernel) rfl
      refine va_calli (va_runV (As := []) (rest := []) ⟨hx, hb, hml, hown, hts⟩ (ck_X8_isFaulty l dC dI cyB cyI cyJ cyP a1 H.size (.ref a1_bytes) (.int v1_length) (.int v1_at) (.int v1_token) (z1_filled) (.int v1_faultPlace) v1_fault   hw) (cwV 0 hts gX0_readFrom_X8_isFaulty rfl rfl rfl (by decide +kernel) ⟨Nat.le_of_ble_eq_true rfl, Nat.le_of_ble_eq_true rfl⟩) ⟨cPc_blind, va_recv (q := (RX8, TX8, 7)) hK hPc (ci := 8) (q0 := 0) rfl rfl, cPc_pre hPc hK hDc hNw⟩ rfl rfl hl.1 rfl (lv_room (Nat.le_of_ble_eq_true rfl)) (dt_of tkX0_readFrom_k0 8 rfl) ⟨Nat.le_of_ble_eq_true rfl, Nat.le_of_ble_eq_true rfl⟩) hS (fun q _ h => hFc q h) hFc (fun r4 u t H1 locs ht hvm hw hB hz1 hk1 hS => ?_)
      obtain ⟨hP1, hK1, hD1⟩ := hB
      rw [ht] at hP1
      obtain ⟨hP, hD⟩ := va_joinN (wr := [(a0, .inr (0, [.ref a0_seen, .int v0_many])), (a0_seen, .inl (cyI, 8, .inl f0_seen)), (a1_bytes, .inl (cyB, 600, .inl f1_bytes))]) (w1 := (wd00_32 a1 a1_bytes v1_length v1_at v1_token z1_filled v1_fault v1_faultPlace)) (wn := (wd00_42 a0 a0_seen v0_many a0_seen cyI f0_seen a1 a1_bytes v1_length v1_at v1_token z1_filled v1_fault v1_faultPlace a1_bytes cyB f1_bytes)) hP hD [2] [0, 1, 3] [0, 1, 3, 2] hCc rfl (by decide +kernel) (by decide +kernel) (by decide +kernel) rfl hk1 hFc hP1 hD1
      generalize H1 = H at hP hS ⊢
      refine lv_if_ne (tgt := 38) hx hb (dt_of tkX0_readFrom_k0 9 rfl) (by decide) (fun c5 => ?_) (fun c5 => ?_)
      · have hw := hw.1 c5
        exact ((W.vret hx hb hr (fun t ht hW => ⟨⟨(v0_many, f0_seen, v1_at, v1_fault, v1_faultPlace, v1_token), rfl, hw, by rw [ht]; exact hP, va_K.moved hW.alike hK, hD⟩, hS.F ht⟩) hS.2.2 (dt_of tkX0_readFrom_k29 3 rfl)))
      · have hw := hw.2 c5
        refine lv_aload_n hx hb (dt_of tkX0_readFrom_k0 10 rfl) rfl (lv_at hl 1 rfl) ?_
        obtain ⟨hCc, hPc, hDc, hFc⟩ := va_pick (ws' := (wd00_31 a1 a1_bytes v1_length v1_at v1_token z1_filled v1_fault v1_faultPlace a1_bytes cyB f1_bytes)) hP hD hS hA [2, 3] (by decide +kernel) rfl
        refine va_calli (va_runV (As := []) (rest := []) ⟨hx, hb, hml, hown, hts⟩ (ck_X8_isEnded l dC dI cyB cyI cyJ cyP a1 a1_bytes H.size (.int v1_token) (z1_filled) (.int v1_fault) (.int v1_faultPlace) v1_length f1_bytes v1_at  hw) (cwV 0 hts gX0_readFrom_X8_isEnded rfl rfl rfl (by decide +kernel) ⟨Nat.le_of_ble_eq_true rfl, Nat.le_of_ble_eq_true rfl⟩) ⟨cPc_blind, va_recv (q := (RX8, TX8, 7)) hK hPc (ci := 8) (q0 := 0) rfl rfl, cPc_pre hPc hK hDc hNw⟩ rfl rfl hl.1 rfl (lv_room (Nat.le_of_ble_eq_true rfl)) (dt_of tkX0_readFrom_k0 11 rfl) ⟨Nat.le_of_ble_eq_true rfl, Nat.le_of_ble_eq_true rfl⟩) hS (fun q _ h => hFc q h) hFc (fun r7 u t H1 locs ht hvm hw hB hz1 hk1 hS => ?_)
        obtain ⟨x6, rfl⟩ : ∃ z, z = u := ⟨_, rfl⟩
        obtain ⟨hP1, hK1, hD1⟩ := hB
        rw [ht] at hP1
        obtain ⟨hP, hD⟩ := va_joinI (wr := (wd00_26 a0 a0_seen v0_many a0_seen cyI f0_seen)) (w1 := (wd00_31 a1 a1_bytes v1_length x6 v1_token z1_filled v1_fault v1_faultPlace a1_bytes cyB f1_bytes)) (wn := (wd00_42 a0 a0_seen v0_many a0_seen cyI f0_seen a1 a1_bytes v1_length x6 v1_token z1_filled v1_fault v1_faultPlace a1_bytes cyB f1_bytes)) hP hD [2, 3] [0, 1] hCc rfl (by decide +kernel) (by decide +kernel) rfl hk1 hFc hP1 hD1
        generalize H1 = H at hP hS ⊢
        refine lv_if_ne (tgt := 38) hx hb (dt_of tkX0_readFrom_k0 12 rfl) (by decide) (fun c8 => ?_) (fun c8 => ?_)
        · have hw := hw.1 c8
          exact ((W.vret hx hb hr (fun t ht hW => ⟨⟨(v0_many, f0_seen, x6, v1_fault, v1_faultPlace, v1_token), rfl, hw, by rw [ht]; exact hP, va_K.moved hW.alike hK, hD⟩, hS.F ht⟩) hS.2.2 (dt_of tkX0_readFrom_k29 3 rfl)))
        · have hw := hw.2 c8
          refine lv_aload_n hx hb (dt_of tkX0_readFrom_k0 13 rfl) rfl (lv_at hl 0 rfl) ?_
          refine lv_aload_n hx hb (dt_of tkX0_readFrom_k0 14 rfl) rfl (lv_at hl 1 rfl) ?_
          refine lv_iload_n hx hb (dt_of tkX0_readFrom_k0 15 rfl) rfl (lv_at hl 2 rfl) ?_
          obtain ⟨hCc, hPc, hDc, hFc⟩ := va_pick (ws' := (wd00_40 a0 a0_seen v0_many a1 a1_bytes v1_length x6 v1_token z1_filled v1_fault v1_faultPlace a1_bytes cyB f1_bytes a0_seen cyI f0_seen)) hP hD hS hA [0, 2, 3, 1] (by decide +kernel) rfl
          refine va_callv (va_runV (As := [.ref a1, .int l2]) (rest := []) ⟨hx, hb, hml, hown, hts⟩ (ck_X0_readLine l dC dI cyB cyI cyJ cyP a0 a1 a1_bytes a0_seen H.size (z1_filled) v1_length f1_bytes x6 v1_fault v1_faultPlace v1_token f0_seen v0_many l2 hw) (cwV 2 hts gX0_readFrom_X0_readLine rfl rfl rfl (by decide +kernel) ⟨Nat.le_of_ble_eq_true rfl, Nat.le_of_ble_eq_true rfl⟩) ⟨cPc_blind, va_recv (q := (RX0, TX0, 2)) hK hPc (ci := 0) (q0 := 0) rfl rfl, cPc_pre hPc hK hDc hNw⟩ rfl rfl hl.1 rfl (lv_room (Nat.le_of_ble_eq_true rfl)) (dt_of tkX0_readFrom_k29 0 rfl) ⟨Nat.le_of_ble_eq_true rfl, Nat.le_of_ble_eq_true rfl⟩) hS (fun q _ h => hFc q h) hFc (fun u t H1 locs ht hvm hw hB hz1 hk1 hS => ?_)
          obtain ⟨x9, x10, x11, x12, f13, x14⟩ := u
          obtain ⟨hP1, hK1, hD1⟩ := hB
          rw [ht] at hP1
          obtain ⟨hP, hD⟩ := va_joinN (wr := []) (w1 := (wd00_40 a0 a0_seen x14 a1 a1_bytes v1_length x9 x12 z1_filled x10 x11 a1_bytes cyB f1_bytes a0_seen cyI f13)) (wn := (wd00_42 a0 a0_seen x14 a0_seen cyI f13 a1 a1_bytes v1_length x9 x12 z1_filled x10 x11 a1_bytes cyB f1_bytes)) hP hD [0, 2, 3, 1] [] [0, 3, 1, 2] hCc rfl (by decide +kernel) (by decide +kernel) (by decide +kernel) rfl hk1 hFc hP1 hD1
          generalize H1 = H at hP hS ⊢
          obtain ⟨x15, ex15⟩ : ∃ y : Int32, y = l3 + 1 := ⟨_, rfl⟩
          have hw := hw x15 ex15
          refine lv_iinc (v := x15) (lv' := [(3, .int x15), (0, .ref a0), (1, .ref a1), (2, .int l2)]) hx hb (dt_of tkX0_readFrom_k29 1 rfl) hl (k := 3) rfl (by rw [ex15]; rfl) (by decide) rfl (fun ls hl => ?_)
          refine lv_goto (tgt := 6) hx hb (dt_of tkX0_readFrom_k29 2 rfl) (by decide) ?_
          exact ih _ _ _ x14 f13 x9 x10 x11 x12 l2 x15 hP hD hS (lv_sub hl [1, 2, 3, 0] rfl) hw
set_option maxHeartbeats 4000000 in
set_option maxRecDepth 100000 in
theorem ck_X0_readFrom (l : Launch) (dC : Nat → ClassId) (dI : Nat → Nat → Nat) (cyB cyI cyJ cyP : ClassId) (a0 a1 a0_seen a1_bytes : Nat) (sz : Nat) (z1_filled : Value) (v1_length : Int32) (f1_bytes : Nat → Int32) (v0_many : Int32) (f0_seen : Nat → Int32) (v1_at : Int32) (v1_fault : Int32) (v1_faultPlace : Int32) (v1_token : Int32) (p2 : Int32) {Q : Int32 → (Nat → Int32) → Int32 → Int32 → Int32 → Int32 → Prop} (hw : wq_X0_readFrom v1_length f1_bytes v0_many f0_seen v1_at v1_fault v1_faultPlace v1_token p2 Q) : Met l yX0_readFrom wsX0_readFrom ({ frames := 4, cells := 0, slots := 0, locals := 87 }) (va_Pc [.ref a0, .ref a1, .int p2] (cPc (dC, dI) (kT cyB cyI cyJ cyP) (wd00_42 a0 a0_seen v0_many a0_seen cyI f0_seen a1 a1_bytes v1_length v1_at v1_token z1_filled v1_fault v1_faultPlace a1_bytes cyB f1_bytes) sz)) (va_Qv (fun (u : Int32 × (Nat → Int32) × Int32 × Int32 × Int32 × Int32) => Q u.1 u.2.1 u.2.2.1 u.2.2.2.1 u.2.2.2.2.1 u.2.2.2.2.2) (cB (dC, dI) (kT cyB cyI cyJ cyP) (va_A (wd00_42 a0 a0_seen v0_many a0_seen cyI f0_seen a1 a1_bytes v1_length v1_at v1_token z1_filled v1_fault v1_faultPlace a1_bytes cyB f1_bytes) sz) (fun u : Int32 × (Nat → Int32) × Int32 × Int32 × Int32 × Int32 => ((wd00_42 a0 a0_seen u.1 a0_seen cyI u.2.1 a1 a1_bytes v1_length u.2.2.1 u.2.2.2.2.2 z1_filled u.2.2.2.1 u.2.2.2.2.1 a1_bytes cyB f1_bytes) : va_W))) (va_A (wd00_42 a0 a0_seen v0_many a0_seen cyI f0_seen a1 a1_bytes v1_length v1_at v1_token z1_filled v1_fault v1_faultPlace a1_bytes cyB f1_bytes) sz)) 0 0 (va_A (wd00_42 a0 a0_seen v0_many a0_seen cyI f0_seen a1 a1_bytes v1_length v1_at v1_token z1_filled v1_fault v1_faultPlace a1_bytes cyB f1_bytes) sz) := by
  refine Met.ofW (cc := cX0_readFrom) (maxL := 4) (ret := none) (by decide) rfl ?_
  intro p e s m args below meth c s₁ B hml hv
  obtain ⟨rfl, hsz, hP, hK, hD0, hNw⟩ := hv
  have hx := B.exec
  have hb := B.bytes
  have hr := B.returns
  have hts := atoms_spec (ws := wsX0_readFrom) B.pre
  have hown : s.vm.findClass RX0 = some m.cls := findClass_of_methodNamed B.named
  have hlocks := B.notSynchronized
  subst hsz
  have hD := hD0.self (sz := s.heap.size)
  generalize hAe : va_A (wd00_42 a0 a0_seen v0_many a0_seen cyI f0_seen a1 a1_bytes v1_length v1_at v1_token z1_filled v1_fault v1_faultPlace a1_bytes cyB f1_bytes) s.heap.size = A at hD ⊢
  have hA : ∀ q : Nat, s.heap.size ≤ q → A q := fun q h => by rw [← hAe]; exact Or.inr h
  have hS : va_S A s.heap s.heap [] := va_S.rf
  have hP : va_P (dC, dI) vwCl (wd00_42 a0 a0_seen v0_many a0_seen cyI f0_seen a1 a1_bytes v1_length v1_at v1_token z1_filled v1_fault v1_faultPlace a1_bytes cyB f1_bytes) s.heap := hP
  have hl := lv_entry ([.ref a0, .ref a1, .int p2]) (n := 4) (Nat.le_of_ble_eq_true rfl)
  rw [lg_entry_eq]
  generalize (lg_sl ([.ref a0, .ref a1, .int p2]) ++ List.replicate (4 - (lg_sl ([.ref a0, .ref a1, .int p2])).length) Slot.unset).toArray = ls at hl ⊢
  have hl : lv_has ls 4 [(0, .ref a0), (1, .ref a1), (2, .int p2)] := hl
  have C0 : cfx p s m _ meth c cX0_readFrom none wsX0_readFrom RX0 4 A (dC, dI) (kT cyB cyI cyJ cyP) := ⟨hx, hb, hr, hts, hown, hlocks, hml, hA, hK, hNw⟩
  clear hAe
  obtain ⟨H, hH⟩ : ∃ H, H = s.heap := ⟨_, rfl⟩
  rw [← hH] at hP ⊢
  have hS : va_S A s.heap H [] := by rw [hH]; exact va_S.rf
  have hS := hS
  refine lv_aload_n hx hb (dt_of tkX0_readFrom_k0 0 rfl) rfl (lv_at hl 0 rfl) ?_
  obtain ⟨hCc, hPc, hDc, hFc⟩ := va_pick (ws' := (wd00_26 a0 a0_seen v0_many a0_seen cyI f0_seen)) hP hD hS hA [0, 1] (by decide +kernel) rfl
  refine va_callv (va_runV (As := []) (rest := []) ⟨hx, hb, hml, hown, hts⟩ (ck_X0_clear l dC dI cyB cyI cyJ cyP a0 a0_seen H.size   v0_many f0_seen  hw) (cwV 0 hts gX0_readFrom_X0_clear rfl rfl rfl (by decide +kernel) ⟨Nat.le_of_ble_eq_true rfl, Nat.le_of_ble_eq_true rfl⟩) ⟨cPc_blind, va_recv (q := (RX0, TX0, 2)) hK hPc (ci := 0) (q0 := 0) rfl rfl, cPc_pre hPc hK hDc hNw⟩ rfl rfl hl.1 rfl (lv_room (Nat.le_of_ble_eq_true rfl)) (dt_of tkX0_readFrom_k0 1 rfl) ⟨Nat.le_of_ble_eq_true rfl, Nat.le_of_ble_eq_true rfl⟩) hS (fun q _ h => hFc q h) hFc (fun u t H1 locs ht hvm hw hB hz1 hk1 hS => ?_)
  obtain ⟨x1, f2⟩ := u
  obtain ⟨hP1, hK1, hD1⟩ := hB
  rw [ht] at hP1
  obtain ⟨hP, hD⟩ := va_joinN (wr := (wd00_31 a1 a1_bytes v1_length v1_at v1_token z1_filled v1_fault v1_faultPlace a1_bytes cyB f1_bytes)) (w1 := (wd00_26 a0 a0_seen x1 a0_seen cyI f2)) (wn := (wd00_42 a0 a0_seen x1 a0_seen cyI f2 a1 a1_bytes v1_length v1_at v1_token z1_filled v1_fault v1_faultPlace a1_bytes cyB f1_bytes)) hP hD [0, 1] [2, 3] [2, 3, 0, 1] hCc rfl (by decide +kernel) (by decide +kernel) (by decide +kernel) rfl hk1 hFc hP1 hD1
  generalize H1 = H at hP hS ⊢
  refine lv_iconst (v := 0) hx hb (dt_of tkX0_readFrom_k0 2 rfl) (by decide) ?_
  refine lv_istore_n (lv' := [(3, .int 0), (0, .ref a0), (1, .ref a1), (2, .int p2)]) hx hb (dt_of tkX0_readFrom_k0 3 rfl) rfl hl (by decide) rfl (fun ls hl => ?_)
  obtain ⟨n9, hw⟩ := hw
  exact kl_X0_readFrom_6 dC dI cyB cyI cyJ cyP a0 a1 a0_seen a1_bytes z1_filled v1_length f1_bytes Q  C0 n9 _ _ _ x1 f2 v1_at v1_fault v1_faultPlace v1_token p2 0 hP hD hS (lv_sub hl [1, 2, 3, 0] rfl) hw
theorem ui_X10_book_X0 : ∀ w ∈ u_ws RX0 TX0 2, w ∈ wsX10_book := uiM mbX10_book euX0 (by decide +kernel)
theorem ui_X10_book_X10 : ∀ w ∈ u_ws RX10 TX10 19, w ∈ wsX10_book := uiM mbX10_book euX10 (by decide +kernel)
theorem ui_X10_book_X2 : ∀ w ∈ u_ws RX2 TX2 12, w ∈ wsX10_book := uiM mbX10_book euX2 (by decide +kernel)
theorem ui_X10_book_X8 : ∀ w ∈ u_ws RX8 TX8 7, w ∈ wsX10_book := uiM mbX10_book euX8 (by decide +kernel)
theorem uw_X10_book_f10 : (.fieldLink RX10 10 "MarchHares" "tape" "LMarchHares$Tape;" : Cond) ∈ wsX10_book := mbX10_book 16 (by decide +kernel)
theorem uw_X10_book_f120 : (.fieldLink RX10 120 "MarchHares$Tape" "fault" "I" : Cond) ∈ wsX10_book := mbX10_book 640 (by decide +kernel)
theorem uw_X10_book_f149 : (.fieldLink RX10 149 "MarchHares$Down" "forms" "I" : Cond) ∈ wsX10_book := mbX10_book 1557 (by decide +kernel)
theorem uw_X10_book_f171 : (.fieldLink RX10 171 "MarchHares$Book" "many" "I" : Cond) ∈ wsX10_book := mbX10_book 2386 (by decide +kernel)
theorem uw_X10_book_f19 : (.fieldLink RX10 19 "MarchHares" "ground" "LMarchHares$Down;" : Cond) ∈ wsX10_book := mbX10_book 20 (by decide +kernel)
theorem uw_X10_book_f39 : (.fieldLink RX10 39 "MarchHares" "lines" "LMarchHares$Book;" : Cond) ∈ wsX10_book := mbX10_book 70 (by decide +kernel)
theorem uw_X10_book_f43 : (.fieldLink RX10 43 "MarchHares" "spareLines" "LMarchHares$Book;" : Cond) ∈ wsX10_book := mbX10_book 71 (by decide +kernel)
set_option maxHeartbeats 4000000 in
set_option maxRecDepth 100000 in
theorem ck_X10_book (l : Launch) (dC : Nat → ClassId) (dI : Nat → Nat → Nat) (cyB cyI cyJ cyP : ClassId) (a0 a0_tape a0_spareLines a0_ground a0_spareLines_seen a0_tape_bytes a0_lines : Nat) (sz : Nat) (z0_spareGround : Value) (z0_rule : Value) (z0_spareRule : Value) (z0_steps : Value) (z0_now : Value) (z0_trial : Value) (z0_past : Value) (z0_images : Value) (z0_round : Value) (z0_seating : Value) (z0_fitting : Value) (z0_imagesKept : Value) (z0_refusedSteps : Value) (z0_callsNoSuch : Value) (z0_ground_formX : Value) (z0_ground_formY : Value) (z0_ground_foxX : Value) (z0_ground_foxY : Value) (z0_ground_seat : Value) (z0_ground_strength : Value) (z0_ground_debts : Value) (z0_ground_near : Value) (z0_ground_hares : Value) (z0_ground_foxes : Value) (z0_ground_safe : Value) (v0_ground_forms : Int32) (f0_tape_bytes : Nat → Int32) (v0_callsIllegal : Int32) (v0_tape_length : Int32) (v0_tape_at : Int32) (v0_tape_token : Int32) (v0_tape_filled : Int32) (v0_tape_fault : Int32) (v0_tape_faultPlace : Int32) (v0_spareLines_many : Int32) (f0_spareLines_seen : Nat → Int32) (p1 : Int32) {E : String → Int32 → Int32 → Int32 → Int32 → Int32 → Int32 → Int32 → Int32 → (Nat → Int32) → Value → Value → Prop} {Q : Int32 → Int32 → Int32 → Int32 → Int32 → Int32 → Int32 → Int32 → Int32 → (Nat → Int32) → Value → Value → Prop} (hw : wq_X10_book a0_lines a0_spareLines v0_ground_forms f0_tape_bytes v0_callsIllegal v0_tape_length v0_tape_at v0_tape_token v0_tape_filled v0_tape_fault v0_tape_faultPlace v0_spareLines_many f0_spareLines_seen (.ref a0_lines) (.ref a0_spareLines) p1 E Q) : vx_Met l yX10_book wsX10_book ({ frames := 9, cells := 1, slots := 6, locals := 186 }) (va_Pc [.ref a0, .int p1] (cPx l (dC, dI) (kT cyB cyI cyJ cyP) (wd00_43 a0 a0_tape a0_ground z0_spareGround z0_rule z0_spareRule a0_lines a0_spareLines z0_steps z0_now z0_trial z0_past z0_images z0_round z0_seating z0_fitting z0_imagesKept z0_refusedSteps z0_callsNoSuch v0_callsIllegal a0_tape a0_tape_bytes v0_tape_length v0_tape_at v0_tape_token v0_tape_filled v0_tape_fault v0_tape_faultPlace a0_ground z0_ground_formX z0_ground_formY z0_ground_foxX z0_ground_foxY z0_ground_seat z0_ground_strength z0_ground_debts z0_ground_near v0_ground_forms z0_ground_hares z0_ground_foxes z0_ground_safe a0_spareLines a0_spareLines_seen v0_spareLines_many a0_spareLines_seen cyI f0_spareLines_seen a0_tape_bytes cyB f0_tape_bytes) sz)) (va_Qi (fun (r : Int32) (u : Int32 × Int32 × Int32 × Int32 × Int32 × Int32 × Int32 × Int32 × (Nat → Int32) × Value × Value) => Q r u.1 u.2.1 u.2.2.1 u.2.2.2.1 u.2.2.2.2.1 u.2.2.2.2.2.1 u.2.2.2.2.2.2.1 u.2.2.2.2.2.2.2.1 u.2.2.2.2.2.2.2.2.1 u.2.2.2.2.2.2.2.2.2.1 u.2.2.2.2.2.2.2.2.2.2) (cB (dC, dI) (kT cyB cyI cyJ cyP) (va_A (wd00_43 a0 a0_tape a0_ground z0_spareGround z0_rule z0_spareRule a0_lines a0_spareLines z0_steps z0_now z0_trial z0_past z0_images z0_round z0_seating z0_fitting z0_imagesKept z0_refusedSteps z0_callsNoSuch v0_callsIllegal a0_tape a0_tape_bytes v0_tape_length v0_tape_at v0_tape_token v0_tape_filled v0_tape_fault v0_tape_faultPlace a0_ground z0_ground_formX z0_ground_formY z0_ground_foxX z0_ground_foxY z0_ground_seat z0_ground_strength z0_ground_debts z0_ground_near v0_ground_forms z0_ground_hares z0_ground_foxes z0_ground_safe a0_spareLines a0_spareLines_seen v0_spareLines_many a0_spareLines_seen cyI f0_spareLines_seen a0_tape_bytes cyB f0_tape_bytes) sz) (fun u : Int32 × Int32 × Int32 × Int32 × Int32 × Int32 × Int32 × Int32 × (Nat → Int32) × Value × Value => ((wd00_44 a0 a0_tape a0_ground z0_spareGround z0_rule z0_spareRule u.2.2.2.2.2.2.2.2.2.1 u.2.2.2.2.2.2.2.2.2.2 z0_steps z0_now z0_trial z0_past z0_images z0_round z0_seating z0_fitting z0_imagesKept z0_refusedSteps z0_callsNoSuch u.1 a0_tape a0_tape_bytes u.2.1 u.2.2.1 u.2.2.2.1 u.2.2.2.2.1 u.2.2.2.2.2.1 u.2.2.2.2.2.2.1 a0_ground z0_ground_formX z0_ground_formY z0_ground_foxX z0_ground_foxY z0_ground_seat z0_ground_strength z0_ground_debts z0_ground_near v0_ground_forms z0_ground_hares z0_ground_foxes z0_ground_safe a0_spareLines a0_spareLines_seen u.2.2.2.2.2.2.2.1 a0_spareLines_seen cyI u.2.2.2.2.2.2.2.2.1 a0_tape_bytes cyB f0_tape_bytes) : va_W))) (va_A (wd00_43 a0 a0_tape a0_ground z0_spareGround z0_rule z0_spareRule a0_lines a0_spareLines z0_steps z0_now z0_trial z0_past z0_images z0_round z0_seating z0_fitting z0_imagesKept z0_refusedSteps z0_callsNoSuch v0_callsIllegal a0_tape a0_tape_bytes v0_tape_length v0_tape_at v0_tape_token v0_tape_filled v0_tape_fault v0_tape_faultPlace a0_ground z0_ground_formX z0_ground_formY z0_ground_foxX z0_ground_foxY z0_ground_seat z0_ground_strength z0_ground_debts z0_ground_near v0_ground_forms z0_ground_hares z0_ground_foxes z0_ground_safe a0_spareLines a0_spareLines_seen v0_spareLines_many a0_spareLines_seen cyI f0_spareLines_seen a0_tape_bytes cyB f0_tape_bytes) sz)) (vx_X (fun _ => True) (fun (en : String) (u : Int32 × Int32 × Int32 × Int32 × Int32 × Int32 × Int32 × Int32 × (Nat → Int32) × Value × Value) (t : State) => E en u.1 u.2.1 u.2.2.1 u.2.2.2.1 u.2.2.2.2.1 u.2.2.2.2.2.1 u.2.2.2.2.2.2.1 u.2.2.2.2.2.2.2.1 u.2.2.2.2.2.2.2.2.1 u.2.2.2.2.2.2.2.2.2.1 u.2.2.2.2.2.2.2.2.2.2 ∧ cB (dC, dI) (kT cyB cyI cyJ cyP) (va_A (wd00_43 a0 a0_tape a0_ground z0_spareGround z0_rule z0_spareRule a0_lines a0_spareLines z0_steps z0_now z0_trial z0_past z0_images z0_round z0_seating z0_fitting z0_imagesKept z0_refusedSteps z0_callsNoSuch v0_callsIllegal a0_tape a0_tape_bytes v0_tape_length v0_tape_at v0_tape_token v0_tape_filled v0_tape_fault v0_tape_faultPlace a0_ground z0_ground_formX z0_ground_formY z0_ground_foxX z0_ground_foxY z0_ground_seat z0_ground_strength z0_ground_debts z0_ground_near v0_ground_forms z0_ground_hares z0_ground_foxes z0_ground_safe a0_spareLines a0_spareLines_seen v0_spareLines_many a0_spareLines_seen cyI f0_spareLines_seen a0_tape_bytes cyB f0_tape_bytes) sz) (fun u : Int32 × Int32 × Int32 × Int32 × Int32 × Int32 × Int32 × Int32 × (Nat → Int32) × Value × Value => ((wd00_44 a0 a0_tape a0_ground z0_spareGround z0_rule z0_spareRule u.2.2.2.2.2.2.2.2.2.1 u.2.2.2.2.2.2.2.2.2.2 z0_steps z0_now z0_trial z0_past z0_images z0_round z0_seating z0_fitting z0_imagesKept z0_refusedSteps z0_callsNoSuch u.1 a0_tape a0_tape_bytes u.2.1 u.2.2.1 u.2.2.2.1 u.2.2.2.2.1 u.2.2.2.2.2.1 u.2.2.2.2.2.2.1 a0_ground z0_ground_formX z0_ground_formY z0_ground_foxX z0_ground_foxY z0_ground_seat z0_ground_strength z0_ground_debts z0_ground_near v0_ground_forms z0_ground_hares z0_ground_foxes z0_ground_safe a0_spareLines a0_spareLines_seen u.2.2.2.2.2.2.2.1 a0_spareLines_seen cyI u.2.2.2.2.2.2.2.2.1 a0_tape_bytes cyB f0_tape_bytes) : va_W)) u t) (va_A (wd00_43 a0 a0_tape a0_ground z0_spareGround z0_rule z0_spareRule a0_lines a0_spareLines z0_steps z0_now z0_trial z0_past z0_images z0_round z0_seating z0_fitting z0_imagesKept z0_refusedSteps z0_callsNoSuch v0_callsIllegal a0_tape a0_tape_bytes v0_tape_length v0_tape_at v0_tape_token v0_tape_filled v0_tape_fault v0_tape_faultPlace a0_ground z0_ground_formX z0_ground_formY z0_ground_foxX z0_ground_foxY z0_ground_seat z0_ground_strength z0_ground_debts z0_ground_near v0_ground_forms z0_ground_hares z0_ground_foxes z0_ground_safe a0_spareLines a0_spareLines_seen v0_spareLines_many a0_spareLines_seen cyI f0_spareLines_seen a0_tape_bytes cyB f0_tape_bytes) sz)) 1 6 (va_A (wd00_43 a0 a0_tape a0_ground z0_spareGround z0_rule z0_spareRule a0_lines a0_spareLines z0_steps z0_now z0_trial z0_past z0_images z0_round z0_seating z0_fitting z0_imagesKept z0_refusedSteps z0_callsNoSuch v0_callsIllegal a0_tape a0_tape_bytes v0_tape_length v0_tape_at v0_tape_token v0_tape_filled v0_tape_fault v0_tape_faultPlace a0_ground z0_ground_formX z0_ground_formY z0_ground_foxX z0_ground_foxY z0_ground_seat z0_ground_strength z0_ground_debts z0_ground_near v0_ground_forms z0_ground_hares z0_ground_foxes z0_ground_safe a0_spareLines a0_spareLines_seen v0_spareLines_many a0_spareLines_seen cyI f0_spareLines_seen a0_tape_bytes cyB f0_tape_bytes) sz) := by
  refine vx_ofW (cc := cX10_book) (maxL := 3) (ret := (some .int)) (by decide) rfl ?_
  intro p e s m args below meth c s₁ B hml hnt hv
  obtain ⟨rfl, hsz, hP, hK, hD0, hNw, hXl, hXu, hXn, hXt⟩ := hv
  have hx := B.exec
  have hb := B.bytes
  have hr := B.returns
  have hts := atoms_spec (ws := wsX10_book) B.pre
  have hown : s.vm.findClass RX10 = some m.cls := findClass_of_methodNamed B.named
  have hlocks := B.notSynchronized
  subst hsz
  have hD := hD0.self (sz := s.heap.size)
  generalize hAe : va_A (wd00_43 a0 a0_tape a0_ground z0_spareGround z0_rule z0_spareRule a0_lines a0_spareLines z0_steps z0_now z0_trial z0_past z0_images z0_round z0_seating z0_fitting z0_imagesKept z0_refusedSteps z0_callsNoSuch v0_callsIllegal a0_tape a0_tape_bytes v0_tape_length v0_tape_at v0_tape_token v0_tape_filled v0_tape_fault v0_tape_faultPlace a0_ground z0_ground_formX z0_ground_formY z0_ground_foxX z0_ground_foxY z0_ground_seat z0_ground_strength z0_ground_debts z0_ground_near v0_ground_forms z0_ground_hares z0_ground_foxes z0_ground_safe a0_spareLines a0_spareLines_seen v0_spareLines_many a0_spareLines_seen cyI f0_spareLines_seen a0_tape_bytes cyB f0_tape_bytes) s.heap.size = A at hD hXu hXn ⊢
  have hA : ∀ q : Nat, s.heap.size ≤ q → A q := fun q h => by rw [← hAe]; exact Or.inr h
  have hS : va_S A s.heap s.heap [] := va_S.rf
  have hP : va_P (dC, dI) vwCl (wd00_43 a0 a0_tape a0_ground z0_spareGround z0_rule z0_spareRule a0_lines a0_spareLines z0_steps z0_now z0_trial z0_past z0_images z0_round z0_seating z0_fitting z0_imagesKept z0_refusedSteps z0_callsNoSuch v0_callsIllegal a0_tape a0_tape_bytes v0_tape_length v0_tape_at v0_tape_token v0_tape_filled v0_tape_fault v0_tape_faultPlace a0_ground z0_ground_formX z0_ground_formY z0_ground_foxX z0_ground_foxY z0_ground_seat z0_ground_strength z0_ground_debts z0_ground_near v0_ground_forms z0_ground_hares z0_ground_foxes z0_ground_safe a0_spareLines a0_spareLines_seen v0_spareLines_many a0_spareLines_seen cyI f0_spareLines_seen a0_tape_bytes cyB f0_tape_bytes) s.heap := hP
  have hl := lv_entry ([.ref a0, .int p1]) (n := 3) (Nat.le_of_ble_eq_true rfl)
  rw [lg_entry_eq]
  generalize (lg_sl ([.ref a0, .int p1]) ++ List.replicate (3 - (lg_sl ([.ref a0, .int p1])).length) Slot.unset).toArray = ls at hl ⊢
  have hl : lv_has ls 3 [(0, .ref a0), (1, .int p1)] := hl
  have hY : cfY l s A := ⟨hXl, hXu, hXn, hXt⟩
  have hXs : cfX l s c A := ⟨hnt, hY⟩
  have C0 : cfx p s m _ meth c cX10_book (some .int) wsX10_book RX10 3 A (dC, dI) (kT cyB cyI cyJ cyP) ∧ cfX l s c A := ⟨⟨hx, hb, hr, hts, hown, hlocks, hml, hA, hK, hNw⟩, hXs⟩
  clear hAe
  obtain ⟨H, hH⟩ : ∃ H, H = s.heap := ⟨_, rfl⟩
  rw [← hH] at hP ⊢
  have hS : va_S A s.heap H [] := by rw [hH]; exact va_S.rf
  have hS := hS
  refine lv_aload_n hx hb (dt_of tkX10_book_k0 0 rfl) rfl (lv_at hl 0 rfl) ?_
  refine lv_iload_n hx hb (dt_of tkX10_book_k0 1 rfl) rfl (lv_at hl 1 rfl) ?_
  refine lv_bipush (v := 60) hx hb (dt_of tkX10_book_k0 2 rfl) (by decide) ?_
  obtain ⟨hCc, hPc, hDc, hFc⟩ := va_pick (ws' := (wd00_45 a0 a0_tape a0_ground z0_spareGround z0_rule z0_spareRule a0_lines a0_spareLines z0_steps z0_now z0_trial z0_past z0_images z0_round z0_seating z0_fitting z0_imagesKept z0_refusedSteps z0_callsNoSuch v0_callsIllegal a0_tape a0_tape_bytes v0_tape_length v0_tape_at v0_tape_token v0_tape_filled v0_tape_fault v0_tape_faultPlace)) hP hD hS hA [0, 1] (by decide +kernel) rfl
  refine vx_callv (vx_runV (As := [.int p1, .int 60]) (rest := []) ⟨hx, hb, hml, hown, hts⟩ (ck_X10_openText l dC dI cyB cyI cyJ cyP a0 a0_tape H.size (.ref a0_ground) (z0_spareGround) (z0_rule) (z0_spareRule) (.ref a0_lines) (.ref a0_spareLines) (z0_steps) (z0_now) (z0_trial) (z0_past) (z0_images) (z0_round) (z0_seating) (z0_fitting) (z0_imagesKept) (z0_refusedSteps) (z0_callsNoSuch) (.ref a0_tape_bytes)  v0_callsIllegal v0_tape_length v0_tape_at v0_tape_token v0_tape_filled v0_tape_fault v0_tape_faultPlace p1 60 hw) (cwV 2 hts gX10_book_X10_openText rfl rfl rfl (by decide +kernel) ⟨Nat.le_of_ble_eq_true rfl, Nat.le_of_ble_eq_true rfl⟩) ⟨cPx_blind, va_recv (q := (RX10, TX10, 19)) hK hPc (ci := 10) (q0 := 0) rfl rfl, cPx_pre hPc hK hDc hNw hY hS hFc⟩ rfl rfl hl.1 rfl (lv_room (Nat.le_of_ble_eq_true rfl)) (dt_of tkX10_book_k0 3 rfl) ⟨Nat.le_of_ble_eq_true rfl, Nat.le_of_ble_eq_true rfl⟩) hS (fun q _ h => hFc q h) hFc (fun q _ h => hFc q h) (fun en ce q9 u t H1 locs ht hvm hpx hB hz1 hk1 hS hc9 hv9 hcl9 => ?_) (fun u t H1 locs ht hvm hw hB hz1 hk1 hS => ?_)
  · obtain ⟨x1, x2, x3, x4, x5, x6, x7⟩ := u
    obtain ⟨hw, hP1, hK1, hD1⟩ := hB
    rw [ht] at hP1
    obtain ⟨hP, hD⟩ := va_joinN (wr := (wd00_46 a0_ground z0_ground_formX z0_ground_formY z0_ground_foxX z0_ground_foxY z0_ground_seat z0_ground_strength z0_ground_debts z0_ground_near v0_ground_forms z0_ground_hares z0_ground_foxes z0_ground_safe a0_spareLines a0_spareLines_seen v0_spareLines_many a0_spareLines_seen cyI f0_spareLines_seen a0_tape_bytes cyB f0_tape_bytes)) (w1 := (wd00_45 a0 a0_tape a0_ground z0_spareGround z0_rule z0_spareRule a0_lines a0_spareLines z0_steps z0_now z0_trial z0_past z0_images z0_round z0_seating z0_fitting z0_imagesKept z0_refusedSteps z0_callsNoSuch x1 a0_tape a0_tape_bytes x2 x3 x4 x5 x6 x7)) (wn := (wd00_43 a0 a0_tape a0_ground z0_spareGround z0_rule z0_spareRule a0_lines a0_spareLines z0_steps z0_now z0_trial z0_past z0_images z0_round z0_seating z0_fitting z0_imagesKept z0_refusedSteps z0_callsNoSuch x1 a0_tape a0_tape_bytes x2 x3 x4 x5 x6 x7 a0_ground z0_ground_formX z0_ground_formY z0_ground_foxX z0_ground_foxY z0_ground_seat z0_ground_strength z0_ground_debts z0_ground_near v0_ground_forms z0_ground_hares z0_ground_foxes z0_ground_safe a0_spareLines a0_spareLines_seen v0_spareLines_many a0_spareLines_seen cyI f0_spareLines_seen a0_tape_bytes cyB f0_tape_bytes)) hP hD [0, 1] [2, 3, 4, 5] [4, 5, 0, 1, 2, 3] hCc rfl (by decide +kernel) (by decide +kernel) (by decide +kernel) rfl hk1 hFc hP1 hD1
    generalize H1 = H at hP hS hc9 ⊢
    exact vx_out (fun x hx9 => (hXs.1 x hx9).elim) hlocks hc9 hv9 hcl9 (fun t2 ht2 hal2 => ⟨(x1, x2, x3, x4, x5, x6, x7, v0_spareLines_many, f0_spareLines_seen, (.ref a0_lines), (.ref a0_spareLines)), trivial, ⟨hw, by rw [ht2]; exact hP, va_K.moved hal2 hK, hD⟩, hS.F ht2⟩) hS.2.2 (Nat.le_of_ble_eq_true rfl) (Nat.le_of_ble_eq_true rfl)
  obtain ⟨x1, x2, x3, x4, x5, x6, x7⟩ := u
  obtain ⟨hP1, hK1, hD1⟩ := hB
  rw [ht] at hP1
  obtain ⟨hP, hD⟩ := va_joinN (wr := (wd00_46 a0_ground z0_ground_formX z0_ground_formY z0_ground_foxX z0_ground_foxY z0_ground_seat z0_ground_strength z0_ground_debts z0_ground_near v0_ground_forms z0_ground_hares z0_ground_foxes z0_ground_safe a0_spareLines a0_spareLines_seen v0_spareLines_many a0_spareLines_seen cyI f0_spareLines_seen a0_tape_bytes cyB f0_tape_bytes)) (w1 := (wd00_45 a0 a0_tape a0_ground z0_spareGround z0_rule z0_spareRule a0_lines a0_spareLines z0_steps z0_now z0_trial z0_past z0_images z0_round z0_seating z0_fitting z0_imagesKept z0_refusedSteps z0_callsNoSuch x1 a0_tape a0_tape_bytes x2 x3 x4 x5 x6 x7)) (wn := (wd00_43 a0 a0_tape a0_ground z0_spareGround z0_rule z0_spareRule a0_lines a0_spareLines z0_steps z0_now z0_trial z0_past z0_images z0_round z0_seating z0_fitting z0_imagesKept z0_refusedSteps z0_callsNoSuch x1 a0_tape a0_tape_bytes x2 x3 x4 x5 x6 x7 a0_ground z0_ground_formX z0_ground_formY z0_ground_foxX z0_ground_foxY z0_ground_seat z0_ground_strength z0_ground_debts z0_ground_near v0_ground_forms z0_ground_hares z0_ground_foxes z0_ground_safe a0_spareLines a0_spareLines_seen v0_spareLines_many a0_spareLines_seen cyI f0_spareLines_seen a0_tape_bytes cyB f0_tape_bytes)) hP hD [0, 1] [2, 3, 4, 5] [4, 5, 0, 1, 2, 3] hCc rfl (by decide +kernel) (by decide +kernel) (by decide +kernel) rfl hk1 hFc hP1 hD1
  generalize H1 = H at hP hS ⊢
  refine lv_aload_n hx hb (dt_of tkX10_book_k0 4 rfl) rfl (lv_at hl 0 rfl) ?_
  refine va_get (D := (dC, dI)) (ci := 10) (v := .ref a0_spareLines) (C := RX10) (T := TX10) (N := 19) hx hb hts ui_X10_book_X10 hown hK hP 0 rfl rfl 6 (by decide) (hts _ uw_X10_book_f43) (fun _ h9 => h9) rfl (dt_of tkX10_book_k0 5 rfl) ?_
  refine lv_aload_n hx hb (dt_of tkX10_book_k0 6 rfl) rfl (lv_at hl 0 rfl) ?_
  refine va_get (D := (dC, dI)) (ci := 10) (v := .ref a0_tape) (C := RX10) (T := TX10) (N := 19) hx hb hts ui_X10_book_X10 hown hK hP 0 rfl rfl 0 (by decide) (hts _ uw_X10_book_f10) (fun _ h9 => h9) rfl (dt_of tkX10_book_k0 7 rfl) ?_
  refine lv_aload_n hx hb (dt_of tkX10_book_k0 8 rfl) rfl (lv_at hl 0 rfl) ?_
  refine va_get (D := (dC, dI)) (ci := 10) (v := .ref a0_ground) (C := RX10) (T := TX10) (N := 19) hx hb hts ui_X10_book_X10 hown hK hP 0 rfl rfl 1 (by decide) (hts _ uw_X10_book_f19) (fun _ h9 => h9) rfl (dt_of tkX10_book_k0 9 rfl) ?_
  refine va_get (D := (dC, dI)) (ci := 2) (v := .int v0_ground_forms) (C := RX2) (T := TX2) (N := 12) hx hb hts ui_X10_book_X2 hown hK hP 2 rfl rfl 8 (by decide) (hts _ uw_X10_book_f149) (fun _ h9 => h9) rfl (dt_of tkX10_book_k0 10 rfl) ?_
  obtain ⟨hCc, hPc, hDc, hFc⟩ := va_pick (ws' := (wd00_47 a0_spareLines a0_spareLines_seen v0_spareLines_many a0_spareLines_seen cyI f0_spareLines_seen a0_tape a0_tape_bytes x2 x3 x4 x5 x6 x7 a0_tape_bytes cyB f0_tape_bytes)) hP hD hS hA [3, 4, 1, 5] (by decide +kernel) rfl
  refine va_callv (va_runV (As := [.ref a0_tape, .int v0_ground_forms]) (rest := []) ⟨hx, hb, hml, hown, hts⟩ (ck_X0_readFrom l dC dI cyB cyI cyJ cyP a0_spareLines a0_tape a0_spareLines_seen a0_tape_bytes H.size (.int x5) x2 f0_tape_bytes v0_spareLines_many f0_spareLines_seen x3 x6 x7 x4 v0_ground_forms hw) (cwV 2 hts gX10_book_X0_readFrom rfl rfl rfl (by decide +kernel) ⟨Nat.le_of_ble_eq_true rfl, Nat.le_of_ble_eq_true rfl⟩) ⟨cPc_blind, va_recv (q := (RX0, TX0, 2)) hK hPc (ci := 0) (q0 := 0) rfl rfl, cPc_pre hPc hK hDc hNw⟩ rfl rfl hl.1 rfl (lv_room (Nat.le_of_ble_eq_true rfl)) (dt_of tkX10_book_k0 11 rfl) ⟨Nat.le_of_ble_eq_true rfl, Nat.le_of_ble_eq_true rfl⟩) hS (fun q _ h => hFc q h) hFc (fun u t H1 locs ht hvm hw hB hz1 hk1 hS => ?_)
  obtain ⟨x8, f9, x10, x11, x12, x13⟩ := u
  obtain ⟨hP1, hK1, hD1⟩ := hB
  rw [ht] at hP1
  obtain ⟨hP, hD⟩ := va_joinN (wr := [(a0, .inr (10, [.ref a0_tape, .ref a0_ground, z0_spareGround, z0_rule, z0_spareRule, .ref a0_lines, .ref a0_spareLines, z0_steps, z0_now, z0_trial, z0_past, z0_images, z0_round, z0_seating, z0_fitting, z0_imagesKept, z0_refusedSteps, z0_callsNoSuch, .int x1])), (a0_ground, .inr (2, [z0_ground_formX, z0_ground_formY, z0_ground_foxX, z0_ground_foxY, z0_ground_seat, z0_ground_strength, z0_ground_debts, z0_ground_near, .int v0_ground_forms, z0_ground_hares, z0_ground_foxes, z0_ground_safe]))]) (w1 := (wd00_47 a0_spareLines a0_spareLines_seen x8 a0_spareLines_seen cyI f9 a0_tape a0_tape_bytes x2 x10 x13 x5 x11 x12 a0_tape_bytes cyB f0_tape_bytes)) (wn := (wd00_43 a0 a0_tape a0_ground z0_spareGround z0_rule z0_spareRule a0_lines a0_spareLines z0_steps z0_now z0_trial z0_past z0_images z0_round z0_seating z0_fitting z0_imagesKept z0_refusedSteps z0_callsNoSuch x1 a0_tape a0_tape_bytes x2 x10 x13 x5 x11 x12 a0_ground z0_ground_formX z0_ground_formY z0_ground_foxX z0_ground_foxY z0_ground_seat z0_ground_strength z0_ground_debts z0_ground_near v0_ground_forms z0_ground_hares z0_ground_foxes z0_ground_safe a0_spareLines a0_spareLines_seen x8 a0_spareLines_seen cyI f9 a0_tape_bytes cyB f0_tape_bytes)) hP hD [3, 4, 1, 5] [0, 2] [0, 4, 1, 2, 3, 5] hCc rfl (by decide +kernel) (by decide +kernel) (by decide +kernel) rfl hk1 hFc hP1 hD1
  generalize H1 = H at hP hS ⊢
  refine lv_aload_n hx hb (dt_of tkX10_book_k0 12 rfl) rfl (lv_at hl 0 rfl) ?_
  refine va_get (D := (dC, dI)) (ci := 10) (v := .ref a0_tape) (C := RX10) (T := TX10) (N := 19) hx hb hts ui_X10_book_X10 hown hK hP 0 rfl rfl 0 (by decide) (hts _ uw_X10_book_f10) (fun _ h9 => h9) rfl (dt_of tkX10_book_k0 13 rfl) ?_
  obtain ⟨hCc, hPc, hDc, hFc⟩ := va_pick (ws' := (wd00_48 a0_tape a0_tape_bytes x2 x10 x13 x5 x11 x12)) hP hD hS hA [1] (by decide +kernel) rfl
  refine va_calli (va_runV (As := []) (rest := []) ⟨hx, hb, hml, hown, hts⟩ (ck_X8_isFaulty l dC dI cyB cyI cyJ cyP a0_tape H.size (.ref a0_tape_bytes) (.int x2) (.int x10) (.int x13) (.int x5) (.int x12) x11   hw) (cwV 0 hts gX10_book_X8_isFaulty rfl rfl rfl (by decide +kernel) ⟨Nat.le_of_ble_eq_true rfl, Nat.le_of_ble_eq_true rfl⟩) ⟨cPc_blind, va_recv (q := (RX8, TX8, 7)) hK hPc (ci := 8) (q0 := 0) rfl rfl, cPc_pre hPc hK hDc hNw⟩ rfl rfl hl.1 rfl (lv_room (Nat.le_of_ble_eq_true rfl)) (dt_of tkX10_book_k0 14 rfl) ⟨Nat.le_of_ble_eq_true rfl, Nat.le_of_ble_eq_true rfl⟩) hS (fun q _ h => hFc q h) hFc (fun r14 u t H1 locs ht hvm hw hB hz1 hk1 hS => ?_)
  obtain ⟨hP1, hK1, hD1⟩ := hB
  rw [ht] at hP1
  obtain ⟨hP, hD⟩ := va_joinN (wr := [(a0, .inr (10, [.ref a0_tape, .ref a0_ground, z0_spareGround, z0_rule, z0_spareRule, .ref a0_lines, .ref a0_spareLines, z0_steps, z0_now, z0_trial, z0_past, z0_images, z0_round, z0_seating, z0_fitting, z0_imagesKept, z0_refusedSteps, z0_callsNoSuch, .int x1])), (a0_ground, .inr (2, [z0_ground_formX, z0_ground_formY, z0_ground_foxX, z0_ground_foxY, z0_ground_seat, z0_ground_strength, z0_ground_debts, z0_ground_near, .int v0_ground_forms, z0_ground_hares, z0_ground_foxes, z0_ground_safe])), (a0_spareLines, .inr (0, [.ref a0_spareLines_seen, .int x8])), (a0_spareLines_seen, .inl (cyI, 8, .inl f9)), (a0_tape_bytes, .inl (cyB, 600, .inl f0_tape_bytes))]) (w1 := (wd00_48 a0_tape a0_tape_bytes x2 x10 x13 x5 x11 x12)) (wn := (wd00_43 a0 a0_tape a0_ground z0_spareGround z0_rule z0_spareRule a0_lines a0_spareLines z0_steps z0_now z0_trial z0_past z0_images z0_round z0_seating z0_fitting z0_imagesKept z0_refusedSteps z0_callsNoSuch x1 a0_tape a0_tape_bytes x2 x10 x13 x5 x11 x12 a0_ground z0_ground_formX z0_ground_formY z0_ground_foxX z0_ground_foxY z0_ground_seat z0_ground_strength z0_ground_debts z0_ground_near v0_ground_forms z0_ground_hares z0_ground_foxes z0_ground_safe a0_spareLines a0_spareLines_seen x8 a0_spareLines_seen cyI f9 a0_tape_bytes cyB f0_tape_bytes)) hP hD [1] [0, 2, 3, 4, 5] [0, 5, 1, 2, 3, 4] hCc rfl (by decide +kernel) (by decide +kernel) (by decide +kernel) rfl hk1 hFc hP1 hD1
  generalize H1 = H at hP hS ⊢
  refine lv_if_eq (tgt := 46) hx hb (dt_of tkX10_book_k0 15 rfl) (by decide) (fun c15 => ?_) (fun c15 => ?_)
  · have hw := hw.1 c15
    refine lv_aload_n hx hb (dt_of tkX10_book_k35 6 rfl) rfl (lv_at hl 0 rfl) ?_
    refine va_get (D := (dC, dI)) (ci := 10) (v := .ref a0_lines) (C := RX10) (T := TX10) (N := 19) hx hb hts ui_X10_book_X10 hown hK hP 0 rfl rfl 5 (by decide) (hts _ uw_X10_book_f39) (fun _ h9 => h9) rfl (dt_of tkX10_book_k35 7 rfl) ?_
    refine lv_astore_n (lv' := [(2, .ref a0_lines), (0, .ref a0), (1, .int p1)]) hx hb (dt_of tkX10_book_k35 8 rfl) rfl hl (by decide) rfl (fun ls hl => ?_)
    refine lv_aload_n hx hb (dt_of tkX10_book_k35 9 rfl) rfl (lv_at hl 1 rfl) ?_
    refine lv_aload_n hx hb (dt_of tkX10_book_k35 10 rfl) rfl (lv_at hl 1 rfl) ?_
    refine va_get (D := (dC, dI)) (ci := 10) (v := .ref a0_spareLines) (C := RX10) (T := TX10) (N := 19) hx hb hts ui_X10_book_X10 hown hK hP 0 rfl rfl 6 (by decide) (hts _ uw_X10_book_f43) (fun _ h9 => h9) rfl (dt_of tkX10_book_k35 11 rfl) ?_
    refine va_put (D := (dC, dI)) (ci := 10) (v := .ref a0_spareLines) (ty := .object "MarchHares$Book") (C := RX10) (T := TX10) (N := 19) hx hb hts ui_X10_book_X10 tyX10 tyX10_ok nmX10 hown hK hP hD hS 0 rfl rfl 5 (by decide) (hts _ uw_X10_book_f39) (fun _ h9 => h9) rfl (by decide +kernel) rfl rfl (Nat.le_of_ble_eq_true rfl) (dt_of tkX10_book_k35 12 rfl) (fun H locs hP hD hS => ?_)
    have hP : va_P (dC, dI) vwCl (wd00_43 a0 a0_tape a0_ground z0_spareGround z0_rule z0_spareRule a0_spareLines a0_spareLines z0_steps z0_now z0_trial z0_past z0_images z0_round z0_seating z0_fitting z0_imagesKept z0_refusedSteps z0_callsNoSuch x1 a0_tape a0_tape_bytes x2 x10 x13 x5 x11 x12 a0_ground z0_ground_formX z0_ground_formY z0_ground_foxX z0_ground_foxY z0_ground_seat z0_ground_strength z0_ground_debts z0_ground_near v0_ground_forms z0_ground_hares z0_ground_foxes z0_ground_safe a0_spareLines a0_spareLines_seen x8 a0_spareLines_seen cyI f9 a0_tape_bytes cyB f0_tape_bytes) H := hP
    have hD : va_D A (wd00_43 a0 a0_tape a0_ground z0_spareGround z0_rule z0_spareRule a0_spareLines a0_spareLines z0_steps z0_now z0_trial z0_past z0_images z0_round z0_seating z0_fitting z0_imagesKept z0_refusedSteps z0_callsNoSuch x1 a0_tape a0_tape_bytes x2 x10 x13 x5 x11 x12 a0_ground z0_ground_formX z0_ground_formY z0_ground_foxX z0_ground_foxY z0_ground_seat z0_ground_strength z0_ground_debts z0_ground_near v0_ground_forms z0_ground_hares z0_ground_foxes z0_ground_safe a0_spareLines a0_spareLines_seen x8 a0_spareLines_seen cyI f9 a0_tape_bytes cyB f0_tape_bytes) := hD
    refine lv_aload_n hx hb (dt_of tkX10_book_k35 13 rfl) rfl (lv_at hl 1 rfl) ?_
    refine lv_aload_n hx hb (dt_of tkX10_book_k35 14 rfl) rfl (lv_at hl 0 rfl) ?_
    refine va_put (D := (dC, dI)) (ci := 10) (v := .ref a0_lines) (ty := .object "MarchHares$Book") (C := RX10) (T := TX10) (N := 19) hx hb hts ui_X10_book_X10 tyX10 tyX10_ok nmX10 hown hK hP hD hS 0 rfl rfl 6 (by decide) (hts _ uw_X10_book_f43) (fun _ h9 => h9) rfl (by decide +kernel) rfl rfl (Nat.le_of_ble_eq_true rfl) (dt_of tkX10_book_k35 15 rfl) (fun H locs hP hD hS => ?_)
    have hP : va_P (dC, dI) vwCl (wd00_43 a0 a0_tape a0_ground z0_spareGround z0_rule z0_spareRule a0_spareLines a0_lines z0_steps z0_now z0_trial z0_past z0_images z0_round z0_seating z0_fitting z0_imagesKept z0_refusedSteps z0_callsNoSuch x1 a0_tape a0_tape_bytes x2 x10 x13 x5 x11 x12 a0_ground z0_ground_formX z0_ground_formY z0_ground_foxX z0_ground_foxY z0_ground_seat z0_ground_strength z0_ground_debts z0_ground_near v0_ground_forms z0_ground_hares z0_ground_foxes z0_ground_safe a0_spareLines a0_spareLines_seen x8 a0_spareLines_seen cyI f9 a0_tape_bytes cyB f0_tape_bytes) H := hP
    have hD : va_D A (wd00_43 a0 a0_tape a0_ground z0_spareGround z0_rule z0_spareRule a0_spareLines a0_lines z0_steps z0_now z0_trial z0_past z0_images z0_round z0_seating z0_fitting z0_imagesKept z0_refusedSteps z0_callsNoSuch x1 a0_tape a0_tape_bytes x2 x10 x13 x5 x11 x12 a0_ground z0_ground_formX z0_ground_formY z0_ground_foxX z0_ground_foxY z0_ground_seat z0_ground_strength z0_ground_debts z0_ground_near v0_ground_forms z0_ground_hares z0_ground_foxes z0_ground_safe a0_spareLines a0_spareLines_seen x8 a0_spareLines_seen cyI f9 a0_tape_bytes cyB f0_tape_bytes) := hD
    refine lv_aload_n hx hb (dt_of tkX10_book_k64 0 rfl) rfl (lv_at hl 1 rfl) ?_
    refine va_get (D := (dC, dI)) (ci := 10) (v := .ref a0_spareLines) (C := RX10) (T := TX10) (N := 19) hx hb hts ui_X10_book_X10 hown hK hP 0 rfl rfl 5 (by decide) (hts _ uw_X10_book_f39) (fun _ h9 => h9) rfl (dt_of tkX10_book_k64 1 rfl) ?_
    refine va_get (D := (dC, dI)) (ci := 0) (v := .int x8) (C := RX0) (T := TX0) (N := 2) hx hb hts ui_X10_book_X0 hown hK hP 3 rfl rfl 1 (by decide) (hts _ uw_X10_book_f171) (fun _ h9 => h9) rfl (dt_of tkX10_book_k64 2 rfl) ?_
    exact vx_ret (W.widen (k := 1) (n := 6) (Nat.le_of_ble_eq_true rfl) (Nat.le_of_ble_eq_true rfl) (W.iret (v := x8) hx hb hr (fun t ht hW => ⟨⟨x8, (x1, x2, x10, x13, x5, x11, x12, x8, f9, (.ref a0_spareLines), (.ref a0_lines)), rfl, hw, by rw [ht]; exact hP, va_K.moved hW.alike hK, hD⟩, hS.F ht⟩) hS.2.2 (dt_of tkX10_book_k64 3 rfl)))
  · have hw := hw.2 c15
    refine lv_aload_n hx hb (dt_of tkX10_book_k35 0 rfl) rfl (lv_at hl 0 rfl) ?_
    refine va_get (D := (dC, dI)) (ci := 10) (v := .ref a0_tape) (C := RX10) (T := TX10) (N := 19) hx hb hts ui_X10_book_X10 hown hK hP 0 rfl rfl 0 (by decide) (hts _ uw_X10_book_f10) (fun _ h9 => h9) rfl (dt_of tkX10_book_k35 1 rfl) ?_
    refine va_get (D := (dC, dI)) (ci := 8) (v := .int x11) (C := RX8) (T := TX8) (N := 7) hx hb hts ui_X10_book_X8 hown hK hP 1 rfl rfl 5 (by decide) (hts _ uw_X10_book_f120) (fun _ h9 => h9) rfl (dt_of tkX10_book_k35 2 rfl) ?_
    refine lv_bipush (v := 10) hx hb (dt_of tkX10_book_k35 3 rfl) (by decide) ?_
    refine lv_isub hx hb (dt_of tkX10_book_k35 4 rfl) ?_
    exact vx_ret (W.widen (k := 1) (n := 6) (Nat.le_of_ble_eq_true rfl) (Nat.le_of_ble_eq_true rfl) (W.iret (v := (x11 - 10)) hx hb hr (fun t ht hW => ⟨⟨(x11 - 10), (x1, x2, x10, x13, x5, x11, x12, x8, f9, (.ref a0_lines), (.ref a0_spareLines)), rfl, hw, by rw [ht]; exact hP, va_K.moved hW.alike hK, hD⟩, hS.F ht⟩) hS.2.2 (dt_of tkX10_book_k35 5 rfl)))
theorem uw_L_book_ct13 : (.classLink RL 13 "java/lang/IllegalArgumentException" : Cond) ∈ wsL_book := mbL_book 595 (by decide +kernel)
theorem uw_L_book_cw : (.codeWith yL_book cL_book 4 (some .int) [(0, 9, 12, 13)] : Cond) ∈ wsL_book := mbL_book 2381 (by decide +kernel)
set_option maxHeartbeats 4000000 in
set_option maxRecDepth 100000 in
theorem ck_L_book (l : Launch) (dC : Nat → ClassId) (dI : Nat → Nat → Nat) (cyB cyI cyJ cyP : ClassId) (a0 a2 a0_tape a0_ground a0_spareLines a0_spareLines_seen a0_tape_bytes a0_lines : Nat) (sz : Nat) (z0_spareGround : Value) (z0_rule : Value) (z0_spareRule : Value) (z0_steps : Value) (z0_now : Value) (z0_trial : Value) (z0_past : Value) (z0_images : Value) (z0_round : Value) (z0_seating : Value) (z0_fitting : Value) (z0_imagesKept : Value) (z0_refusedSteps : Value) (z0_callsNoSuch : Value) (z0_ground_formX : Value) (z0_ground_formY : Value) (z0_ground_foxX : Value) (z0_ground_foxY : Value) (z0_ground_seat : Value) (z0_ground_strength : Value) (z0_ground_debts : Value) (z0_ground_near : Value) (z0_ground_hares : Value) (z0_ground_foxes : Value) (z0_ground_safe : Value) (n2 : Nat) (v0_ground_forms : Int32) (f0_tape_bytes : Nat → Int32) (v0_callsIllegal : Int32) (v0_tape_length : Int32) (v0_tape_at : Int32) (v0_tape_token : Int32) (v0_tape_filled : Int32) (v0_tape_fault : Int32) (v0_tape_faultPlace : Int32) (v0_spareLines_many : Int32) (f0_spareLines_seen : Nat → Int32) (f2 : Nat → Int64) (p1 : Int32) {Q : Int32 → Int32 → Int32 → Int32 → Int32 → Int32 → Int32 → Int32 → Int32 → (Nat → Int32) → Value → Value → (Nat → Int64) → Prop} (hw : wq_L_book a0_lines a0_spareLines n2 v0_ground_forms f0_tape_bytes v0_callsIllegal v0_tape_length v0_tape_at v0_tape_token v0_tape_filled v0_tape_fault v0_tape_faultPlace v0_spareLines_many f0_spareLines_seen (.ref a0_lines) (.ref a0_spareLines) f2 p1 Q) : Met l yL_book wsL_book ({ frames := 10, cells := 1, slots := 6, locals := 208 }) (va_Pc [.ref a0, .int p1, .ref a2] (cPx l (dC, dI) (kT cyB cyI cyJ cyP) (wd00_49 a0 a0_tape a0_ground z0_spareGround z0_rule z0_spareRule a0_lines a0_spareLines z0_steps z0_now z0_trial z0_past z0_images z0_round z0_seating z0_fitting z0_imagesKept z0_refusedSteps z0_callsNoSuch v0_callsIllegal a0_tape a0_tape_bytes v0_tape_length v0_tape_at v0_tape_token v0_tape_filled v0_tape_fault v0_tape_faultPlace a0_ground z0_ground_formX z0_ground_formY z0_ground_foxX z0_ground_foxY z0_ground_seat z0_ground_strength z0_ground_debts z0_ground_near v0_ground_forms z0_ground_hares z0_ground_foxes z0_ground_safe a0_spareLines a0_spareLines_seen v0_spareLines_many a0_spareLines_seen cyI f0_spareLines_seen a0_tape_bytes cyB f0_tape_bytes a2 cyJ n2 f2) sz)) (va_Qi (fun (r : Int32) (u : Int32 × Int32 × Int32 × Int32 × Int32 × Int32 × Int32 × Int32 × (Nat → Int32) × Value × Value × (Nat → Int64)) => Q r u.1 u.2.1 u.2.2.1 u.2.2.2.1 u.2.2.2.2.1 u.2.2.2.2.2.1 u.2.2.2.2.2.2.1 u.2.2.2.2.2.2.2.1 u.2.2.2.2.2.2.2.2.1 u.2.2.2.2.2.2.2.2.2.1 u.2.2.2.2.2.2.2.2.2.2.1 u.2.2.2.2.2.2.2.2.2.2.2) (cB (dC, dI) (kT cyB cyI cyJ cyP) (va_A (wd00_49 a0 a0_tape a0_ground z0_spareGround z0_rule z0_spareRule a0_lines a0_spareLines z0_steps z0_now z0_trial z0_past z0_images z0_round z0_seating z0_fitting z0_imagesKept z0_refusedSteps z0_callsNoSuch v0_callsIllegal a0_tape a0_tape_bytes v0_tape_length v0_tape_at v0_tape_token v0_tape_filled v0_tape_fault v0_tape_faultPlace a0_ground z0_ground_formX z0_ground_formY z0_ground_foxX z0_ground_foxY z0_ground_seat z0_ground_strength z0_ground_debts z0_ground_near v0_ground_forms z0_ground_hares z0_ground_foxes z0_ground_safe a0_spareLines a0_spareLines_seen v0_spareLines_many a0_spareLines_seen cyI f0_spareLines_seen a0_tape_bytes cyB f0_tape_bytes a2 cyJ n2 f2) sz) (fun u : Int32 × Int32 × Int32 × Int32 × Int32 × Int32 × Int32 × Int32 × (Nat → Int32) × Value × Value × (Nat → Int64) => ((wd00_50 a0 a0_tape a0_ground z0_spareGround z0_rule z0_spareRule u.2.2.2.2.2.2.2.2.2.1 u.2.2.2.2.2.2.2.2.2.2.1 z0_steps z0_now z0_trial z0_past z0_images z0_round z0_seating z0_fitting z0_imagesKept z0_refusedSteps z0_callsNoSuch u.1 a0_tape a0_tape_bytes u.2.1 u.2.2.1 u.2.2.2.1 u.2.2.2.2.1 u.2.2.2.2.2.1 u.2.2.2.2.2.2.1 a0_ground z0_ground_formX z0_ground_formY z0_ground_foxX z0_ground_foxY z0_ground_seat z0_ground_strength z0_ground_debts z0_ground_near v0_ground_forms z0_ground_hares z0_ground_foxes z0_ground_safe a0_spareLines a0_spareLines_seen u.2.2.2.2.2.2.2.1 a0_spareLines_seen cyI u.2.2.2.2.2.2.2.2.1 a0_tape_bytes cyB f0_tape_bytes a2 cyJ n2 u.2.2.2.2.2.2.2.2.2.2.2) : va_W))) (va_A (wd00_49 a0 a0_tape a0_ground z0_spareGround z0_rule z0_spareRule a0_lines a0_spareLines z0_steps z0_now z0_trial z0_past z0_images z0_round z0_seating z0_fitting z0_imagesKept z0_refusedSteps z0_callsNoSuch v0_callsIllegal a0_tape a0_tape_bytes v0_tape_length v0_tape_at v0_tape_token v0_tape_filled v0_tape_fault v0_tape_faultPlace a0_ground z0_ground_formX z0_ground_formY z0_ground_foxX z0_ground_foxY z0_ground_seat z0_ground_strength z0_ground_debts z0_ground_near v0_ground_forms z0_ground_hares z0_ground_foxes z0_ground_safe a0_spareLines a0_spareLines_seen v0_spareLines_many a0_spareLines_seen cyI f0_spareLines_seen a0_tape_bytes cyB f0_tape_bytes a2 cyJ n2 f2) sz)) 1 6 (va_A (wd00_49 a0 a0_tape a0_ground z0_spareGround z0_rule z0_spareRule a0_lines a0_spareLines z0_steps z0_now z0_trial z0_past z0_images z0_round z0_seating z0_fitting z0_imagesKept z0_refusedSteps z0_callsNoSuch v0_callsIllegal a0_tape a0_tape_bytes v0_tape_length v0_tape_at v0_tape_token v0_tape_filled v0_tape_fault v0_tape_faultPlace a0_ground z0_ground_formX z0_ground_formY z0_ground_foxX z0_ground_foxY z0_ground_seat z0_ground_strength z0_ground_debts z0_ground_near v0_ground_forms z0_ground_hares z0_ground_foxes z0_ground_safe a0_spareLines a0_spareLines_seen v0_spareLines_many a0_spareLines_seen cyI f0_spareLines_seen a0_tape_bytes cyB f0_tape_bytes a2 cyJ n2 f2) sz) := by
  refine va_MetW (cc := cL_book) (maxL := 4) (ret := (some .int)) (by decide) rfl ?_
  intro p e s m args below meth c s₁ B hml hv
  obtain ⟨rfl, hsz, hP, hK, hD0, hNw, hXl, hXu, hXn, hXt⟩ := hv
  have hx := B.exec
  have hb := B.bytes
  have hr := B.returns
  have hts := atoms_spec (ws := wsL_book) B.pre
  have hown : s.vm.findClass RL = some m.cls := findClass_of_methodNamed B.named
  have hlocks := B.notSynchronized
  subst hsz
  have hD := hD0.self (sz := s.heap.size)
  generalize hAe : va_A (wd00_49 a0 a0_tape a0_ground z0_spareGround z0_rule z0_spareRule a0_lines a0_spareLines z0_steps z0_now z0_trial z0_past z0_images z0_round z0_seating z0_fitting z0_imagesKept z0_refusedSteps z0_callsNoSuch v0_callsIllegal a0_tape a0_tape_bytes v0_tape_length v0_tape_at v0_tape_token v0_tape_filled v0_tape_fault v0_tape_faultPlace a0_ground z0_ground_formX z0_ground_formY z0_ground_foxX z0_ground_foxY z0_ground_seat z0_ground_strength z0_ground_debts z0_ground_near v0_ground_forms z0_ground_hares z0_ground_foxes z0_ground_safe a0_spareLines a0_spareLines_seen v0_spareLines_many a0_spareLines_seen cyI f0_spareLines_seen a0_tape_bytes cyB f0_tape_bytes a2 cyJ n2 f2) s.heap.size = A at hD hXu hXn ⊢
  have hA : ∀ q : Nat, s.heap.size ≤ q → A q := fun q h => by rw [← hAe]; exact Or.inr h
  have hS : va_S A s.heap s.heap [] := va_S.rf
  have hP : va_P (dC, dI) vwCl (wd00_49 a0 a0_tape a0_ground z0_spareGround z0_rule z0_spareRule a0_lines a0_spareLines z0_steps z0_now z0_trial z0_past z0_images z0_round z0_seating z0_fitting z0_imagesKept z0_refusedSteps z0_callsNoSuch v0_callsIllegal a0_tape a0_tape_bytes v0_tape_length v0_tape_at v0_tape_token v0_tape_filled v0_tape_fault v0_tape_faultPlace a0_ground z0_ground_formX z0_ground_formY z0_ground_foxX z0_ground_foxY z0_ground_seat z0_ground_strength z0_ground_debts z0_ground_near v0_ground_forms z0_ground_hares z0_ground_foxes z0_ground_safe a0_spareLines a0_spareLines_seen v0_spareLines_many a0_spareLines_seen cyI f0_spareLines_seen a0_tape_bytes cyB f0_tape_bytes a2 cyJ n2 f2) s.heap := hP
  have hl := lv_entry ([.ref a0, .int p1, .ref a2]) (n := 4) (Nat.le_of_ble_eq_true rfl)
  rw [lg_entry_eq]
  generalize (lg_sl ([.ref a0, .int p1, .ref a2]) ++ List.replicate (4 - (lg_sl ([.ref a0, .int p1, .ref a2])).length) Slot.unset).toArray = ls at hl ⊢
  have hl : lv_has ls 4 [(0, .ref a0), (1, .int p1), (2, .ref a2)] := hl
  have hY : cfY l s A := ⟨hXl, hXu, hXn, hXt⟩
  have hTb := vx_table (x := yL_book) B (hts _ uw_L_book_cw)
  clear hAe
  obtain ⟨H, hH⟩ : ∃ H, H = s.heap := ⟨_, rfl⟩
  rw [← hH] at hP ⊢
  have hS : va_S A s.heap H [] := by rw [hH]; exact va_S.rf
  have hS := hS
  refine lv_aload_n hx hb (dt_of tkL_book_k0 0 rfl) rfl (lv_at hl 2 rfl) ?_
  refine lv_iconst (v := 0) hx hb (dt_of tkL_book_k0 1 rfl) (by decide) ?_
  refine lv_aload_n hx hb (dt_of tkL_book_k0 2 rfl) rfl (lv_at hl 0 rfl) ?_
  refine lv_iload_n hx hb (dt_of tkL_book_k0 3 rfl) rfl (lv_at hl 1 rfl) ?_
  obtain ⟨hCc, hPc, hDc, hFc⟩ := va_pick (ws' := (wd00_43 a0 a0_tape a0_ground z0_spareGround z0_rule z0_spareRule a0_lines a0_spareLines z0_steps z0_now z0_trial z0_past z0_images z0_round z0_seating z0_fitting z0_imagesKept z0_refusedSteps z0_callsNoSuch v0_callsIllegal a0_tape a0_tape_bytes v0_tape_length v0_tape_at v0_tape_token v0_tape_filled v0_tape_fault v0_tape_faultPlace a0_ground z0_ground_formX z0_ground_formY z0_ground_foxX z0_ground_foxY z0_ground_seat z0_ground_strength z0_ground_debts z0_ground_near v0_ground_forms z0_ground_hares z0_ground_foxes z0_ground_safe a0_spareLines a0_spareLines_seen v0_spareLines_many a0_spareLines_seen cyI f0_spareLines_seen a0_tape_bytes cyB f0_tape_bytes)) hP hD hS hA [0, 1, 2, 3, 4, 5] (by decide +kernel) rfl
  refine vx_calli (vx_runV (As := [.int p1]) (rest := [.int 0, .ref a2]) ⟨hx, hb, hml, hown, hts⟩ (ck_X10_book l dC dI cyB cyI cyJ cyP a0 a0_tape a0_spareLines a0_ground a0_spareLines_seen a0_tape_bytes a0_lines H.size (z0_spareGround) (z0_rule) (z0_spareRule) (z0_steps) (z0_now) (z0_trial) (z0_past) (z0_images) (z0_round) (z0_seating) (z0_fitting) (z0_imagesKept) (z0_refusedSteps) (z0_callsNoSuch) (z0_ground_formX) (z0_ground_formY) (z0_ground_foxX) (z0_ground_foxY) (z0_ground_seat) (z0_ground_strength) (z0_ground_debts) (z0_ground_near) (z0_ground_hares) (z0_ground_foxes) (z0_ground_safe) v0_ground_forms f0_tape_bytes v0_callsIllegal v0_tape_length v0_tape_at v0_tape_token v0_tape_filled v0_tape_fault v0_tape_faultPlace v0_spareLines_many f0_spareLines_seen p1 hw) (cwV 1 hts gL_book_X10_book rfl rfl rfl (by decide +kernel) ⟨Nat.le_of_ble_eq_true rfl, Nat.le_of_ble_eq_true rfl⟩) ⟨cPx_blind, va_recv (q := (RX10, TX10, 19)) hK hPc (ci := 10) (q0 := 0) rfl rfl, cPx_pre hPc hK hDc hNw hY hS hFc⟩ rfl rfl hl.1 rfl (lv_room (Nat.le_of_ble_eq_true rfl)) (dt_of tkL_book_k0 4 rfl) ⟨Nat.le_of_ble_eq_true rfl, Nat.le_of_ble_eq_true rfl⟩) hS (fun q _ h => hFc q h) hFc (fun q _ h => hFc q h) (fun en ce qx9 u t H1 locs ht hvm hpx hB hz1 hk1 hS hc9 hv9 hcl9 => ?_) (fun r12 u t H1 locs ht hvm hw hB hz1 hk1 hS => ?_)
  · obtain ⟨x1, x2, x3, x4, x5, x6, x7, x8, f9, q10, q11⟩ := u
    obtain ⟨hw, hP1, hK1, hD1⟩ := hB
    rw [ht] at hP1
    obtain ⟨hP, hD⟩ := va_joinN (wr := [(a2, .inl (cyJ, n2, .inr (.inl f2)))]) (w1 := (wd00_44 a0 a0_tape a0_ground z0_spareGround z0_rule z0_spareRule q10 q11 z0_steps z0_now z0_trial z0_past z0_images z0_round z0_seating z0_fitting z0_imagesKept z0_refusedSteps z0_callsNoSuch x1 a0_tape a0_tape_bytes x2 x3 x4 x5 x6 x7 a0_ground z0_ground_formX z0_ground_formY z0_ground_foxX z0_ground_foxY z0_ground_seat z0_ground_strength z0_ground_debts z0_ground_near v0_ground_forms z0_ground_hares z0_ground_foxes z0_ground_safe a0_spareLines a0_spareLines_seen x8 a0_spareLines_seen cyI f9 a0_tape_bytes cyB f0_tape_bytes)) (wn := (wd00_50 a0 a0_tape a0_ground z0_spareGround z0_rule z0_spareRule q10 q11 z0_steps z0_now z0_trial z0_past z0_images z0_round z0_seating z0_fitting z0_imagesKept z0_refusedSteps z0_callsNoSuch x1 a0_tape a0_tape_bytes x2 x3 x4 x5 x6 x7 a0_ground z0_ground_formX z0_ground_formY z0_ground_foxX z0_ground_foxY z0_ground_seat z0_ground_strength z0_ground_debts z0_ground_near v0_ground_forms z0_ground_hares z0_ground_foxes z0_ground_safe a0_spareLines a0_spareLines_seen x8 a0_spareLines_seen cyI f9 a0_tape_bytes cyB f0_tape_bytes a2 cyJ n2 f2)) hP hD [0, 1, 2, 3, 4, 5] [6] [1, 2, 3, 4, 5, 6, 0] hCc rfl (by decide +kernel) (by decide +kernel) (by decide +kernel) rfl hk1 hFc hP1 hD1
    generalize H1 = H at hP hS hc9 ⊢
    obtain ⟨rfl, hw⟩ := hw
    refine vx_catch (own := RL) (name := "java/lang/IllegalArgumentException") hown [] ⟨0, 9, 12, 13⟩ [] (hTb.trans rfl) (fun z hz => nomatch hz) (by decide) (by decide) (hts _ uw_L_book_ct13) (va_Nw.use rfl (hY.2.2.2.1.2 _ (List.mem_of_getElem? (i := 0) rfl))) hc9 hv9 hcl9 ?_
    refine lv_astore_n (lv' := [(3, .ref qx9), (0, .ref a0), (1, .int p1), (2, .ref a2)]) hx hb (dt_of tkL_book_k0 8 rfl) rfl hl (by decide) rfl (fun ls hl => ?_)
    refine lv_iconst (v := 1) hx hb (dt_of tkL_book_k0 9 rfl) (by decide) ?_
    exact (W.widen (k := 1) (n := 6) (Nat.le_of_ble_eq_true rfl) (Nat.le_of_ble_eq_true rfl) (W.iret (v := 1) hx hb hr (fun t ht hW => ⟨⟨1, (x1, x2, x3, x4, x5, x6, x7, x8, f9, q10, q11, f2), rfl, hw, by rw [ht]; exact hP, va_K.moved hW.alike hK, hD⟩, hS.F ht⟩) hS.2.2 (dt_of tkL_book_k0 10 rfl)))
  obtain ⟨x1, x2, x3, x4, x5, x6, x7, x8, f9, q10, q11⟩ := u
  obtain ⟨hP1, hK1, hD1⟩ := hB
  rw [ht] at hP1
  obtain ⟨hP, hD⟩ := va_join (wr := [(a2, .inl (cyJ, n2, .inr (.inl f2)))]) (w1 := (wd00_44 a0 a0_tape a0_ground z0_spareGround z0_rule z0_spareRule q10 q11 z0_steps z0_now z0_trial z0_past z0_images z0_round z0_seating z0_fitting z0_imagesKept z0_refusedSteps z0_callsNoSuch x1 a0_tape a0_tape_bytes x2 x3 x4 x5 x6 x7 a0_ground z0_ground_formX z0_ground_formY z0_ground_foxX z0_ground_foxY z0_ground_seat z0_ground_strength z0_ground_debts z0_ground_near v0_ground_forms z0_ground_hares z0_ground_foxes z0_ground_safe a0_spareLines a0_spareLines_seen x8 a0_spareLines_seen cyI f9 a0_tape_bytes cyB f0_tape_bytes)) hP hD [0, 1, 2, 3, 4, 5] [6] rfl rfl (by decide) (by decide) hk1 hFc hP1 hD1
  have hP : va_P (dC, dI) vwCl (wd00_50 a0 a0_tape a0_ground z0_spareGround z0_rule z0_spareRule q10 q11 z0_steps z0_now z0_trial z0_past z0_images z0_round z0_seating z0_fitting z0_imagesKept z0_refusedSteps z0_callsNoSuch x1 a0_tape a0_tape_bytes x2 x3 x4 x5 x6 x7 a0_ground z0_ground_formX z0_ground_formY z0_ground_foxX z0_ground_foxY z0_ground_seat z0_ground_strength z0_ground_debts z0_ground_near v0_ground_forms z0_ground_hares z0_ground_foxes z0_ground_safe a0_spareLines a0_spareLines_seen x8 a0_spareLines_seen cyI f9 a0_tape_bytes cyB f0_tape_bytes a2 cyJ n2 f2) H1 := hP.sub [1, 2, 3, 4, 5, 6, 0] rfl
  have hD : va_D A (wd00_50 a0 a0_tape a0_ground z0_spareGround z0_rule z0_spareRule q10 q11 z0_steps z0_now z0_trial z0_past z0_images z0_round z0_seating z0_fitting z0_imagesKept z0_refusedSteps z0_callsNoSuch x1 a0_tape a0_tape_bytes x2 x3 x4 x5 x6 x7 a0_ground z0_ground_formX z0_ground_formY z0_ground_foxX z0_ground_foxY z0_ground_seat z0_ground_strength z0_ground_debts z0_ground_near v0_ground_forms z0_ground_hares z0_ground_foxes z0_ground_safe a0_spareLines a0_spareLines_seen x8 a0_spareLines_seen cyI f9 a0_tape_bytes cyB f0_tape_bytes a2 cyJ n2 f2) := hD.sub [1, 2, 3, 4, 5, 6, 0] (by decide) rfl
  generalize H1 = H at hP hS ⊢
  refine lv_i2l (v := r12.toInt64) hx hb (dt_of tkL_book_k0 5 rfl) rfl ?_
  refine lv_topl (fun x13 ex13 => ?_)
  have hw := hw x13 ex13
  obtain ⟨hi9, hw⟩ := hw
  refine va_last hx hb hK hP hD hS 6 2 rfl rfl hi9 (dt_of tkL_book_k0 6 rfl) (fun H locs hP hD hS => ?_)
  obtain ⟨f14, ef14⟩ : ∃ y : Nat → Int64, y = vp_updL f2 (0 : Int32).toNatClampNeg x13 := ⟨_, rfl⟩
  have hw := hw f14 ef14
  have hP : va_P (dC, dI) vwCl (wd00_50 a0 a0_tape a0_ground z0_spareGround z0_rule z0_spareRule q10 q11 z0_steps z0_now z0_trial z0_past z0_images z0_round z0_seating z0_fitting z0_imagesKept z0_refusedSteps z0_callsNoSuch x1 a0_tape a0_tape_bytes x2 x3 x4 x5 x6 x7 a0_ground z0_ground_formX z0_ground_formY z0_ground_foxX z0_ground_foxY z0_ground_seat z0_ground_strength z0_ground_debts z0_ground_near v0_ground_forms z0_ground_hares z0_ground_foxes z0_ground_safe a0_spareLines a0_spareLines_seen x8 a0_spareLines_seen cyI f9 a0_tape_bytes cyB f0_tape_bytes a2 cyJ n2 f14) H := by rw [ef14]; exact hP
  have hD : va_D A (wd00_50 a0 a0_tape a0_ground z0_spareGround z0_rule z0_spareRule q10 q11 z0_steps z0_now z0_trial z0_past z0_images z0_round z0_seating z0_fitting z0_imagesKept z0_refusedSteps z0_callsNoSuch x1 a0_tape a0_tape_bytes x2 x3 x4 x5 x6 x7 a0_ground z0_ground_formX z0_ground_formY z0_ground_foxX z0_ground_foxY z0_ground_seat z0_ground_strength z0_ground_debts z0_ground_near v0_ground_forms z0_ground_hares z0_ground_foxes z0_ground_safe a0_spareLines a0_spareLines_seen x8 a0_spareLines_seen cyI f9 a0_tape_bytes cyB f0_tape_bytes a2 cyJ n2 f14) := by rw [ef14]; exact hD
  refine lv_goto (tgt := 15) hx hb (dt_of tkL_book_k0 7 rfl) (by decide) ?_
  refine lv_iconst (v := 0) hx hb (dt_of tkL_book_k0 11 rfl) (by decide) ?_
  exact (W.widen (k := 1) (n := 6) (Nat.le_of_ble_eq_true rfl) (Nat.le_of_ble_eq_true rfl) (W.iret (v := 0) hx hb hr (fun t ht hW => ⟨⟨0, (x1, x2, x3, x4, x5, x6, x7, x8, f9, q10, q11, f14), rfl, hw, by rw [ht]; exact hP, va_K.moved hW.alike hK, hD⟩, hS.F ht⟩) hS.2.2 (dt_of tkL_book_k0 12 rfl)))
theorem ub_X10_needHare_268 : ∀ w ∈ (ux_atS RX10 268 "java/util/NoSuchElementException" 13 ux_rx ["java/lang/RuntimeException", "java/lang/Exception"]).filter (fun w => !goodWord w), w ∈ xB := by decide +kernel
theorem ug_X10_needHare_268 : ∀ w ∈ Cond.classLink RX10 264 "java/util/NoSuchElementException" :: Cond.initialized "java/util/NoSuchElementException" :: ux_atS RX10 268 "java/util/NoSuchElementException" 13 ux_rx ["java/lang/RuntimeException", "java/lang/Exception"], vx_ot w = true := by decide +kernel
theorem uh_X10_needHare_268 : ∀ w ∈ (ux_atS RX10 268 "java/util/NoSuchElementException" 13 ux_rx ["java/lang/RuntimeException", "java/lang/Exception"]).filter goodWord, w ∈ wsX10_needHare := by decide +kernel
theorem ui_X10_needHare_X10 : ∀ w ∈ u_ws RX10 TX10 19, w ∈ wsX10_needHare := uiM mbX10_needHare euX10 (by decide +kernel)
theorem ui_X10_needHare_X2 : ∀ w ∈ u_ws RX2 TX2 12, w ∈ wsX10_needHare := uiM mbX10_needHare euX2 (by decide +kernel)
theorem uw_X10_needHare_cl264 : (.classLink RX10 264 "java/util/NoSuchElementException" : Cond) ∈ wsX10_needHare := mbX10_needHare 2690 (by decide +kernel)
theorem uw_X10_needHare_f141 : (.fieldLink RX10 141 "MarchHares$Down" "hares" "I" : Cond) ∈ wsX10_needHare := mbX10_needHare 644 (by decide +kernel)
theorem uw_X10_needHare_f19 : (.fieldLink RX10 19 "MarchHares" "ground" "LMarchHares$Down;" : Cond) ∈ wsX10_needHare := mbX10_needHare 20 (by decide +kernel)
theorem uw_X10_needHare_f261 : (.fieldLink RX10 261 "MarchHares" "callsNoSuch" "I" : Cond) ∈ wsX10_needHare := mbX10_needHare 2692 (by decide +kernel)
theorem uw_X10_needHare_ini264 : (.initialized "java/util/NoSuchElementException" : Cond) ∈ wsX10_needHare := mbX10_needHare 2691 (by decide +kernel)
set_option maxHeartbeats 4000000 in
set_option maxRecDepth 100000 in
theorem ck_X10_needHare (l : Launch) (dC : Nat → ClassId) (dI : Nat → Nat → Nat) (cyB cyI cyJ cyP : ClassId) (a0 a0_ground : Nat) (sz : Nat) (z0_tape : Value) (z0_spareGround : Value) (z0_rule : Value) (z0_spareRule : Value) (z0_lines : Value) (z0_spareLines : Value) (z0_steps : Value) (z0_now : Value) (z0_trial : Value) (z0_past : Value) (z0_images : Value) (z0_round : Value) (z0_seating : Value) (z0_fitting : Value) (z0_imagesKept : Value) (z0_refusedSteps : Value) (z0_callsIllegal : Value) (z0_ground_formX : Value) (z0_ground_formY : Value) (z0_ground_foxX : Value) (z0_ground_foxY : Value) (z0_ground_seat : Value) (z0_ground_strength : Value) (z0_ground_debts : Value) (z0_ground_near : Value) (z0_ground_forms : Value) (z0_ground_foxes : Value) (z0_ground_safe : Value) (v0_ground_hares : Int32) (v0_callsNoSuch : Int32) (p1 : Int32) {E : String → Int32 → Prop} {Q : Int32 → Prop} (hw : wq_X10_needHare v0_ground_hares v0_callsNoSuch p1 E Q) : vx_Met l yX10_needHare wsX10_needHare ({ frames := 6, cells := 1, slots := 6, locals := 120 }) (va_Pc [.ref a0, .int p1] (cPx l (dC, dI) (kT cyB cyI cyJ cyP) (wd00_51 a0 z0_tape a0_ground z0_spareGround z0_rule z0_spareRule z0_lines z0_spareLines z0_steps z0_now z0_trial z0_past z0_images z0_round z0_seating z0_fitting z0_imagesKept z0_refusedSteps v0_callsNoSuch z0_callsIllegal a0_ground z0_ground_formX z0_ground_formY z0_ground_foxX z0_ground_foxY z0_ground_seat z0_ground_strength z0_ground_debts z0_ground_near z0_ground_forms v0_ground_hares z0_ground_foxes z0_ground_safe) sz)) (va_Qv (fun (u : Int32) => Q u) (cB (dC, dI) (kT cyB cyI cyJ cyP) (va_A (wd00_51 a0 z0_tape a0_ground z0_spareGround z0_rule z0_spareRule z0_lines z0_spareLines z0_steps z0_now z0_trial z0_past z0_images z0_round z0_seating z0_fitting z0_imagesKept z0_refusedSteps v0_callsNoSuch z0_callsIllegal a0_ground z0_ground_formX z0_ground_formY z0_ground_foxX z0_ground_foxY z0_ground_seat z0_ground_strength z0_ground_debts z0_ground_near z0_ground_forms v0_ground_hares z0_ground_foxes z0_ground_safe) sz) (fun u : Int32 => ((wd00_51 a0 z0_tape a0_ground z0_spareGround z0_rule z0_spareRule z0_lines z0_spareLines z0_steps z0_now z0_trial z0_past z0_images z0_round z0_seating z0_fitting z0_imagesKept z0_refusedSteps u z0_callsIllegal a0_ground z0_ground_formX z0_ground_formY z0_ground_foxX z0_ground_foxY z0_ground_seat z0_ground_strength z0_ground_debts z0_ground_near z0_ground_forms v0_ground_hares z0_ground_foxes z0_ground_safe) : va_W))) (va_A (wd00_51 a0 z0_tape a0_ground z0_spareGround z0_rule z0_spareRule z0_lines z0_spareLines z0_steps z0_now z0_trial z0_past z0_images z0_round z0_seating z0_fitting z0_imagesKept z0_refusedSteps v0_callsNoSuch z0_callsIllegal a0_ground z0_ground_formX z0_ground_formY z0_ground_foxX z0_ground_foxY z0_ground_seat z0_ground_strength z0_ground_debts z0_ground_near z0_ground_forms v0_ground_hares z0_ground_foxes z0_ground_safe) sz)) (vx_X (fun _ => True) (fun (en : String) (u : Int32) (t : State) => E en u ∧ cB (dC, dI) (kT cyB cyI cyJ cyP) (va_A (wd00_51 a0 z0_tape a0_ground z0_spareGround z0_rule z0_spareRule z0_lines z0_spareLines z0_steps z0_now z0_trial z0_past z0_images z0_round z0_seating z0_fitting z0_imagesKept z0_refusedSteps v0_callsNoSuch z0_callsIllegal a0_ground z0_ground_formX z0_ground_formY z0_ground_foxX z0_ground_foxY z0_ground_seat z0_ground_strength z0_ground_debts z0_ground_near z0_ground_forms v0_ground_hares z0_ground_foxes z0_ground_safe) sz) (fun u : Int32 => ((wd00_51 a0 z0_tape a0_ground z0_spareGround z0_rule z0_spareRule z0_lines z0_spareLines z0_steps z0_now z0_trial z0_past z0_images z0_round z0_seating z0_fitting z0_imagesKept z0_refusedSteps u z0_callsIllegal a0_ground z0_ground_formX z0_ground_formY z0_ground_foxX z0_ground_foxY z0_ground_seat z0_ground_strength z0_ground_debts z0_ground_near z0_ground_forms v0_ground_hares z0_ground_foxes z0_ground_safe) : va_W)) u t) (va_A (wd00_51 a0 z0_tape a0_ground z0_spareGround z0_rule z0_spareRule z0_lines z0_spareLines z0_steps z0_now z0_trial z0_past z0_images z0_round z0_seating z0_fitting z0_imagesKept z0_refusedSteps v0_callsNoSuch z0_callsIllegal a0_ground z0_ground_formX z0_ground_formY z0_ground_foxX z0_ground_foxY z0_ground_seat z0_ground_strength z0_ground_debts z0_ground_near z0_ground_forms v0_ground_hares z0_ground_foxes z0_ground_safe) sz)) 1 6 (va_A (wd00_51 a0 z0_tape a0_ground z0_spareGround z0_rule z0_spareRule z0_lines z0_spareLines z0_steps z0_now z0_trial z0_past z0_images z0_round z0_seating z0_fitting z0_imagesKept z0_refusedSteps v0_callsNoSuch z0_callsIllegal a0_ground z0_ground_formX z0_ground_formY z0_ground_foxX z0_ground_foxY z0_ground_seat z0_ground_strength z0_ground_debts z0_ground_near z0_ground_forms v0_ground_hares z0_ground_foxes z0_ground_safe) sz) := by
  refine vx_ofW (cc := cX10_needHare) (maxL := 2) (ret := none) (by decide) rfl ?_
  intro p e s m args below meth c s₁ B hml hnt hv
  obtain ⟨rfl, hsz, hP, hK, hD0, hNw, hXl, hXu, hXn, hXt⟩ := hv
  have hx := B.exec
  have hb := B.bytes
  have hr := B.returns
  have hts := atoms_spec (ws := wsX10_needHare) B.pre
  have hown : s.vm.findClass RX10 = some m.cls := findClass_of_methodNamed B.named
  have hlocks := B.notSynchronized
  subst hsz
  have hD := hD0.self (sz := s.heap.size)
  generalize hAe : va_A (wd00_51 a0 z0_tape a0_ground z0_spareGround z0_rule z0_spareRule z0_lines z0_spareLines z0_steps z0_now z0_trial z0_past z0_images z0_round z0_seating z0_fitting z0_imagesKept z0_refusedSteps v0_callsNoSuch z0_callsIllegal a0_ground z0_ground_formX z0_ground_formY z0_ground_foxX z0_ground_foxY z0_ground_seat z0_ground_strength z0_ground_debts z0_ground_near z0_ground_forms v0_ground_hares z0_ground_foxes z0_ground_safe) s.heap.size = A at hD hXu hXn ⊢
  have hA : ∀ q : Nat, s.heap.size ≤ q → A q := fun q h => by rw [← hAe]; exact Or.inr h
  have hS : va_S A s.heap s.heap [] := va_S.rf
  have hP : va_P (dC, dI) vwCl (wd00_51 a0 z0_tape a0_ground z0_spareGround z0_rule z0_spareRule z0_lines z0_spareLines z0_steps z0_now z0_trial z0_past z0_images z0_round z0_seating z0_fitting z0_imagesKept z0_refusedSteps v0_callsNoSuch z0_callsIllegal a0_ground z0_ground_formX z0_ground_formY z0_ground_foxX z0_ground_foxY z0_ground_seat z0_ground_strength z0_ground_debts z0_ground_near z0_ground_forms v0_ground_hares z0_ground_foxes z0_ground_safe) s.heap := hP
  have hl := lv_entry ([.ref a0, .int p1]) (n := 2) (Nat.le_of_ble_eq_true rfl)
  rw [lg_entry_eq]
  generalize (lg_sl ([.ref a0, .int p1]) ++ List.replicate (2 - (lg_sl ([.ref a0, .int p1])).length) Slot.unset).toArray = ls at hl ⊢
  have hl : lv_has ls 2 [(0, .ref a0), (1, .int p1)] := hl
  have hY : cfY l s A := ⟨hXl, hXu, hXn, hXt⟩
  have hXs : cfX l s c A := ⟨hnt, hY⟩
  have C0 : cfx p s m _ meth c cX10_needHare none wsX10_needHare RX10 2 A (dC, dI) (kT cyB cyI cyJ cyP) ∧ cfX l s c A := ⟨⟨hx, hb, hr, hts, hown, hlocks, hml, hA, hK, hNw⟩, hXs⟩
  clear hAe
  obtain ⟨H, hH⟩ : ∃ H, H = s.heap := ⟨_, rfl⟩
  rw [← hH] at hP ⊢
  have hS : va_S A s.heap H [] := by rw [hH]; exact va_S.rf
  have hS := hS
  refine lv_iload_n hx hb (dt_of tkX10_needHare_k0 0 rfl) rfl (lv_at hl 1 rfl) ?_
  refine lv_iconst (v := 0) hx hb (dt_of tkX10_needHare_k0 1 rfl) (by decide) ?_
  refine lv_aload_n hx hb (dt_of tkX10_needHare_k0 2 rfl) rfl (lv_at hl 0 rfl) ?_
  refine va_get (D := (dC, dI)) (ci := 10) (v := .ref a0_ground) (C := RX10) (T := TX10) (N := 19) hx hb hts ui_X10_needHare_X10 hown hK hP 0 rfl rfl 1 (by decide) (hts _ uw_X10_needHare_f19) (fun _ h9 => h9) rfl (dt_of tkX10_needHare_k0 3 rfl) ?_
  refine va_get (D := (dC, dI)) (ci := 2) (v := .int v0_ground_hares) (C := RX2) (T := TX2) (N := 12) hx hb hts ui_X10_needHare_X2 hown hK hP 1 rfl rfl 9 (by decide) (hts _ uw_X10_needHare_f141) (fun _ h9 => h9) rfl (dt_of tkX10_needHare_k0 4 rfl) ?_
  refine lv_iconst (v := 1) hx hb (dt_of tkX10_needHare_k0 5 rfl) (by decide) ?_
  refine lv_isub hx hb (dt_of tkX10_needHare_k0 6 rfl) ?_
  obtain ⟨hCc, hPc, hDc, hFc⟩ := va_pick (ws' := []) hP hD hS hA [] (by decide +kernel) rfl
  refine va_calli (va_runS (As := [.int p1, .int 0, .int (v0_ground_hares - 1)]) (rest := []) ⟨hx, hb, hml, hown, hts⟩ (ck_X10_within l dC dI cyB cyI cyJ cyP  H.size    p1 0 (v0_ground_hares - 1) hw) (va_cwS 3 hts gX10_needHare_X10_within rfl rfl rfl (by decide +kernel) ⟨Nat.le_of_ble_eq_true rfl, Nat.le_of_ble_eq_true rfl⟩) ⟨cPc_blind, cPc_pre hPc hK hDc hNw⟩ rfl rfl hl.1 rfl (lv_room (Nat.le_of_ble_eq_true rfl)) (dt_of tkX10_needHare_k0 7 rfl) ⟨Nat.le_of_ble_eq_true rfl, Nat.le_of_ble_eq_true rfl⟩) hS (fun q _ h => hFc q h) hFc (fun r1 u t H1 locs ht hvm hw hB hz1 hk1 hS => ?_)
  obtain ⟨hP1, hK1, hD1⟩ := hB
  rw [ht] at hP1
  obtain ⟨hP, hD⟩ := va_joinI (wr := (wd00_51 a0 z0_tape a0_ground z0_spareGround z0_rule z0_spareRule z0_lines z0_spareLines z0_steps z0_now z0_trial z0_past z0_images z0_round z0_seating z0_fitting z0_imagesKept z0_refusedSteps v0_callsNoSuch z0_callsIllegal a0_ground z0_ground_formX z0_ground_formY z0_ground_foxX z0_ground_foxY z0_ground_seat z0_ground_strength z0_ground_debts z0_ground_near z0_ground_forms v0_ground_hares z0_ground_foxes z0_ground_safe)) (w1 := []) (wn := (wd00_51 a0 z0_tape a0_ground z0_spareGround z0_rule z0_spareRule z0_lines z0_spareLines z0_steps z0_now z0_trial z0_past z0_images z0_round z0_seating z0_fitting z0_imagesKept z0_refusedSteps v0_callsNoSuch z0_callsIllegal a0_ground z0_ground_formX z0_ground_formY z0_ground_foxX z0_ground_foxY z0_ground_seat z0_ground_strength z0_ground_debts z0_ground_near z0_ground_forms v0_ground_hares z0_ground_foxes z0_ground_safe)) hP hD [] [0, 1] hCc rfl (by decide +kernel) (by decide +kernel) rfl hk1 hFc hP1 hD1
  generalize H1 = H at hP hS ⊢
  refine lv_if_ne (tgt := 38) hx hb (dt_of tkX10_needHare_k0 8 rfl) (by decide) (fun c2 => ?_) (fun c2 => ?_)
  · have hw := hw.1 c2
    exact vx_ret (W.widen (k := 1) (n := 6) (Nat.le_of_ble_eq_true rfl) (Nat.le_of_ble_eq_true rfl) (W.vret hx hb hr (fun t ht hW => ⟨⟨(v0_callsNoSuch), rfl, hw, by rw [ht]; exact hP, va_K.moved hW.alike hK, hD⟩, hS.F ht⟩) hS.2.2 (dt_of tkX10_needHare_k30 4 rfl)))
  · have hw := hw.2 c2
    refine lv_aload_n hx hb (dt_of tkX10_needHare_k0 9 rfl) rfl (lv_at hl 0 rfl) ?_
    refine lv_dup hx hb (dt_of tkX10_needHare_k0 10 rfl) rfl ?_
    refine va_get (D := (dC, dI)) (ci := 10) (v := .int v0_callsNoSuch) (C := RX10) (T := TX10) (N := 19) hx hb hts ui_X10_needHare_X10 hown hK hP 0 rfl rfl 17 (by decide) (hts _ uw_X10_needHare_f261) (fun _ h9 => h9) rfl (dt_of tkX10_needHare_k0 11 rfl) ?_
    refine lv_iconst (v := 1) hx hb (dt_of tkX10_needHare_k0 12 rfl) (by decide) ?_
    refine lv_iadd hx hb (dt_of tkX10_needHare_k0 13 rfl) ?_
    refine lv_topi (fun x3 ex3 => ?_)
    have hw := hw x3 ex3
    refine va_put (D := (dC, dI)) (ci := 10) (v := .int x3) (ty := .int) (C := RX10) (T := TX10) (N := 19) hx hb hts ui_X10_needHare_X10 tyX10 tyX10_ok nmX10 hown hK hP hD hS 0 rfl rfl 17 (by decide) (hts _ uw_X10_needHare_f261) (fun _ h9 => h9) rfl (by decide +kernel) rfl rfl (Nat.le_of_ble_eq_true rfl) (dt_of tkX10_needHare_k0 14 rfl) (fun H locs hP hD hS => ?_)
    have hP : va_P (dC, dI) vwCl (wd00_51 a0 z0_tape a0_ground z0_spareGround z0_rule z0_spareRule z0_lines z0_spareLines z0_steps z0_now z0_trial z0_past z0_images z0_round z0_seating z0_fitting z0_imagesKept z0_refusedSteps x3 z0_callsIllegal a0_ground z0_ground_formX z0_ground_formY z0_ground_foxX z0_ground_foxY z0_ground_seat z0_ground_strength z0_ground_debts z0_ground_near z0_ground_forms v0_ground_hares z0_ground_foxes z0_ground_safe) H := hP
    have hD : va_D A (wd00_51 a0 z0_tape a0_ground z0_spareGround z0_rule z0_spareRule z0_lines z0_spareLines z0_steps z0_now z0_trial z0_past z0_images z0_round z0_seating z0_fitting z0_imagesKept z0_refusedSteps x3 z0_callsIllegal a0_ground z0_ground_formX z0_ground_formY z0_ground_foxX z0_ground_foxY z0_ground_seat z0_ground_strength z0_ground_debts z0_ground_near z0_ground_forms v0_ground_hares z0_ground_foxes z0_ground_safe) := hD
    obtain ⟨sa9, hsa9⟩ := hY.2.2.2.2.1 _ (List.mem_of_getElem? (i := 1) rfl)
    exact ux_throwSW hx hb hY.1 (own := RX10) (cls := "java/util/NoSuchElementException") (names := ["java/lang/RuntimeException", "java/lang/Exception"]) (ik := 264) (is := 403) (ic := 268) (rx := ux_rx) (by decide +kernel) (by decide +kernel) (by decide +kernel) (by decide +kernel) hown (by decide +kernel) (by decide +kernel) (hts _ uw_X10_needHare_cl264) (hts _ uw_X10_needHare_ini264) hsa9 (vx_hat (fun w hw9 => hts w (uh_X10_needHare_268 w hw9)) ub_X10_needHare_268 (xB_use hY.2.2.2.1)) ug_X10_needHare_268 hY.2.1 hY.2.2.1 hS (by rw [hml]; exact hl.1) (dt_of tkX10_needHare_k0 15 rfl) (dt_of tkX10_needHare_k30 0 rfl) (dt_of tkX10_needHare_k30 1 rfl) (dt_of tkX10_needHare_k30 2 rfl) (dt_of tkX10_needHare_k30 3 rfl) (fun x hx9 => (hXs.1 x hx9).elim) (Nat.le_of_ble_eq_true rfl) (Nat.le_of_ble_eq_true rfl) (Nat.le_of_ble_eq_true rfl) (Nat.le_of_ble_eq_true rfl) hlocks (fun t hal hsz9 hq9 => ⟨(x3), trivial, ⟨hw, hP.kept (fun k q hk9 => hq9 _ ((hP k q hk9).lt)), va_K.moved hal hK, hD⟩, xt_frame hS hsz9 hq9⟩) hS.2.2 (Nat.le_of_ble_eq_true rfl) (Nat.le_of_ble_eq_true rfl)
theorem ui_X1_freeOnes_X1 : ∀ w ∈ u_ws RX1 TX1 4, w ∈ wsX1_freeOnes := uiM mbX1_freeOnes euX1 (by decide +kernel)
theorem ui_X1_freeOnes_X2 : ∀ w ∈ u_ws RX2 TX2 12, w ∈ wsX1_freeOnes := uiM mbX1_freeOnes euX2 (by decide +kernel)
theorem uw_X1_freeOnes_f13 : (.fieldLink RX1 13 "MarchHares$Days" "row" "[I" : Cond) ∈ wsX1_freeOnes := mbX1_freeOnes 276 (by decide +kernel)
theorem uw_X1_freeOnes_f24 : (.fieldLink RX1 24 "MarchHares$Days" "down" "LMarchHares$Down;" : Cond) ∈ wsX1_freeOnes := mbX1_freeOnes 322 (by decide +kernel)
theorem uw_X1_freeOnes_f32 : (.fieldLink RX1 32 "MarchHares$Down" "hares" "I" : Cond) ∈ wsX1_freeOnes := mbX1_freeOnes 324 (by decide +kernel)
set_option maxHeartbeats 4000000 in
set_option maxRecDepth 100000 in
theorem ck_X1_freeOnes (l : Launch) (dC : Nat → ClassId) (dI : Nat → Nat → Nat) (cyB cyI cyJ cyP : ClassId) (a0 a0_down a0_row : Nat) (sz : Nat) (z0_owedEach : Value) (z0_law : Value) (z0_down_formX : Value) (z0_down_formY : Value) (z0_down_foxX : Value) (z0_down_foxY : Value) (z0_down_seat : Value) (z0_down_strength : Value) (z0_down_debts : Value) (z0_down_near : Value) (z0_down_forms : Value) (z0_down_foxes : Value) (z0_down_safe : Value) (v0_down_hares : Int32) (f0_row : Nat → Int32)   {Q : Int32 → Prop} (hw : wq_X1_freeOnes v0_down_hares f0_row   Q) : Met l yX1_freeOnes wsX1_freeOnes ({ frames := 0, cells := 0, slots := 0, locals := 0 }) (va_Pc [.ref a0] (cPc (dC, dI) (kT cyB cyI cyJ cyP) (wd00_9 a0 a0_row z0_owedEach a0_down z0_law a0_down z0_down_formX z0_down_formY z0_down_foxX z0_down_foxY z0_down_seat z0_down_strength z0_down_debts z0_down_near z0_down_forms v0_down_hares z0_down_foxes z0_down_safe a0_row cyI f0_row) sz)) (va_Qi (fun (r : Int32) (_ : Unit) => Q r ) (cB (dC, dI) (kT cyB cyI cyJ cyP) (va_A (wd00_9 a0 a0_row z0_owedEach a0_down z0_law a0_down z0_down_formX z0_down_formY z0_down_foxX z0_down_foxY z0_down_seat z0_down_strength z0_down_debts z0_down_near z0_down_forms v0_down_hares z0_down_foxes z0_down_safe a0_row cyI f0_row) sz) (fun u : Unit => ((wd00_9 a0 a0_row z0_owedEach a0_down z0_law a0_down z0_down_formX z0_down_formY z0_down_foxX z0_down_foxY z0_down_seat z0_down_strength z0_down_debts z0_down_near z0_down_forms v0_down_hares z0_down_foxes z0_down_safe a0_row cyI f0_row) : va_W))) (va_A (wd00_9 a0 a0_row z0_owedEach a0_down z0_law a0_down z0_down_formX z0_down_formY z0_down_foxX z0_down_foxY z0_down_seat z0_down_strength z0_down_debts z0_down_near z0_down_forms v0_down_hares z0_down_foxes z0_down_safe a0_row cyI f0_row) sz)) 0 0 (va_A (wd00_9 a0 a0_row z0_owedEach a0_down z0_law a0_down z0_down_formX z0_down_formY z0_down_foxX z0_down_foxY z0_down_seat z0_down_strength z0_down_debts z0_down_near z0_down_forms v0_down_hares z0_down_foxes z0_down_safe a0_row cyI f0_row) sz) := by
  refine Met.ofW (cc := cX1_freeOnes) (maxL := 1) (ret := (some .int)) (by decide) rfl ?_
  intro p e s m args below meth c s₁ B hml hv
  obtain ⟨rfl, hsz, hP, hK, hD0, hNw⟩ := hv
  have hx := B.exec
  have hb := B.bytes
  have hr := B.returns
  have hts := atoms_spec (ws := wsX1_freeOnes) B.pre
  have hown : s.vm.findClass RX1 = some m.cls := findClass_of_methodNamed B.named
  have hlocks := B.notSynchronized
  subst hsz
  have hD := hD0.self (sz := s.heap.size)
  generalize hAe : va_A (wd00_9 a0 a0_row z0_owedEach a0_down z0_law a0_down z0_down_formX z0_down_formY z0_down_foxX z0_down_foxY z0_down_seat z0_down_strength z0_down_debts z0_down_near z0_down_forms v0_down_hares z0_down_foxes z0_down_safe a0_row cyI f0_row) s.heap.size = A at hD ⊢
  have hA : ∀ q : Nat, s.heap.size ≤ q → A q := fun q h => by rw [← hAe]; exact Or.inr h
  have hS : va_S A s.heap s.heap [] := va_S.rf
  have hP : va_P (dC, dI) vwCl (wd00_9 a0 a0_row z0_owedEach a0_down z0_law a0_down z0_down_formX z0_down_formY z0_down_foxX z0_down_foxY z0_down_seat z0_down_strength z0_down_debts z0_down_near z0_down_forms v0_down_hares z0_down_foxes z0_down_safe a0_row cyI f0_row) s.heap := hP
  have hl := lv_entry ([.ref a0]) (n := 1) (Nat.le_of_ble_eq_true rfl)
  rw [lg_entry_eq]
  generalize (lg_sl ([.ref a0]) ++ List.replicate (1 - (lg_sl ([.ref a0])).length) Slot.unset).toArray = ls at hl ⊢
  have hl : lv_has ls 1 [(0, .ref a0)] := hl
  have C0 : cfx p s m _ meth c cX1_freeOnes (some .int) wsX1_freeOnes RX1 1 A (dC, dI) (kT cyB cyI cyJ cyP) := ⟨hx, hb, hr, hts, hown, hlocks, hml, hA, hK, hNw⟩
  clear hAe
  obtain ⟨H, hH⟩ : ∃ H, H = s.heap := ⟨_, rfl⟩
  rw [← hH] at hP ⊢
  have hS : va_S A s.heap H [] := by rw [hH]; exact va_S.rf
  have hS := hS
  refine lv_iconst (v := 1) hx hb (dt_of tkX1_freeOnes_k0 0 rfl) (by decide) ?_
  refine lv_aload_n hx hb (dt_of tkX1_freeOnes_k0 1 rfl) rfl (lv_at hl 0 rfl) ?_
  refine va_get (D := (dC, dI)) (ci := 1) (v := .ref a0_down) (C := RX1) (T := TX1) (N := 4) hx hb hts ui_X1_freeOnes_X1 hown hK hP 0 rfl rfl 2 (by decide) (hts _ uw_X1_freeOnes_f24) (fun _ h9 => h9) rfl (dt_of tkX1_freeOnes_k0 2 rfl) ?_
  refine va_get (D := (dC, dI)) (ci := 2) (v := .int v0_down_hares) (C := RX2) (T := TX2) (N := 12) hx hb hts ui_X1_freeOnes_X2 hown hK hP 1 rfl rfl 9 (by decide) (hts _ uw_X1_freeOnes_f32) (fun _ h9 => h9) rfl (dt_of tkX1_freeOnes_k0 3 rfl) ?_
  refine lv_ishl hx hb (dt_of tkX1_freeOnes_k0 4 rfl) ?_
  refine lv_iconst (v := 1) hx hb (dt_of tkX1_freeOnes_k0 5 rfl) (by decide) ?_
  refine lv_isub hx hb (dt_of tkX1_freeOnes_k0 6 rfl) ?_
  refine lv_aload_n hx hb (dt_of tkX1_freeOnes_k0 7 rfl) rfl (lv_at hl 0 rfl) ?_
  refine va_get (D := (dC, dI)) (ci := 1) (v := .ref a0_row) (C := RX1) (T := TX1) (N := 4) hx hb hts ui_X1_freeOnes_X1 hown hK hP 0 rfl rfl 0 (by decide) (hts _ uw_X1_freeOnes_f13) (fun _ h9 => h9) rfl (dt_of tkX1_freeOnes_k0 8 rfl) ?_
  refine lv_iconst (v := 2) hx hb (dt_of tkX1_freeOnes_k0 9 rfl) (by decide) ?_
  refine va_iald hx hb hK hP 2 1 rfl rfl (vin (by decide)) (dt_of tkX1_freeOnes_k0 10 rfl) ?_
  refine lv_topi (fun x1 ex1 => ?_)
  have hw := hw x1 ex1
  refine lv_iconst (v := (-1)) hx hb (dt_of tkX1_freeOnes_k0 11 rfl) (by decide) ?_
  refine lv_ixor hx hb (dt_of tkX1_freeOnes_k0 12 rfl) ?_
  refine lv_iand hx hb (dt_of tkX1_freeOnes_k0 13 rfl) ?_
  refine lv_topi (fun x2 ex2 => ?_)
  have hw := hw x2 ex2
  exact ((W.iret (v := x2) hx hb hr (fun t ht hW => ⟨⟨x2, (), rfl, hw, by rw [ht]; exact hP, va_K.moved hW.alike hK, hD⟩, hS.F ht⟩) hS.2.2 (dt_of tkX1_freeOnes_k0 14 rfl)))
theorem ui_X1_strong_X1 : ∀ w ∈ u_ws RX1 TX1 4, w ∈ wsX1_strong := uiM mbX1_strong euX1 (by decide +kernel)
theorem uw_X1_strong_f13 : (.fieldLink RX1 13 "MarchHares$Days" "row" "[I" : Cond) ∈ wsX1_strong := mbX1_strong 276 (by decide +kernel)
set_option maxHeartbeats 4000000 in
set_option maxRecDepth 100000 in
theorem ck_X1_strong (l : Launch) (dC : Nat → ClassId) (dI : Nat → Nat → Nat) (cyB cyI cyJ cyP : ClassId) (a0 a0_row : Nat) (sz : Nat) (z0_owedEach : Value) (z0_down : Value) (z0_law : Value) (f0_row : Nat → Int32)  (p1 : Int32) {Q : Int32 → Prop} (hw : wq_X1_strong f0_row  p1 Q) : Met l yX1_strong wsX1_strong ({ frames := 0, cells := 0, slots := 0, locals := 0 }) (va_Pc [.ref a0, .int p1] (cPc (dC, dI) (kT cyB cyI cyJ cyP) (wd00_4 a0 a0_row z0_owedEach z0_down z0_law a0_row cyI f0_row) sz)) (va_Qi (fun (r : Int32) (_ : Unit) => Q r ) (cB (dC, dI) (kT cyB cyI cyJ cyP) (va_A (wd00_4 a0 a0_row z0_owedEach z0_down z0_law a0_row cyI f0_row) sz) (fun u : Unit => ((wd00_4 a0 a0_row z0_owedEach z0_down z0_law a0_row cyI f0_row) : va_W))) (va_A (wd00_4 a0 a0_row z0_owedEach z0_down z0_law a0_row cyI f0_row) sz)) 0 0 (va_A (wd00_4 a0 a0_row z0_owedEach z0_down z0_law a0_row cyI f0_row) sz) := by
  refine Met.ofW (cc := cX1_strong) (maxL := 2) (ret := (some .int)) (by decide) rfl ?_
  intro p e s m args below meth c s₁ B hml hv
  obtain ⟨rfl, hsz, hP, hK, hD0, hNw⟩ := hv
  have hx := B.exec
  have hb := B.bytes
  have hr := B.returns
  have hts := atoms_spec (ws := wsX1_strong) B.pre
  have hown : s.vm.findClass RX1 = some m.cls := findClass_of_methodNamed B.named
  have hlocks := B.notSynchronized
  subst hsz
  have hD := hD0.self (sz := s.heap.size)
  generalize hAe : va_A (wd00_4 a0 a0_row z0_owedEach z0_down z0_law a0_row cyI f0_row) s.heap.size = A at hD ⊢
  have hA : ∀ q : Nat, s.heap.size ≤ q → A q := fun q h => by rw [← hAe]; exact Or.inr h
  have hS : va_S A s.heap s.heap [] := va_S.rf
  have hP : va_P (dC, dI) vwCl (wd00_4 a0 a0_row z0_owedEach z0_down z0_law a0_row cyI f0_row) s.heap := hP
  have hl := lv_entry ([.ref a0, .int p1]) (n := 2) (Nat.le_of_ble_eq_true rfl)
  rw [lg_entry_eq]
  generalize (lg_sl ([.ref a0, .int p1]) ++ List.replicate (2 - (lg_sl ([.ref a0, .int p1])).length) Slot.unset).toArray = ls at hl ⊢
  have hl : lv_has ls 2 [(0, .ref a0), (1, .int p1)] := hl
  have C0 : cfx p s m _ meth c cX1_strong (some .int) wsX1_strong RX1 2 A (dC, dI) (kT cyB cyI cyJ cyP) := ⟨hx, hb, hr, hts, hown, hlocks, hml, hA, hK, hNw⟩
  clear hAe
  obtain ⟨H, hH⟩ : ∃ H, H = s.heap := ⟨_, rfl⟩
  rw [← hH] at hP ⊢
  have hS : va_S A s.heap H [] := by rw [hH]; exact va_S.rf
  have hS := hS
  refine lv_aload_n hx hb (dt_of tkX1_strong_k0 0 rfl) rfl (lv_at hl 0 rfl) ?_
  refine va_get (D := (dC, dI)) (ci := 1) (v := .ref a0_row) (C := RX1) (T := TX1) (N := 4) hx hb hts ui_X1_strong_X1 hown hK hP 0 rfl rfl 0 (by decide) (hts _ uw_X1_strong_f13) (fun _ h9 => h9) rfl (dt_of tkX1_strong_k0 1 rfl) ?_
  refine lv_bipush (v := 10) hx hb (dt_of tkX1_strong_k0 2 rfl) (by decide) ?_
  refine lv_iload_n hx hb (dt_of tkX1_strong_k0 3 rfl) rfl (lv_at hl 1 rfl) ?_
  refine lv_iadd hx hb (dt_of tkX1_strong_k0 4 rfl) ?_
  refine lv_topi (fun x1 ex1 => ?_)
  have hw := hw x1 ex1
  obtain ⟨hi9, hw⟩ := hw
  refine va_iald hx hb hK hP 1 1 rfl rfl hi9 (dt_of tkX1_strong_k0 5 rfl) ?_
  refine lv_topi (fun x2 ex2 => ?_)
  have hw := hw x2 ex2
  exact ((W.iret (v := x2) hx hb hr (fun t ht hW => ⟨⟨x2, (), rfl, hw, by rw [ht]; exact hP, va_K.moved hW.alike hK, hD⟩, hS.F ht⟩) hS.2.2 (dt_of tkX1_strong_k0 6 rfl)))
theorem uw_X10_ordersWon_r0_inim : (.initialized "java/lang/Math" : Cond) ∈ wsX10_ordersWon := mbX10_ordersWon 651 (by decide +kernel)
theorem uw_X10_ordersWon_r0_m389 : (.methodLink RX10 389 Lib.Math.max.name : Cond) ∈ wsX10_ordersWon := mbX10_ordersWon 3404 (by decide +kernel)
theorem uw_X10_ordersWon_r0_mcmax : (.code Lib.Math.max.name Lib.Math.max.code 2 (some .int) : Cond) ∈ wsX10_ordersWon := mbX10_ordersWon 1931 (by decide +kernel)
theorem uw_X10_ordersWon_r0_msmax : (.static Lib.Math.max.name : Cond) ∈ wsX10_ordersWon := mbX10_ordersWon 1930 (by decide +kernel)
set_option maxHeartbeats 4000000 in
set_option maxRecDepth 100000 in
theorem kb_X10_ordersWon_r0_85 {p : Program} {l : Launch} {e : Env} {s : State} {m : MethodId} {args : Array Value} {below : List Frame} {meth : Method} {c : Code} {A : Nat → Prop} (dC : Nat → ClassId) (dI : Nat → Nat → Nat) (cyB cyI cyJ cyP : ClassId) (a0 a0_row : Nat) (z0_owedEach : Value) (z0_down : Value) (z0_law : Value) (f0_row : Nat → Int32) (Q : Int32 → Prop) (K22 : Int32 → Int32 → Int32 → Int32 → Int32 → Int32 → Prop) (hK22 : ∀ (H : Heap) (locs : List Loc) (ls : Array Slot) (l1 : Int32) (l2 : Int32) (l3 : Int32) (l4 : Int32) (l5 : Int32) (l6 : Int32), va_P (dC, dI) vwCl (wd00_4 a0 a0_row z0_owedEach z0_down z0_law a0_row cyI f0_row) H → va_D A (wd00_4 a0 a0_row z0_owedEach z0_down z0_law a0_row cyI f0_row) → va_S A s.heap H locs → lv_has ls 11 [(0, .ref a0), (1, .int l1), (2, .int l2), (3, .int l3), (4, .int l4), (5, .int l5), (6, .int l6)] → K22 l1 l2 l3 l4 l5 l6 → W p l e (headSpec wsX10_ordersWon ({ frames := 1, cells := 0, slots := 0, locals := 32 })).room s m args below meth c H locs 0 0 (MQ below (va_Qi (fun (r : Int32) (_ : Unit) => Q r ) (cB (dC, dI) (kT cyB cyI cyJ cyP) A (fun u : Unit => ((wd00_4 a0 a0_row z0_owedEach z0_down z0_law a0_row cyI f0_row) : va_W))) A) args s 0 0 A) (F0 m 22 ls [])) (C0 : cfx p s m args meth c cX10_ordersWon (some .int) wsX10_ordersWon RX10 11 A (dC, dI) (kT cyB cyI cyJ cyP)) : ∀ (H : Heap) (locs : List Loc) (ls : Array Slot) (l1 : Int32) (l2 : Int32) (l3 : Int32) (l4 : Int32) (l5 : Int32) (l6 : Int32) (l9 : Int32) (s0 : Int32) (s1 : Int32), va_P (dC, dI) vwCl (wd00_4 a0 a0_row z0_owedEach z0_down z0_law a0_row cyI f0_row) H → va_D A (wd00_4 a0 a0_row z0_owedEach z0_down z0_law a0_row cyI f0_row) → va_S A s.heap H locs → lv_has ls 11 [(0, .ref a0), (1, .int l1), (2, .int l2), (3, .int l3), (4, .int l4), (5, .int l5), (6, .int l6), (9, .int l9)] → wb_X10_ordersWon_r0_85 f0_row Q K22 l1 l2 l3 l4 l5 l6 l9 s0 s1 → W p l e (headSpec wsX10_ordersWon ({ frames := 1, cells := 0, slots := 0, locals := 32 })).room s m args below meth c H locs 0 0 (MQ below (va_Qi (fun (r : Int32) (_ : Unit) => Q r ) (cB (dC, dI) (kT cyB cyI cyJ cyP) A (fun u : Unit => ((wd00_4 a0 a0_row z0_owedEach z0_down z0_law a0_row cyI f0_row) : va_W))) A) args s 0 0 A) (F0 m 85 ls [.int s1, .int s0]) := by
  obtain ⟨hx, hb, hr, hts, hown, hlocks, hml, hA, hK, hNw⟩ := id C0
  intro H locs ls l1 l2 l3 l4 l5 l6 l9 s0 s1 hP hD hS hl hw
  refine lv_iconst (v := 1) hx hb (dt_of tkX10_ordersWon_k62 11 rfl) (by decide) ?_
  refine lv_isub hx hb (dt_of tkX10_ordersWon_k62 12 rfl) ?_
  refine va_mmax hx hb (by rw [hml]; exact hl.1.symm) hown (hts _ uw_X10_ordersWon_r0_m389) (hts _ uw_X10_ordersWon_r0_msmax) (hts _ uw_X10_ordersWon_r0_inim) (hts _ uw_X10_ordersWon_r0_mcmax) (Nat.le_of_ble_eq_true rfl) (Nat.le_of_ble_eq_true rfl) (Nat.le_of_ble_eq_true rfl) (Nat.le_of_ble_eq_true rfl) (dt_of tkX10_ordersWon_k62 13 rfl) ?_
  refine lv_topi (fun x11 ex11 => ?_)
  have hw := hw x11 ex11
  refine lv_istore (lv' := [(10, .int x11), (0, .ref a0), (1, .int l1), (2, .int l2), (3, .int l3), (4, .int l4), (5, .int l5), (6, .int l6), (9, .int l9)]) hx hb (dt_of tkX10_ordersWon_k62 14 rfl) hl (by decide) rfl (fun ls hl => ?_)
  refine lv_iload hx hb (dt_of tkX10_ordersWon_k62 15 rfl) (lv_at hl 6 rfl) ?_
  refine lv_aload_n hx hb (dt_of tkX10_ordersWon_k94 0 rfl) rfl (lv_at hl 1 rfl) ?_
  refine lv_iload_n hx hb (dt_of tkX10_ordersWon_k94 1 rfl) rfl (lv_at hl 2 rfl) ?_
  refine lv_iload hx hb (dt_of tkX10_ordersWon_k94 2 rfl) (lv_at hl 8 rfl) ?_
  refine lv_iload hx hb (dt_of tkX10_ordersWon_k94 3 rfl) (lv_at hl 0 rfl) ?_
  refine lv_iload hx hb (dt_of tkX10_ordersWon_k94 4 rfl) (lv_at hl 5 rfl) ?_
  refine lv_iconst (v := 1) hx hb (dt_of tkX10_ordersWon_k94 5 rfl) (by decide) ?_
  refine lv_iload hx hb (dt_of tkX10_ordersWon_k94 6 rfl) (lv_at hl 7 rfl) ?_
  refine lv_ishl hx hb (dt_of tkX10_ordersWon_k94 7 rfl) ?_
  refine lv_ixor hx hb (dt_of tkX10_ordersWon_k94 8 rfl) ?_
  exact False.elim hw
set_option maxHeartbeats 4000000 in
set_option maxRecDepth 100000 in
theorem kb_X10_ordersWon_r0_71 {p : Program} {l : Launch} {e : Env} {s : State} {m : MethodId} {args : Array Value} {below : List Frame} {meth : Method} {c : Code} {A : Nat → Prop} (dC : Nat → ClassId) (dI : Nat → Nat → Nat) (cyB cyI cyJ cyP : ClassId) (a0 a0_row : Nat) (z0_owedEach : Value) (z0_down : Value) (z0_law : Value) (f0_row : Nat → Int32) (Q : Int32 → Prop) (K22 : Int32 → Int32 → Int32 → Int32 → Int32 → Int32 → Prop) (hK22 : ∀ (H : Heap) (locs : List Loc) (ls : Array Slot) (l1 : Int32) (l2 : Int32) (l3 : Int32) (l4 : Int32) (l5 : Int32) (l6 : Int32), va_P (dC, dI) vwCl (wd00_4 a0 a0_row z0_owedEach z0_down z0_law a0_row cyI f0_row) H → va_D A (wd00_4 a0 a0_row z0_owedEach z0_down z0_law a0_row cyI f0_row) → va_S A s.heap H locs → lv_has ls 11 [(0, .ref a0), (1, .int l1), (2, .int l2), (3, .int l3), (4, .int l4), (5, .int l5), (6, .int l6)] → K22 l1 l2 l3 l4 l5 l6 → W p l e (headSpec wsX10_ordersWon ({ frames := 1, cells := 0, slots := 0, locals := 32 })).room s m args below meth c H locs 0 0 (MQ below (va_Qi (fun (r : Int32) (_ : Unit) => Q r ) (cB (dC, dI) (kT cyB cyI cyJ cyP) A (fun u : Unit => ((wd00_4 a0 a0_row z0_owedEach z0_down z0_law a0_row cyI f0_row) : va_W))) A) args s 0 0 A) (F0 m 22 ls [])) (C0 : cfx p s m args meth c cX10_ordersWon (some .int) wsX10_ordersWon RX10 11 A (dC, dI) (kT cyB cyI cyJ cyP)) : ∀ (H : Heap) (locs : List Loc) (ls : Array Slot) (l1 : Int32) (l2 : Int32) (l3 : Int32) (l4 : Int32) (l5 : Int32) (l6 : Int32) (l7 : Int32) (l8 : Int32) (s0 : Int32), va_P (dC, dI) vwCl (wd00_4 a0 a0_row z0_owedEach z0_down z0_law a0_row cyI f0_row) H → va_D A (wd00_4 a0 a0_row z0_owedEach z0_down z0_law a0_row cyI f0_row) → va_S A s.heap H locs → lv_has ls 11 [(0, .ref a0), (1, .int l1), (2, .int l2), (3, .int l3), (4, .int l4), (5, .int l5), (6, .int l6), (7, .int l7), (8, .int l8)] → wb_X10_ordersWon_r0_71 f0_row Q K22 l1 l2 l3 l4 l5 l6 l7 l8 s0 → W p l e (headSpec wsX10_ordersWon ({ frames := 1, cells := 0, slots := 0, locals := 32 })).room s m args below meth c H locs 0 0 (MQ below (va_Qi (fun (r : Int32) (_ : Unit) => Q r ) (cB (dC, dI) (kT cyB cyI cyJ cyP) A (fun u : Unit => ((wd00_4 a0 a0_row z0_owedEach z0_down z0_law a0_row cyI f0_row) : va_W))) A) args s 0 0 A) (F0 m 71 ls [.int s0]) := by
  obtain ⟨hx, hb, hr, hts, hown, hlocks, hml, hA, hK, hNw⟩ := id C0
  intro H locs ls l1 l2 l3 l4 l5 l6 l7 l8 s0 hP hD hS hl hw
  refine lv_istore (lv' := [(9, .int s0), (0, .ref a0), (1, .int l1), (2, .int l2), (3, .int l3), (4, .int l4), (5, .int l5), (6, .int l6), (7, .int l7), (8, .int l8)]) hx hb (dt_of tkX10_ordersWon_k62 4 rfl) hl (by decide) rfl (fun ls hl => ?_)
  refine lv_iconst (v := 0) hx hb (dt_of tkX10_ordersWon_k62 5 rfl) (by decide) ?_
  refine lv_iload hx hb (dt_of tkX10_ordersWon_k62 6 rfl) (lv_at hl 9 rfl) ?_
  refine lv_if_eq (tgt := 83) hx hb (dt_of tkX10_ordersWon_k62 7 rfl) (by decide) (fun c10 => ?_) (fun c10 => ?_)
  · have hw := hw.1 c10
    refine lv_iload hx hb (dt_of tkX10_ordersWon_k62 10 rfl) (lv_at hl 8 rfl) ?_
    exact kb_X10_ordersWon_r0_85 dC dI cyB cyI cyJ cyP a0 a0_row z0_owedEach z0_down z0_law f0_row Q K22 hK22 C0 _ _ _ l1 l2 l3 l4 l5 l6 s0 0 l7 hP hD hS (lv_sub hl [1, 2, 3, 4, 5, 6, 7, 0] rfl) hw
  · have hw := hw.2 c10
    refine lv_iload_n hx hb (dt_of tkX10_ordersWon_k62 8 rfl) rfl (lv_at hl 4 rfl) ?_
    refine lv_goto (tgt := 85) hx hb (dt_of tkX10_ordersWon_k62 9 rfl) (by decide) ?_
    exact kb_X10_ordersWon_r0_85 dC dI cyB cyI cyJ cyP a0 a0_row z0_owedEach z0_down z0_law f0_row Q K22 hK22 C0 _ _ _ l1 l2 l3 l4 l5 l6 s0 0 l3 hP hD hS (lv_sub hl [1, 2, 3, 4, 5, 6, 7, 0] rfl) hw
set_option maxHeartbeats 4000000 in
set_option maxRecDepth 100000 in
theorem kb_X10_ordersWon_r0_58 {p : Program} {l : Launch} {e : Env} {s : State} {m : MethodId} {args : Array Value} {below : List Frame} {meth : Method} {c : Code} {A : Nat → Prop} (dC : Nat → ClassId) (dI : Nat → Nat → Nat) (cyB cyI cyJ cyP : ClassId) (a0 a0_row : Nat) (z0_owedEach : Value) (z0_down : Value) (z0_law : Value) (f0_row : Nat → Int32) (Q : Int32 → Prop) (K22 : Int32 → Int32 → Int32 → Int32 → Int32 → Int32 → Prop) (hK22 : ∀ (H : Heap) (locs : List Loc) (ls : Array Slot) (l1 : Int32) (l2 : Int32) (l3 : Int32) (l4 : Int32) (l5 : Int32) (l6 : Int32), va_P (dC, dI) vwCl (wd00_4 a0 a0_row z0_owedEach z0_down z0_law a0_row cyI f0_row) H → va_D A (wd00_4 a0 a0_row z0_owedEach z0_down z0_law a0_row cyI f0_row) → va_S A s.heap H locs → lv_has ls 11 [(0, .ref a0), (1, .int l1), (2, .int l2), (3, .int l3), (4, .int l4), (5, .int l5), (6, .int l6)] → K22 l1 l2 l3 l4 l5 l6 → W p l e (headSpec wsX10_ordersWon ({ frames := 1, cells := 0, slots := 0, locals := 32 })).room s m args below meth c H locs 0 0 (MQ below (va_Qi (fun (r : Int32) (_ : Unit) => Q r ) (cB (dC, dI) (kT cyB cyI cyJ cyP) A (fun u : Unit => ((wd00_4 a0 a0_row z0_owedEach z0_down z0_law a0_row cyI f0_row) : va_W))) A) args s 0 0 A) (F0 m 22 ls [])) (C0 : cfx p s m args meth c cX10_ordersWon (some .int) wsX10_ordersWon RX10 11 A (dC, dI) (kT cyB cyI cyJ cyP)) : ∀ (H : Heap) (locs : List Loc) (ls : Array Slot) (l1 : Int32) (l2 : Int32) (l3 : Int32) (l4 : Int32) (l5 : Int32) (l6 : Int32) (l7 : Int32) (s0 : Int32), va_P (dC, dI) vwCl (wd00_4 a0 a0_row z0_owedEach z0_down z0_law a0_row cyI f0_row) H → va_D A (wd00_4 a0 a0_row z0_owedEach z0_down z0_law a0_row cyI f0_row) → va_S A s.heap H locs → lv_has ls 11 [(0, .ref a0), (1, .int l1), (2, .int l2), (3, .int l3), (4, .int l4), (5, .int l5), (6, .int l6), (7, .int l7)] → wb_X10_ordersWon_r0_58 f0_row Q K22 l1 l2 l3 l4 l5 l6 l7 s0 → W p l e (headSpec wsX10_ordersWon ({ frames := 1, cells := 0, slots := 0, locals := 32 })).room s m args below meth c H locs 0 0 (MQ below (va_Qi (fun (r : Int32) (_ : Unit) => Q r ) (cB (dC, dI) (kT cyB cyI cyJ cyP) A (fun u : Unit => ((wd00_4 a0 a0_row z0_owedEach z0_down z0_law a0_row cyI f0_row) : va_W))) A) args s 0 0 A) (F0 m 58 ls [.int s0]) := by
  obtain ⟨hx, hb, hr, hts, hown, hlocks, hml, hA, hK, hNw⟩ := id C0
  intro H locs ls l1 l2 l3 l4 l5 l6 l7 s0 hP hD hS hl hw
  refine lv_istore (lv' := [(8, .int s0), (0, .ref a0), (1, .int l1), (2, .int l2), (3, .int l3), (4, .int l4), (5, .int l5), (6, .int l6), (7, .int l7)]) hx hb (dt_of tkX10_ordersWon_k29 14 rfl) hl (by decide) rfl (fun ls hl => ?_)
  refine lv_iload hx hb (dt_of tkX10_ordersWon_k29 15 rfl) (lv_at hl 0 rfl) ?_
  refine lv_if_eq (tgt := 69) hx hb (dt_of tkX10_ordersWon_k62 0 rfl) (by decide) (fun c9 => ?_) (fun c9 => ?_)
  · have hw := hw.1 c9
    refine lv_iload hx hb (dt_of tkX10_ordersWon_k62 3 rfl) (lv_at hl 7 rfl) ?_
    exact kb_X10_ordersWon_r0_71 dC dI cyB cyI cyJ cyP a0 a0_row z0_owedEach z0_down z0_law f0_row Q K22 hK22 C0 _ _ _ l1 l2 l3 l4 l5 l6 l7 s0 l6 hP hD hS (lv_sub hl [1, 2, 3, 4, 5, 6, 7, 8, 0] rfl) hw
  · have hw := hw.2 c9
    refine lv_iload_n hx hb (dt_of tkX10_ordersWon_k62 1 rfl) rfl (lv_at hl 3 rfl) ?_
    refine lv_goto (tgt := 71) hx hb (dt_of tkX10_ordersWon_k62 2 rfl) (by decide) ?_
    exact kb_X10_ordersWon_r0_71 dC dI cyB cyI cyJ cyP a0 a0_row z0_owedEach z0_down z0_law f0_row Q K22 hK22 C0 _ _ _ l1 l2 l3 l4 l5 l6 l7 s0 l2 hP hD hS (lv_sub hl [1, 2, 3, 4, 5, 6, 7, 8, 0] rfl) hw
set_option maxHeartbeats 4000000 in
set_option maxRecDepth 100000 in
theorem kb_X10_ordersWon_r0_113 {p : Program} {l : Launch} {e : Env} {s : State} {m : MethodId} {args : Array Value} {below : List Frame} {meth : Method} {c : Code} {A : Nat → Prop} (dC : Nat → ClassId) (dI : Nat → Nat → Nat) (cyB cyI cyJ cyP : ClassId) (a0 a0_row : Nat) (z0_owedEach : Value) (z0_down : Value) (z0_law : Value) (f0_row : Nat → Int32) (Q : Int32 → Prop) (K22 : Int32 → Int32 → Int32 → Int32 → Int32 → Int32 → Prop) (hK22 : ∀ (H : Heap) (locs : List Loc) (ls : Array Slot) (l1 : Int32) (l2 : Int32) (l3 : Int32) (l4 : Int32) (l5 : Int32) (l6 : Int32), va_P (dC, dI) vwCl (wd00_4 a0 a0_row z0_owedEach z0_down z0_law a0_row cyI f0_row) H → va_D A (wd00_4 a0 a0_row z0_owedEach z0_down z0_law a0_row cyI f0_row) → va_S A s.heap H locs → lv_has ls 11 [(0, .ref a0), (1, .int l1), (2, .int l2), (3, .int l3), (4, .int l4), (5, .int l5), (6, .int l6)] → K22 l1 l2 l3 l4 l5 l6 → W p l e (headSpec wsX10_ordersWon ({ frames := 1, cells := 0, slots := 0, locals := 32 })).room s m args below meth c H locs 0 0 (MQ below (va_Qi (fun (r : Int32) (_ : Unit) => Q r ) (cB (dC, dI) (kT cyB cyI cyJ cyP) A (fun u : Unit => ((wd00_4 a0 a0_row z0_owedEach z0_down z0_law a0_row cyI f0_row) : va_W))) A) args s 0 0 A) (F0 m 22 ls [])) (C0 : cfx p s m args meth c cX10_ordersWon (some .int) wsX10_ordersWon RX10 11 A (dC, dI) (kT cyB cyI cyJ cyP)) : ∀ (H : Heap) (locs : List Loc) (ls : Array Slot) (l1 : Int32) (l2 : Int32) (l3 : Int32) (l4 : Int32) (l5 : Int32) (l6 : Int32), va_P (dC, dI) vwCl (wd00_4 a0 a0_row z0_owedEach z0_down z0_law a0_row cyI f0_row) H → va_D A (wd00_4 a0 a0_row z0_owedEach z0_down z0_law a0_row cyI f0_row) → va_S A s.heap H locs → lv_has ls 11 [(0, .ref a0), (1, .int l1), (2, .int l2), (3, .int l3), (4, .int l4), (5, .int l5), (6, .int l6)] → wb_X10_ordersWon_r0_113 f0_row Q K22 l1 l2 l3 l4 l5 l6 → W p l e (headSpec wsX10_ordersWon ({ frames := 1, cells := 0, slots := 0, locals := 32 })).room s m args below meth c H locs 0 0 (MQ below (va_Qi (fun (r : Int32) (_ : Unit) => Q r ) (cB (dC, dI) (kT cyB cyI cyJ cyP) A (fun u : Unit => ((wd00_4 a0 a0_row z0_owedEach z0_down z0_law a0_row cyI f0_row) : va_W))) A) args s 0 0 A) (F0 m 113 ls []) := by
  obtain ⟨hx, hb, hr, hts, hown, hlocks, hml, hA, hK, hNw⟩ := id C0
  intro H locs ls l1 l2 l3 l4 l5 l6 hP hD hS hl hw
  obtain ⟨x8, ex8⟩ : ∃ y : Int32, y = l6 + 1 := ⟨_, rfl⟩
  have hw := hw x8 ex8
  refine lv_iinc (v := x8) (lv' := [(6, .int x8), (0, .ref a0), (1, .int l1), (2, .int l2), (3, .int l3), (4, .int l4), (5, .int l5)]) hx hb (dt_of tkX10_ordersWon_k94 12 rfl) hl (k := 6) rfl (by rw [ex8]; rfl) (by decide) rfl (fun ls hl => ?_)
  refine lv_goto (tgt := 22) hx hb (dt_of tkX10_ordersWon_k94 13 rfl) (by decide) ?_
  exact hK22 _ _ _ l1 l2 l3 l4 l5 x8 hP hD hS (lv_sub hl [1, 2, 3, 4, 5, 6, 0] rfl) hw
set_option maxHeartbeats 4000000 in
set_option maxRecDepth 100000 in
theorem kl_X10_ordersWon_r0_22 {p : Program} {l : Launch} {e : Env} {s : State} {m : MethodId} {args : Array Value} {below : List Frame} {meth : Method} {c : Code} {A : Nat → Prop} (dC : Nat → ClassId) (dI : Nat → Nat → Nat) (cyB cyI cyJ cyP : ClassId) (a0 a0_row : Nat) (z0_owedEach : Value) (z0_down : Value) (z0_law : Value) (f0_row : Nat → Int32) (Q : Int32 → Prop)  (C0 : cfx p s m args meth c cX10_ordersWon (some .int) wsX10_ordersWon RX10 11 A (dC, dI) (kT cyB cyI cyJ cyP)) : ∀ (n : Nat) (H : Heap) (locs : List Loc) (ls : Array Slot) (l1 : Int32) (l2 : Int32) (l3 : Int32) (l4 : Int32) (l5 : Int32) (l6 : Int32), va_P (dC, dI) vwCl (wd00_4 a0 a0_row z0_owedEach z0_down z0_law a0_row cyI f0_row) H → va_D A (wd00_4 a0 a0_row z0_owedEach z0_down z0_law a0_row cyI f0_row) → va_S A s.heap H locs → lv_has ls 11 [(0, .ref a0), (1, .int l1), (2, .int l2), (3, .int l3), (4, .int l4), (5, .int l5), (6, .int l6)] → wl_X10_ordersWon_r0_22 f0_row Q  n l1 l2 l3 l4 l5 l6 → W p l e (headSpec wsX10_ordersWon ({ frames := 1, cells := 0, slots := 0, locals := 32 })).room s m args below meth c H locs 0 0 (MQ below (va_Qi (fun (r : Int32) (_ : Unit) => Q r ) (cB (dC, dI) (kT cyB cyI cyJ cyP) A (fun u : Unit => ((wd00_4 a0 a0_row z0_owedEach z0_down z0_law a0_row cyI f0_row) : va_W))) A) args s 0 0 A) (F0 m 22 ls []) := by
  obtain ⟨hx, hb, hr, hts, hown, hlocks, hml, hA, hK, hNw⟩ := id C0
  intro n
  induction n with
  | zero => intro H locs ls l1 l2 l3 l4 l5 l6 hP hD hS hl hw; exact False.elim hw
  | succ n ih =>
    intro H locs ls l1 l2 l3 l4 l5 l6 hP hD hS hl hw
    refine lv_iload hx hb (dt_of tkX10_ordersWon_k0 13 rfl) (lv_at hl 6 rfl) ?_
    refine lv_bipush (v := 6) hx hb (dt_of tkX10_ordersWon_k0 14 rfl) (by decide) ?_
    refine lv_icmp_ge (tgt := 119) hx hb (dt_of tkX10_ordersWon_k0 15 rfl) (by decide) (fun c3 => ?_) (fun c3 => ?_)
    · have hw := hw.1 c3
      refine lv_iload hx hb (dt_of tkX10_ordersWon_k94 14 rfl) (lv_at hl 5 rfl) ?_
      exact ((W.iret (v := l5) hx hb hr (fun t ht hW => ⟨⟨l5, (), rfl, hw, by rw [ht]; exact hP, va_K.moved hW.alike hK, hD⟩, hS.F ht⟩) hS.2.2 (dt_of tkX10_ordersWon_k94 15 rfl)))
    · have hw := hw.2 c3
      refine lv_iload hx hb (dt_of tkX10_ordersWon_k29 0 rfl) (lv_at hl 4 rfl) ?_
      refine lv_iload hx hb (dt_of tkX10_ordersWon_k29 1 rfl) (lv_at hl 6 rfl) ?_
      obtain ⟨hCc, hPc, hDc, hFc⟩ := va_pick (ws' := []) hP hD hS hA [] (by decide +kernel) rfl
      refine va_calli (va_runS (As := [.int l4, .int l6]) (rest := []) ⟨hx, hb, hml, hown, hts⟩ (ck_X10_holds l dC dI cyB cyI cyJ cyP  H.size    l4 l6 hw) (va_cwS 2 hts gX10_ordersWon_X10_holds rfl rfl rfl (by decide +kernel) ⟨Nat.le_of_ble_eq_true rfl, Nat.le_of_ble_eq_true rfl⟩) ⟨cPc_blind, cPc_pre hPc hK hDc hNw⟩ rfl rfl hl.1 rfl (lv_room (Nat.le_of_ble_eq_true rfl)) (dt_of tkX10_ordersWon_k29 2 rfl) ⟨Nat.le_of_ble_eq_true rfl, Nat.le_of_ble_eq_true rfl⟩) hS (fun q _ h => hFc q h) hFc (fun r4 u t H1 locs ht hvm hw hB hz1 hk1 hS => ?_)
      obtain ⟨hP1, hK1, hD1⟩ := hB
      rw [ht] at hP1
      obtain ⟨hP, hD⟩ := va_joinI (wr := (wd00_4 a0 a0_row z0_owedEach z0_down z0_law a0_row cyI f0_row)) (w1 := []) (wn := (wd00_4 a0 a0_row z0_owedEach z0_down z0_law a0_row cyI f0_row)) hP hD [] [0, 1] hCc rfl (by decide +kernel) (by decide +kernel) rfl hk1 hFc hP1 hD1
      generalize H1 = H at hP hS ⊢
      refine lv_if_eq (tgt := 113) hx hb (dt_of tkX10_ordersWon_k29 3 rfl) (by decide) (fun c5 => ?_) (fun c5 => ?_)
      · have hw := hw.1 c5
        exact kb_X10_ordersWon_r0_113 dC dI cyB cyI cyJ cyP a0 a0_row z0_owedEach z0_down z0_law f0_row Q (wl_X10_ordersWon_r0_22 f0_row Q  n) ih C0 _ _ _ l1 l2 l3 l4 l5 l6 hP hD hS (lv_sub hl [0, 1, 2, 3, 4, 5, 6] rfl) hw
      · have hw := hw.2 c5
        refine lv_aload_n hx hb (dt_of tkX10_ordersWon_k29 4 rfl) rfl (lv_at hl 0 rfl) ?_
        refine lv_iload hx hb (dt_of tkX10_ordersWon_k29 5 rfl) (lv_at hl 6 rfl) ?_
        obtain ⟨hCc, hPc, hDc, hFc⟩ := va_pick (ws' := (wd00_4 a0 a0_row z0_owedEach z0_down z0_law a0_row cyI f0_row)) hP hD hS hA [0, 1] (by decide +kernel) rfl
        refine va_calli (va_runV (As := [.int l6]) (rest := []) ⟨hx, hb, hml, hown, hts⟩ (ck_X1_strong l dC dI cyB cyI cyJ cyP a0 a0_row H.size (z0_owedEach) (z0_down) (z0_law) f0_row  l6 hw) (cwV 1 hts gX10_ordersWon_X1_strong rfl rfl rfl (by decide +kernel) ⟨Nat.le_of_ble_eq_true rfl, Nat.le_of_ble_eq_true rfl⟩) ⟨cPc_blind, va_recv (q := (RX1, TX1, 4)) hK hPc (ci := 1) (q0 := 0) rfl rfl, cPc_pre hPc hK hDc hNw⟩ rfl rfl hl.1 rfl (lv_room (Nat.le_of_ble_eq_true rfl)) (dt_of tkX10_ordersWon_k29 6 rfl) ⟨Nat.le_of_ble_eq_true rfl, Nat.le_of_ble_eq_true rfl⟩) hS (fun q _ h => hFc q h) hFc (fun r6 u t H1 locs ht hvm hw hB hz1 hk1 hS => ?_)
        obtain ⟨hP1, hK1, hD1⟩ := hB
        rw [ht] at hP1
        obtain ⟨hP, hD⟩ := va_joinI (wr := []) (w1 := (wd00_4 a0 a0_row z0_owedEach z0_down z0_law a0_row cyI f0_row)) (wn := (wd00_4 a0 a0_row z0_owedEach z0_down z0_law a0_row cyI f0_row)) hP hD [0, 1] [] hCc rfl (by decide +kernel) (by decide +kernel) rfl hk1 hFc hP1 hD1
        generalize H1 = H at hP hS ⊢
        refine lv_istore (lv' := [(7, .int r6), (0, .ref a0), (1, .int l1), (2, .int l2), (3, .int l3), (4, .int l4), (5, .int l5), (6, .int l6)]) hx hb (dt_of tkX10_ordersWon_k29 7 rfl) hl (by decide) rfl (fun ls hl => ?_)
        refine lv_iload_n hx hb (dt_of tkX10_ordersWon_k29 8 rfl) rfl (lv_at hl 4 rfl) ?_
        refine lv_iload hx hb (dt_of tkX10_ordersWon_k29 9 rfl) (lv_at hl 0 rfl) ?_
        refine lv_icmp_lt (tgt := 57) hx hb (dt_of tkX10_ordersWon_k29 10 rfl) (by decide) (fun c7 => ?_) (fun c7 => ?_)
        · have hw := hw.1 c7
          refine lv_iconst (v := 0) hx hb (dt_of tkX10_ordersWon_k29 13 rfl) (by decide) ?_
          exact kb_X10_ordersWon_r0_58 dC dI cyB cyI cyJ cyP a0 a0_row z0_owedEach z0_down z0_law f0_row Q (wl_X10_ordersWon_r0_22 f0_row Q  n) ih C0 _ _ _ l1 l2 l3 l4 l5 l6 r6 0 hP hD hS (lv_sub hl [1, 2, 3, 4, 5, 6, 7, 0] rfl) hw
        · have hw := hw.2 c7
          refine lv_iconst (v := 1) hx hb (dt_of tkX10_ordersWon_k29 11 rfl) (by decide) ?_
          refine lv_goto (tgt := 58) hx hb (dt_of tkX10_ordersWon_k29 12 rfl) (by decide) ?_
          exact kb_X10_ordersWon_r0_58 dC dI cyB cyI cyJ cyP a0 a0_row z0_owedEach z0_down z0_law f0_row Q (wl_X10_ordersWon_r0_22 f0_row Q  n) ih C0 _ _ _ l1 l2 l3 l4 l5 l6 r6 1 hP hD hS (lv_sub hl [1, 2, 3, 4, 5, 6, 7, 0] rfl) hw
set_option maxHeartbeats 4000000 in
set_option maxRecDepth 100000 in
theorem ck_X10_ordersWon_r0 (l : Launch) (dC : Nat → ClassId) (dI : Nat → Nat → Nat) (cyB cyI cyJ cyP : ClassId) (a0 a0_row : Nat) (sz : Nat) (z0_owedEach : Value) (z0_down : Value) (z0_law : Value) (f0_row : Nat → Int32)  (p1 : Int32) (p2 : Int32) (p3 : Int32) (p4 : Int32) {Q : Int32 → Prop} (hw : wq_X10_ordersWon_r0 f0_row  p1 p2 p3 p4 Q) : Met l yX10_ordersWon wsX10_ordersWon ({ frames := 1, cells := 0, slots := 0, locals := 32 }) (va_Pc [.ref a0, .int p1, .int p2, .int p3, .int p4] (cPc (dC, dI) (kT cyB cyI cyJ cyP) (wd00_4 a0 a0_row z0_owedEach z0_down z0_law a0_row cyI f0_row) sz)) (va_Qi (fun (r : Int32) (_ : Unit) => Q r ) (cB (dC, dI) (kT cyB cyI cyJ cyP) (va_A (wd00_4 a0 a0_row z0_owedEach z0_down z0_law a0_row cyI f0_row) sz) (fun u : Unit => ((wd00_4 a0 a0_row z0_owedEach z0_down z0_law a0_row cyI f0_row) : va_W))) (va_A (wd00_4 a0 a0_row z0_owedEach z0_down z0_law a0_row cyI f0_row) sz)) 0 0 (va_A (wd00_4 a0 a0_row z0_owedEach z0_down z0_law a0_row cyI f0_row) sz) := by
  refine Met.ofW (cc := cX10_ordersWon) (maxL := 11) (ret := (some .int)) (by decide) rfl ?_
  intro p e s m args below meth c s₁ B hml hv
  obtain ⟨rfl, hsz, hP, hK, hD0, hNw⟩ := hv
  have hx := B.exec
  have hb := B.bytes
  have hr := B.returns
  have hts := atoms_spec (ws := wsX10_ordersWon) B.pre
  have hown : s.vm.findClass RX10 = some m.cls := findClass_of_methodNamed B.named
  have hlocks := B.notSynchronized
  subst hsz
  have hD := hD0.self (sz := s.heap.size)
  generalize hAe : va_A (wd00_4 a0 a0_row z0_owedEach z0_down z0_law a0_row cyI f0_row) s.heap.size = A at hD ⊢
  have hA : ∀ q : Nat, s.heap.size ≤ q → A q := fun q h => by rw [← hAe]; exact Or.inr h
  have hS : va_S A s.heap s.heap [] := va_S.rf
  have hP : va_P (dC, dI) vwCl (wd00_4 a0 a0_row z0_owedEach z0_down z0_law a0_row cyI f0_row) s.heap := hP
  have hl := lv_entry ([.ref a0, .int p1, .int p2, .int p3, .int p4]) (n := 11) (Nat.le_of_ble_eq_true rfl)
  rw [lg_entry_eq]
  generalize (lg_sl ([.ref a0, .int p1, .int p2, .int p3, .int p4]) ++ List.replicate (11 - (lg_sl ([.ref a0, .int p1, .int p2, .int p3, .int p4])).length) Slot.unset).toArray = ls at hl ⊢
  have hl : lv_has ls 11 [(0, .ref a0), (1, .int p1), (2, .int p2), (3, .int p3), (4, .int p4)] := hl
  have C0 : cfx p s m _ meth c cX10_ordersWon (some .int) wsX10_ordersWon RX10 11 A (dC, dI) (kT cyB cyI cyJ cyP) := ⟨hx, hb, hr, hts, hown, hlocks, hml, hA, hK, hNw⟩
  clear hAe
  obtain ⟨H, hH⟩ : ∃ H, H = s.heap := ⟨_, rfl⟩
  rw [← hH] at hP ⊢
  have hS : va_S A s.heap H [] := by rw [hH]; exact va_S.rf
  have hS := hS
  refine lv_iload hx hb (dt_of tkX10_ordersWon_k0 0 rfl) (lv_at hl 4 rfl) ?_
  refine lv_if_ne (tgt := 16) hx hb (dt_of tkX10_ordersWon_k0 1 rfl) (by decide) (fun c1 => ?_) (fun c1 => ?_)
  · have hw := hw.1 c1
    refine lv_iconst (v := 0) hx hb (dt_of tkX10_ordersWon_k0 9 rfl) (by decide) ?_
    refine lv_istore (lv' := [(5, .int 0), (0, .ref a0), (1, .int p1), (2, .int p2), (3, .int p3), (4, .int p4)]) hx hb (dt_of tkX10_ordersWon_k0 10 rfl) hl (by decide) rfl (fun ls hl => ?_)
    refine lv_iconst (v := 0) hx hb (dt_of tkX10_ordersWon_k0 11 rfl) (by decide) ?_
    refine lv_istore (lv' := [(6, .int 0), (5, .int 0), (0, .ref a0), (1, .int p1), (2, .int p2), (3, .int p3), (4, .int p4)]) hx hb (dt_of tkX10_ordersWon_k0 12 rfl) hl (by decide) rfl (fun ls hl => ?_)
    obtain ⟨n9, hw⟩ := hw
    exact kl_X10_ordersWon_r0_22 dC dI cyB cyI cyJ cyP a0 a0_row z0_owedEach z0_down z0_law f0_row Q  C0 n9 _ _ _ p1 p2 p3 p4 0 0 hP hD hS (lv_sub hl [2, 3, 4, 5, 6, 1, 0] rfl) hw
  · have hw := hw.2 c1
    refine lv_iload_n hx hb (dt_of tkX10_ordersWon_k0 2 rfl) rfl (lv_at hl 2 rfl) ?_
    refine lv_iload_n hx hb (dt_of tkX10_ordersWon_k0 3 rfl) rfl (lv_at hl 1 rfl) ?_
    refine lv_icmp_ne (tgt := 14) hx hb (dt_of tkX10_ordersWon_k0 4 rfl) (by decide) (fun c2 => ?_) (fun c2 => ?_)
    · have hw := hw.1 c2
      refine lv_iconst (v := 0) hx hb (dt_of tkX10_ordersWon_k0 7 rfl) (by decide) ?_
      exact ((W.iret (v := 0) hx hb hr (fun t ht hW => ⟨⟨0, (), rfl, hw, by rw [ht]; exact hP, va_K.moved hW.alike hK, hD⟩, hS.F ht⟩) hS.2.2 (dt_of tkX10_ordersWon_k0 8 rfl)))
    · have hw := hw.2 c2
      refine lv_iconst (v := 1) hx hb (dt_of tkX10_ordersWon_k0 5 rfl) (by decide) ?_
      refine lv_goto (tgt := 15) hx hb (dt_of tkX10_ordersWon_k0 6 rfl) (by decide) ?_
      exact ((W.iret (v := 1) hx hb hr (fun t ht hW => ⟨⟨1, (), rfl, hw, by rw [ht]; exact hP, va_K.moved hW.alike hK, hD⟩, hS.F ht⟩) hS.2.2 (dt_of tkX10_ordersWon_k0 8 rfl)))
theorem uw_X10_ordersWon_r2_inim : (.initialized "java/lang/Math" : Cond) ∈ wsX10_ordersWon := mbX10_ordersWon 651 (by decide +kernel)
theorem uw_X10_ordersWon_r2_m389 : (.methodLink RX10 389 Lib.Math.max.name : Cond) ∈ wsX10_ordersWon := mbX10_ordersWon 3404 (by decide +kernel)
theorem uw_X10_ordersWon_r2_mcmax : (.code Lib.Math.max.name Lib.Math.max.code 2 (some .int) : Cond) ∈ wsX10_ordersWon := mbX10_ordersWon 1931 (by decide +kernel)
theorem uw_X10_ordersWon_r2_msmax : (.static Lib.Math.max.name : Cond) ∈ wsX10_ordersWon := mbX10_ordersWon 1930 (by decide +kernel)
set_option maxHeartbeats 4000000 in
set_option maxRecDepth 100000 in
theorem kb_X10_ordersWon_g_113 (RS : (Nat → Int32) → Int32 → Int32 → Int32 → Int32 → (Int32 → Prop) → Prop) (fr lo : Nat) (hRw : ∀ (l : Launch) (dC : Nat → ClassId) (dI : Nat → Nat → Nat) (cyB cyI cyJ cyP : ClassId) (a0 a0_row : Nat) (sz : Nat) (z0_owedEach : Value) (z0_down : Value) (z0_law : Value) (f0_row : Nat → Int32) (p1 : Int32) (p2 : Int32) (p3 : Int32) (p4 : Int32) {Q : Int32 → Prop} (hw : RS f0_row  p1 p2 p3 p4 Q), Met l yX10_ordersWon wsX10_ordersWon ({ frames := fr, cells := 0, slots := 0, locals := lo }) (va_Pc [.ref a0, .int p1, .int p2, .int p3, .int p4] (cPc (dC, dI) (kT cyB cyI cyJ cyP) (wd00_4 a0 a0_row z0_owedEach z0_down z0_law a0_row cyI f0_row) sz)) (va_Qi (fun (r : Int32) (_ : Unit) => Q r ) (cB (dC, dI) (kT cyB cyI cyJ cyP) (va_A (wd00_4 a0 a0_row z0_owedEach z0_down z0_law a0_row cyI f0_row) sz) (fun u : Unit => ((wd00_4 a0 a0_row z0_owedEach z0_down z0_law a0_row cyI f0_row) : va_W))) (va_A (wd00_4 a0 a0_row z0_owedEach z0_down z0_law a0_row cyI f0_row) sz)) 0 0 (va_A (wd00_4 a0 a0_row z0_owedEach z0_down z0_law a0_row cyI f0_row) sz)) {p : Program} {l : Launch} {e : Env} {s : State} {m : MethodId} {args : Array Value} {below : List Frame} {meth : Method} {c : Code} {A : Nat → Prop} (dC : Nat → ClassId) (dI : Nat → Nat → Nat) (cyB cyI cyJ cyP : ClassId) (a0 a0_row : Nat) (z0_owedEach : Value) (z0_down : Value) (z0_law : Value) (f0_row : Nat → Int32) (Q : Int32 → Prop) (K22 : Int32 → Int32 → Int32 → Int32 → Int32 → Int32 → Prop) (hK22 : ∀ (H : Heap) (locs : List Loc) (ls : Array Slot) (l1 : Int32) (l2 : Int32) (l3 : Int32) (l4 : Int32) (l5 : Int32) (l6 : Int32), va_P (dC, dI) vwCl (wd00_4 a0 a0_row z0_owedEach z0_down z0_law a0_row cyI f0_row) H → va_D A (wd00_4 a0 a0_row z0_owedEach z0_down z0_law a0_row cyI f0_row) → va_S A s.heap H locs → lv_has ls 11 [(0, .ref a0), (1, .int l1), (2, .int l2), (3, .int l3), (4, .int l4), (5, .int l5), (6, .int l6)] → K22 l1 l2 l3 l4 l5 l6 → W p l e (headSpec wsX10_ordersWon ({ frames := fr + 1, cells := 0, slots := 0, locals := lo + 30 })).room s m args below meth c H locs 0 0 (MQ below (va_Qi (fun (r : Int32) (_ : Unit) => Q r ) (cB (dC, dI) (kT cyB cyI cyJ cyP) A (fun u : Unit => ((wd00_4 a0 a0_row z0_owedEach z0_down z0_law a0_row cyI f0_row) : va_W))) A) args s 0 0 A) (F0 m 22 ls [])) (C0 : cfx p s m args meth c cX10_ordersWon (some .int) wsX10_ordersWon RX10 11 A (dC, dI) (kT cyB cyI cyJ cyP)) : ∀ (H : Heap) (locs : List Loc) (ls : Array Slot) (l1 : Int32) (l2 : Int32) (l3 : Int32) (l4 : Int32) (l5 : Int32) (l6 : Int32), va_P (dC, dI) vwCl (wd00_4 a0 a0_row z0_owedEach z0_down z0_law a0_row cyI f0_row) H → va_D A (wd00_4 a0 a0_row z0_owedEach z0_down z0_law a0_row cyI f0_row) → va_S A s.heap H locs → lv_has ls 11 [(0, .ref a0), (1, .int l1), (2, .int l2), (3, .int l3), (4, .int l4), (5, .int l5), (6, .int l6)] → wb_X10_ordersWon_g_113 RS f0_row Q K22 l1 l2 l3 l4 l5 l6 → W p l e (headSpec wsX10_ordersWon ({ frames := fr + 1, cells := 0, slots := 0, locals := lo + 30 })).room s m args below meth c H locs 0 0 (MQ below (va_Qi (fun (r : Int32) (_ : Unit) => Q r ) (cB (dC, dI) (kT cyB cyI cyJ cyP) A (fun u : Unit => ((wd00_4 a0 a0_row z0_owedEach z0_down z0_law a0_row cyI f0_row) : va_W))) A) args s 0 0 A) (F0 m 113 ls []) := by
  obtain ⟨hx, hb, hr, hts, hown, hlocks, hml, hA, hK, hNw⟩ := id C0
  intro H locs ls l1 l2 l3 l4 l5 l6 hP hD hS hl hw
  obtain ⟨x8, ex8⟩ : ∃ y : Int32, y = l6 + 1 := ⟨_, rfl⟩
  have hw := hw x8 ex8
  refine lv_iinc (v := x8) (lv' := [(6, .int x8), (0, .ref a0), (1, .int l1), (2, .int l2), (3, .int l3), (4, .int l4), (5, .int l5)]) hx hb (dt_of tkX10_ordersWon_k94 12 rfl) hl (k := 6) rfl (by rw [ex8]; rfl) (by decide) rfl (fun ls hl => ?_)
  refine lv_goto (tgt := 22) hx hb (dt_of tkX10_ordersWon_k94 13 rfl) (by decide) ?_
  exact hK22 _ _ _ l1 l2 l3 l4 l5 x8 hP hD hS (lv_sub hl [1, 2, 3, 4, 5, 6, 0] rfl) hw
set_option maxHeartbeats 4000000 in
set_option maxRecDepth 100000 in
theorem kb_X10_ordersWon_g_85 (RS : (Nat → Int32) → Int32 → Int32 → Int32 → Int32 → (Int32 → Prop) → Prop) (fr lo : Nat) (hRw : ∀ (l : Launch) (dC : Nat → ClassId) (dI : Nat → Nat → Nat) (cyB cyI cyJ cyP : ClassId) (a0 a0_row : Nat) (sz : Nat) (z0_owedEach : Value) (z0_down : Value) (z0_law : Value) (f0_row : Nat → Int32) (p1 : Int32) (p2 : Int32) (p3 : Int32) (p4 : Int32) {Q : Int32 → Prop} (hw : RS f0_row  p1 p2 p3 p4 Q), Met l yX10_ordersWon wsX10_ordersWon ({ frames := fr, cells := 0, slots := 0, locals := lo }) (va_Pc [.ref a0, .int p1, .int p2, .int p3, .int p4] (cPc (dC, dI) (kT cyB cyI cyJ cyP) (wd00_4 a0 a0_row z0_owedEach z0_down z0_law a0_row cyI f0_row) sz)) (va_Qi (fun (r : Int32) (_ : Unit) => Q r ) (cB (dC, dI) (kT cyB cyI cyJ cyP) (va_A (wd00_4 a0 a0_row z0_owedEach z0_down z0_law a0_row cyI f0_row) sz) (fun u : Unit => ((wd00_4 a0 a0_row z0_owedEach z0_down z0_law a0_row cyI f0_row) : va_W))) (va_A (wd00_4 a0 a0_row z0_owedEach z0_down z0_law a0_row cyI f0_row) sz)) 0 0 (va_A (wd00_4 a0 a0_row z0_owedEach z0_down z0_law a0_row cyI f0_row) sz)) {p : Program} {l : Launch} {e : Env} {s : State} {m : MethodId} {args : Array Value} {below : List Frame} {meth : Method} {c : Code} {A : Nat → Prop} (dC : Nat → ClassId) (dI : Nat → Nat → Nat) (cyB cyI cyJ cyP : ClassId) (a0 a0_row : Nat) (z0_owedEach : Value) (z0_down : Value) (z0_law : Value) (f0_row : Nat → Int32) (Q : Int32 → Prop) (K22 : Int32 → Int32 → Int32 → Int32 → Int32 → Int32 → Prop) (hK22 : ∀ (H : Heap) (locs : List Loc) (ls : Array Slot) (l1 : Int32) (l2 : Int32) (l3 : Int32) (l4 : Int32) (l5 : Int32) (l6 : Int32), va_P (dC, dI) vwCl (wd00_4 a0 a0_row z0_owedEach z0_down z0_law a0_row cyI f0_row) H → va_D A (wd00_4 a0 a0_row z0_owedEach z0_down z0_law a0_row cyI f0_row) → va_S A s.heap H locs → lv_has ls 11 [(0, .ref a0), (1, .int l1), (2, .int l2), (3, .int l3), (4, .int l4), (5, .int l5), (6, .int l6)] → K22 l1 l2 l3 l4 l5 l6 → W p l e (headSpec wsX10_ordersWon ({ frames := fr + 1, cells := 0, slots := 0, locals := lo + 30 })).room s m args below meth c H locs 0 0 (MQ below (va_Qi (fun (r : Int32) (_ : Unit) => Q r ) (cB (dC, dI) (kT cyB cyI cyJ cyP) A (fun u : Unit => ((wd00_4 a0 a0_row z0_owedEach z0_down z0_law a0_row cyI f0_row) : va_W))) A) args s 0 0 A) (F0 m 22 ls [])) (C0 : cfx p s m args meth c cX10_ordersWon (some .int) wsX10_ordersWon RX10 11 A (dC, dI) (kT cyB cyI cyJ cyP)) : ∀ (H : Heap) (locs : List Loc) (ls : Array Slot) (l1 : Int32) (l2 : Int32) (l3 : Int32) (l4 : Int32) (l5 : Int32) (l6 : Int32) (l9 : Int32) (s0 : Int32) (s1 : Int32), va_P (dC, dI) vwCl (wd00_4 a0 a0_row z0_owedEach z0_down z0_law a0_row cyI f0_row) H → va_D A (wd00_4 a0 a0_row z0_owedEach z0_down z0_law a0_row cyI f0_row) → va_S A s.heap H locs → lv_has ls 11 [(0, .ref a0), (1, .int l1), (2, .int l2), (3, .int l3), (4, .int l4), (5, .int l5), (6, .int l6), (9, .int l9)] → wb_X10_ordersWon_g_85 RS f0_row Q K22 l1 l2 l3 l4 l5 l6 l9 s0 s1 → W p l e (headSpec wsX10_ordersWon ({ frames := fr + 1, cells := 0, slots := 0, locals := lo + 30 })).room s m args below meth c H locs 0 0 (MQ below (va_Qi (fun (r : Int32) (_ : Unit) => Q r ) (cB (dC, dI) (kT cyB cyI cyJ cyP) A (fun u : Unit => ((wd00_4 a0 a0_row z0_owedEach z0_down z0_law a0_row cyI f0_row) : va_W))) A) args s 0 0 A) (F0 m 85 ls [.int s1, .int s0]) := by
  obtain ⟨hx, hb, hr, hts, hown, hlocks, hml, hA, hK, hNw⟩ := id C0
  intro H locs ls l1 l2 l3 l4 l5 l6 l9 s0 s1 hP hD hS hl hw
  refine lv_iconst (v := 1) hx hb (dt_of tkX10_ordersWon_k62 11 rfl) (by decide) ?_
  refine lv_isub hx hb (dt_of tkX10_ordersWon_k62 12 rfl) ?_
  refine va_mmax hx hb (by rw [hml]; exact hl.1.symm) hown (hts _ uw_X10_ordersWon_r2_m389) (hts _ uw_X10_ordersWon_r2_msmax) (hts _ uw_X10_ordersWon_r2_inim) (hts _ uw_X10_ordersWon_r2_mcmax) ((by first | exact Nat.le_of_ble_eq_true rfl | (simp only [headSpec]; omega) | omega)) ((by first | exact Nat.le_of_ble_eq_true rfl | (simp only [headSpec]; omega) | omega)) ((by first | exact Nat.le_of_ble_eq_true rfl | (simp only [headSpec]; omega) | omega)) ((by first | exact Nat.le_of_ble_eq_true rfl | (simp only [headSpec]; omega) | omega)) (dt_of tkX10_ordersWon_k62 13 rfl) ?_
  refine lv_topi (fun x11 ex11 => ?_)
  have hw := hw x11 ex11
  refine lv_istore (lv' := [(10, .int x11), (0, .ref a0), (1, .int l1), (2, .int l2), (3, .int l3), (4, .int l4), (5, .int l5), (6, .int l6), (9, .int l9)]) hx hb (dt_of tkX10_ordersWon_k62 14 rfl) hl (by decide) rfl (fun ls hl => ?_)
  refine lv_iload hx hb (dt_of tkX10_ordersWon_k62 15 rfl) (lv_at hl 6 rfl) ?_
  refine lv_aload_n hx hb (dt_of tkX10_ordersWon_k94 0 rfl) rfl (lv_at hl 1 rfl) ?_
  refine lv_iload_n hx hb (dt_of tkX10_ordersWon_k94 1 rfl) rfl (lv_at hl 2 rfl) ?_
  refine lv_iload hx hb (dt_of tkX10_ordersWon_k94 2 rfl) (lv_at hl 8 rfl) ?_
  refine lv_iload hx hb (dt_of tkX10_ordersWon_k94 3 rfl) (lv_at hl 0 rfl) ?_
  refine lv_iload hx hb (dt_of tkX10_ordersWon_k94 4 rfl) (lv_at hl 5 rfl) ?_
  refine lv_iconst (v := 1) hx hb (dt_of tkX10_ordersWon_k94 5 rfl) (by decide) ?_
  refine lv_iload hx hb (dt_of tkX10_ordersWon_k94 6 rfl) (lv_at hl 7 rfl) ?_
  refine lv_ishl hx hb (dt_of tkX10_ordersWon_k94 7 rfl) ?_
  refine lv_ixor hx hb (dt_of tkX10_ordersWon_k94 8 rfl) ?_
  obtain ⟨hCc, hPc, hDc, hFc⟩ := va_pick (ws' := (wd00_4 a0 a0_row z0_owedEach z0_down z0_law a0_row cyI f0_row)) hP hD hS hA [0, 1] (by decide +kernel) rfl
  refine va_calli (va_runS (As := [.ref a0, .int l1, .int l9, .int x11, .int (l4 ^^^ (1 <<< (l6 &&& 31)))]) (rest := [.int l5]) ⟨hx, hb, hml, hown, hts⟩ (hRw l dC dI cyB cyI cyJ cyP a0 a0_row H.size (z0_owedEach) (z0_down) (z0_law) f0_row  l1 l9 x11 (l4 ^^^ (1 <<< (l6 &&& 31))) hw) (va_cwS 5 hts gX10_ordersWon_X10_ordersWon rfl rfl rfl (by decide +kernel) ⟨(by first | exact Nat.le_of_ble_eq_true rfl | (simp only [headSpec]; omega) | omega), (by first | exact Nat.le_of_ble_eq_true rfl | (simp only [headSpec]; omega) | omega)⟩) ⟨cPc_blind, cPc_pre hPc hK hDc hNw⟩ rfl rfl hl.1 rfl (lv_room (Nat.le_of_ble_eq_true rfl)) (dt_of tkX10_ordersWon_k94 9 rfl) ⟨(by first | exact Nat.le_of_ble_eq_true rfl | (simp only [headSpec]; omega) | omega), (by first | exact Nat.le_of_ble_eq_true rfl | (simp only [headSpec]; omega) | omega)⟩) hS (fun q _ h => hFc q h) hFc (fun r12 u t H1 locs ht hvm hw hB hz1 hk1 hS => ?_)
  obtain ⟨hP1, hK1, hD1⟩ := hB
  rw [ht] at hP1
  obtain ⟨hP, hD⟩ := va_joinI (wr := []) (w1 := (wd00_4 a0 a0_row z0_owedEach z0_down z0_law a0_row cyI f0_row)) (wn := (wd00_4 a0 a0_row z0_owedEach z0_down z0_law a0_row cyI f0_row)) hP hD [0, 1] [] hCc rfl (by decide +kernel) (by decide +kernel) rfl hk1 hFc hP1 hD1
  generalize H1 = H at hP hS ⊢
  refine lv_iadd hx hb (dt_of tkX10_ordersWon_k94 10 rfl) ?_
  refine lv_topi (fun x13 ex13 => ?_)
  have hw := hw x13 ex13
  refine lv_istore (lv' := [(5, .int x13), (10, .int x11), (0, .ref a0), (1, .int l1), (2, .int l2), (3, .int l3), (4, .int l4), (6, .int l6), (9, .int l9)]) hx hb (dt_of tkX10_ordersWon_k94 11 rfl) hl (by decide) rfl (fun ls hl => ?_)
  exact kb_X10_ordersWon_g_113 RS fr lo hRw dC dI cyB cyI cyJ cyP a0 a0_row z0_owedEach z0_down z0_law f0_row Q K22 hK22 C0 _ _ _ l1 l2 l3 l4 x13 l6 hP hD hS (lv_sub hl [2, 3, 4, 5, 6, 0, 7] rfl) hw
set_option maxHeartbeats 4000000 in
set_option maxRecDepth 100000 in
theorem kb_X10_ordersWon_g_71 (RS : (Nat → Int32) → Int32 → Int32 → Int32 → Int32 → (Int32 → Prop) → Prop) (fr lo : Nat) (hRw : ∀ (l : Launch) (dC : Nat → ClassId) (dI : Nat → Nat → Nat) (cyB cyI cyJ cyP : ClassId) (a0 a0_row : Nat) (sz : Nat) (z0_owedEach : Value) (z0_down : Value) (z0_law : Value) (f0_row : Nat → Int32) (p1 : Int32) (p2 : Int32) (p3 : Int32) (p4 : Int32) {Q : Int32 → Prop} (hw : RS f0_row  p1 p2 p3 p4 Q), Met l yX10_ordersWon wsX10_ordersWon ({ frames := fr, cells := 0, slots := 0, locals := lo }) (va_Pc [.ref a0, .int p1, .int p2, .int p3, .int p4] (cPc (dC, dI) (kT cyB cyI cyJ cyP) (wd00_4 a0 a0_row z0_owedEach z0_down z0_law a0_row cyI f0_row) sz)) (va_Qi (fun (r : Int32) (_ : Unit) => Q r ) (cB (dC, dI) (kT cyB cyI cyJ cyP) (va_A (wd00_4 a0 a0_row z0_owedEach z0_down z0_law a0_row cyI f0_row) sz) (fun u : Unit => ((wd00_4 a0 a0_row z0_owedEach z0_down z0_law a0_row cyI f0_row) : va_W))) (va_A (wd00_4 a0 a0_row z0_owedEach z0_down z0_law a0_row cyI f0_row) sz)) 0 0 (va_A (wd00_4 a0 a0_row z0_owedEach z0_down z0_law a0_row cyI f0_row) sz)) {p : Program} {l : Launch} {e : Env} {s : State} {m : MethodId} {args : Array Value} {below : List Frame} {meth : Method} {c : Code} {A : Nat → Prop} (dC : Nat → ClassId) (dI : Nat → Nat → Nat) (cyB cyI cyJ cyP : ClassId) (a0 a0_row : Nat) (z0_owedEach : Value) (z0_down : Value) (z0_law : Value) (f0_row : Nat → Int32) (Q : Int32 → Prop) (K22 : Int32 → Int32 → Int32 → Int32 → Int32 → Int32 → Prop) (hK22 : ∀ (H : Heap) (locs : List Loc) (ls : Array Slot) (l1 : Int32) (l2 : Int32) (l3 : Int32) (l4 : Int32) (l5 : Int32) (l6 : Int32), va_P (dC, dI) vwCl (wd00_4 a0 a0_row z0_owedEach z0_down z0_law a0_row cyI f0_row) H → va_D A (wd00_4 a0 a0_row z0_owedEach z0_down z0_law a0_row cyI f0_row) → va_S A s.heap H locs → lv_has ls 11 [(0, .ref a0), (1, .int l1), (2, .int l2), (3, .int l3), (4, .int l4), (5, .int l5), (6, .int l6)] → K22 l1 l2 l3 l4 l5 l6 → W p l e (headSpec wsX10_ordersWon ({ frames := fr + 1, cells := 0, slots := 0, locals := lo + 30 })).room s m args below meth c H locs 0 0 (MQ below (va_Qi (fun (r : Int32) (_ : Unit) => Q r ) (cB (dC, dI) (kT cyB cyI cyJ cyP) A (fun u : Unit => ((wd00_4 a0 a0_row z0_owedEach z0_down z0_law a0_row cyI f0_row) : va_W))) A) args s 0 0 A) (F0 m 22 ls [])) (C0 : cfx p s m args meth c cX10_ordersWon (some .int) wsX10_ordersWon RX10 11 A (dC, dI) (kT cyB cyI cyJ cyP)) : ∀ (H : Heap) (locs : List Loc) (ls : Array Slot) (l1 : Int32) (l2 : Int32) (l3 : Int32) (l4 : Int32) (l5 : Int32) (l6 : Int32) (l7 : Int32) (l8 : Int32) (s0 : Int32), va_P (dC, dI) vwCl (wd00_4 a0 a0_row z0_owedEach z0_down z0_law a0_row cyI f0_row) H → va_D A (wd00_4 a0 a0_row z0_owedEach z0_down z0_law a0_row cyI f0_row) → va_S A s.heap H locs → lv_has ls 11 [(0, .ref a0), (1, .int l1), (2, .int l2), (3, .int l3), (4, .int l4), (5, .int l5), (6, .int l6), (7, .int l7), (8, .int l8)] → wb_X10_ordersWon_g_71 RS f0_row Q K22 l1 l2 l3 l4 l5 l6 l7 l8 s0 → W p l e (headSpec wsX10_ordersWon ({ frames := fr + 1, cells := 0, slots := 0, locals := lo + 30 })).room s m args below meth c H locs 0 0 (MQ below (va_Qi (fun (r : Int32) (_ : Unit) => Q r ) (cB (dC, dI) (kT cyB cyI cyJ cyP) A (fun u : Unit => ((wd00_4 a0 a0_row z0_owedEach z0_down z0_law a0_row cyI f0_row) : va_W))) A) args s 0 0 A) (F0 m 71 ls [.int s0]) := by
  obtain ⟨hx, hb, hr, hts, hown, hlocks, hml, hA, hK, hNw⟩ := id C0
  intro H locs ls l1 l2 l3 l4 l5 l6 l7 l8 s0 hP hD hS hl hw
  refine lv_istore (lv' := [(9, .int s0), (0, .ref a0), (1, .int l1), (2, .int l2), (3, .int l3), (4, .int l4), (5, .int l5), (6, .int l6), (7, .int l7), (8, .int l8)]) hx hb (dt_of tkX10_ordersWon_k62 4 rfl) hl (by decide) rfl (fun ls hl => ?_)
  refine lv_iconst (v := 0) hx hb (dt_of tkX10_ordersWon_k62 5 rfl) (by decide) ?_
  refine lv_iload hx hb (dt_of tkX10_ordersWon_k62 6 rfl) (lv_at hl 9 rfl) ?_
  refine lv_if_eq (tgt := 83) hx hb (dt_of tkX10_ordersWon_k62 7 rfl) (by decide) (fun c10 => ?_) (fun c10 => ?_)
  · have hw := hw.1 c10
    refine lv_iload hx hb (dt_of tkX10_ordersWon_k62 10 rfl) (lv_at hl 8 rfl) ?_
    exact kb_X10_ordersWon_g_85 RS fr lo hRw dC dI cyB cyI cyJ cyP a0 a0_row z0_owedEach z0_down z0_law f0_row Q K22 hK22 C0 _ _ _ l1 l2 l3 l4 l5 l6 s0 0 l7 hP hD hS (lv_sub hl [1, 2, 3, 4, 5, 6, 7, 0] rfl) hw
  · have hw := hw.2 c10
    refine lv_iload_n hx hb (dt_of tkX10_ordersWon_k62 8 rfl) rfl (lv_at hl 4 rfl) ?_
    refine lv_goto (tgt := 85) hx hb (dt_of tkX10_ordersWon_k62 9 rfl) (by decide) ?_
    exact kb_X10_ordersWon_g_85 RS fr lo hRw dC dI cyB cyI cyJ cyP a0 a0_row z0_owedEach z0_down z0_law f0_row Q K22 hK22 C0 _ _ _ l1 l2 l3 l4 l5 l6 s0 0 l3 hP hD hS (lv_sub hl [1, 2, 3, 4, 5, 6, 7, 0] rfl) hw
set_option maxHeartbeats 4000000 in
set_option maxRecDepth 100000 in
theorem kb_X10_ordersWon_g_58 (RS : (Nat → Int32) → Int32 → Int32 → Int32 → Int32 → (Int32 → Prop) → Prop) (fr lo : Nat) (hRw : ∀ (l : Launch) (dC : Nat → ClassId) (dI : Nat → Nat → Nat) (cyB cyI cyJ cyP : ClassId) (a0 a0_row : Nat) (sz : Nat) (z0_owedEach : Value) (z0_down : Value) (z0_law : Value) (f0_row : Nat → Int32) (p1 : Int32) (p2 : Int32) (p3 : Int32) (p4 : Int32) {Q : Int32 → Prop} (hw : RS f0_row  p1 p2 p3 p4 Q), Met l yX10_ordersWon wsX10_ordersWon ({ frames := fr, cells := 0, slots := 0, locals := lo }) (va_Pc [.ref a0, .int p1, .int p2, .int p3, .int p4] (cPc (dC, dI) (kT cyB cyI cyJ cyP) (wd00_4 a0 a0_row z0_owedEach z0_down z0_law a0_row cyI f0_row) sz)) (va_Qi (fun (r : Int32) (_ : Unit) => Q r ) (cB (dC, dI) (kT cyB cyI cyJ cyP) (va_A (wd00_4 a0 a0_row z0_owedEach z0_down z0_law a0_row cyI f0_row) sz) (fun u : Unit => ((wd00_4 a0 a0_row z0_owedEach z0_down z0_law a0_row cyI f0_row) : va_W))) (va_A (wd00_4 a0 a0_row z0_owedEach z0_down z0_law a0_row cyI f0_row) sz)) 0 0 (va_A (wd00_4 a0 a0_row z0_owedEach z0_down z0_law a0_row cyI f0_row) sz)) {p : Program} {l : Launch} {e : Env} {s : State} {m : MethodId} {args : Array Value} {below : List Frame} {meth : Method} {c : Code} {A : Nat → Prop} (dC : Nat → ClassId) (dI : Nat → Nat → Nat) (cyB cyI cyJ cyP : ClassId) (a0 a0_row : Nat) (z0_owedEach : Value) (z0_down : Value) (z0_law : Value) (f0_row : Nat → Int32) (Q : Int32 → Prop) (K22 : Int32 → Int32 → Int32 → Int32 → Int32 → Int32 → Prop) (hK22 : ∀ (H : Heap) (locs : List Loc) (ls : Array Slot) (l1 : Int32) (l2 : Int32) (l3 : Int32) (l4 : Int32) (l5 : Int32) (l6 : Int32), va_P (dC, dI) vwCl (wd00_4 a0 a0_row z0_owedEach z0_down z0_law a0_row cyI f0_row) H → va_D A (wd00_4 a0 a0_row z0_owedEach z0_down z0_law a0_row cyI f0_row) → va_S A s.heap H locs → lv_has ls 11 [(0, .ref a0), (1, .int l1), (2, .int l2), (3, .int l3), (4, .int l4), (5, .int l5), (6, .int l6)] → K22 l1 l2 l3 l4 l5 l6 → W p l e (headSpec wsX10_ordersWon ({ frames := fr + 1, cells := 0, slots := 0, locals := lo + 30 })).room s m args below meth c H locs 0 0 (MQ below (va_Qi (fun (r : Int32) (_ : Unit) => Q r ) (cB (dC, dI) (kT cyB cyI cyJ cyP) A (fun u : Unit => ((wd00_4 a0 a0_row z0_owedEach z0_down z0_law a0_row cyI f0_row) : va_W))) A) args s 0 0 A) (F0 m 22 ls [])) (C0 : cfx p s m args meth c cX10_ordersWon (some .int) wsX10_ordersWon RX10 11 A (dC, dI) (kT cyB cyI cyJ cyP)) : ∀ (H : Heap) (locs : List Loc) (ls : Array Slot) (l1 : Int32) (l2 : Int32) (l3 : Int32) (l4 : Int32) (l5 : Int32) (l6 : Int32) (l7 : Int32) (s0 : Int32), va_P (dC, dI) vwCl (wd00_4 a0 a0_row z0_owedEach z0_down z0_law a0_row cyI f0_row) H → va_D A (wd00_4 a0 a0_row z0_owedEach z0_down z0_law a0_row cyI f0_row) → va_S A s.heap H locs → lv_has ls 11 [(0, .ref a0), (1, .int l1), (2, .int l2), (3, .int l3), (4, .int l4), (5, .int l5), (6, .int l6), (7, .int l7)] → wb_X10_ordersWon_g_58 RS f0_row Q K22 l1 l2 l3 l4 l5 l6 l7 s0 → W p l e (headSpec wsX10_ordersWon ({ frames := fr + 1, cells := 0, slots := 0, locals := lo + 30 })).room s m args below meth c H locs 0 0 (MQ below (va_Qi (fun (r : Int32) (_ : Unit) => Q r ) (cB (dC, dI) (kT cyB cyI cyJ cyP) A (fun u : Unit => ((wd00_4 a0 a0_row z0_owedEach z0_down z0_law a0_row cyI f0_row) : va_W))) A) args s 0 0 A) (F0 m 58 ls [.int s0]) := by
  obtain ⟨hx, hb, hr, hts, hown, hlocks, hml, hA, hK, hNw⟩ := id C0
  intro H locs ls l1 l2 l3 l4 l5 l6 l7 s0 hP hD hS hl hw
  refine lv_istore (lv' := [(8, .int s0), (0, .ref a0), (1, .int l1), (2, .int l2), (3, .int l3), (4, .int l4), (5, .int l5), (6, .int l6), (7, .int l7)]) hx hb (dt_of tkX10_ordersWon_k29 14 rfl) hl (by decide) rfl (fun ls hl => ?_)
  refine lv_iload hx hb (dt_of tkX10_ordersWon_k29 15 rfl) (lv_at hl 0 rfl) ?_
  refine lv_if_eq (tgt := 69) hx hb (dt_of tkX10_ordersWon_k62 0 rfl) (by decide) (fun c9 => ?_) (fun c9 => ?_)
  · have hw := hw.1 c9
    refine lv_iload hx hb (dt_of tkX10_ordersWon_k62 3 rfl) (lv_at hl 7 rfl) ?_
    exact kb_X10_ordersWon_g_71 RS fr lo hRw dC dI cyB cyI cyJ cyP a0 a0_row z0_owedEach z0_down z0_law f0_row Q K22 hK22 C0 _ _ _ l1 l2 l3 l4 l5 l6 l7 s0 l6 hP hD hS (lv_sub hl [1, 2, 3, 4, 5, 6, 7, 8, 0] rfl) hw
  · have hw := hw.2 c9
    refine lv_iload_n hx hb (dt_of tkX10_ordersWon_k62 1 rfl) rfl (lv_at hl 3 rfl) ?_
    refine lv_goto (tgt := 71) hx hb (dt_of tkX10_ordersWon_k62 2 rfl) (by decide) ?_
    exact kb_X10_ordersWon_g_71 RS fr lo hRw dC dI cyB cyI cyJ cyP a0 a0_row z0_owedEach z0_down z0_law f0_row Q K22 hK22 C0 _ _ _ l1 l2 l3 l4 l5 l6 l7 s0 l2 hP hD hS (lv_sub hl [1, 2, 3, 4, 5, 6, 7, 8, 0] rfl) hw
set_option maxHeartbeats 4000000 in
set_option maxRecDepth 100000 in
theorem kl_X10_ordersWon_g_22 (RS : (Nat → Int32) → Int32 → Int32 → Int32 → Int32 → (Int32 → Prop) → Prop) (fr lo : Nat) (hRw : ∀ (l : Launch) (dC : Nat → ClassId) (dI : Nat → Nat → Nat) (cyB cyI cyJ cyP : ClassId) (a0 a0_row : Nat) (sz : Nat) (z0_owedEach : Value) (z0_down : Value) (z0_law : Value) (f0_row : Nat → Int32) (p1 : Int32) (p2 : Int32) (p3 : Int32) (p4 : Int32) {Q : Int32 → Prop} (hw : RS f0_row  p1 p2 p3 p4 Q), Met l yX10_ordersWon wsX10_ordersWon ({ frames := fr, cells := 0, slots := 0, locals := lo }) (va_Pc [.ref a0, .int p1, .int p2, .int p3, .int p4] (cPc (dC, dI) (kT cyB cyI cyJ cyP) (wd00_4 a0 a0_row z0_owedEach z0_down z0_law a0_row cyI f0_row) sz)) (va_Qi (fun (r : Int32) (_ : Unit) => Q r ) (cB (dC, dI) (kT cyB cyI cyJ cyP) (va_A (wd00_4 a0 a0_row z0_owedEach z0_down z0_law a0_row cyI f0_row) sz) (fun u : Unit => ((wd00_4 a0 a0_row z0_owedEach z0_down z0_law a0_row cyI f0_row) : va_W))) (va_A (wd00_4 a0 a0_row z0_owedEach z0_down z0_law a0_row cyI f0_row) sz)) 0 0 (va_A (wd00_4 a0 a0_row z0_owedEach z0_down z0_law a0_row cyI f0_row) sz)) {p : Program} {l : Launch} {e : Env} {s : State} {m : MethodId} {args : Array Value} {below : List Frame} {meth : Method} {c : Code} {A : Nat → Prop} (dC : Nat → ClassId) (dI : Nat → Nat → Nat) (cyB cyI cyJ cyP : ClassId) (a0 a0_row : Nat) (z0_owedEach : Value) (z0_down : Value) (z0_law : Value) (f0_row : Nat → Int32) (Q : Int32 → Prop)  (C0 : cfx p s m args meth c cX10_ordersWon (some .int) wsX10_ordersWon RX10 11 A (dC, dI) (kT cyB cyI cyJ cyP)) : ∀ (n : Nat) (H : Heap) (locs : List Loc) (ls : Array Slot) (l1 : Int32) (l2 : Int32) (l3 : Int32) (l4 : Int32) (l5 : Int32) (l6 : Int32), va_P (dC, dI) vwCl (wd00_4 a0 a0_row z0_owedEach z0_down z0_law a0_row cyI f0_row) H → va_D A (wd00_4 a0 a0_row z0_owedEach z0_down z0_law a0_row cyI f0_row) → va_S A s.heap H locs → lv_has ls 11 [(0, .ref a0), (1, .int l1), (2, .int l2), (3, .int l3), (4, .int l4), (5, .int l5), (6, .int l6)] → wl_X10_ordersWon_g_22 RS f0_row Q  n l1 l2 l3 l4 l5 l6 → W p l e (headSpec wsX10_ordersWon ({ frames := fr + 1, cells := 0, slots := 0, locals := lo + 30 })).room s m args below meth c H locs 0 0 (MQ below (va_Qi (fun (r : Int32) (_ : Unit) => Q r ) (cB (dC, dI) (kT cyB cyI cyJ cyP) A (fun u : Unit => ((wd00_4 a0 a0_row z0_owedEach z0_down z0_law a0_row cyI f0_row) : va_W))) A) args s 0 0 A) (F0 m 22 ls []) := by
  obtain ⟨hx, hb, hr, hts, hown, hlocks, hml, hA, hK, hNw⟩ := id C0
  intro n
  induction n with
  | zero => intro H locs ls l1 l2 l3 l4 l5 l6 hP hD hS hl hw; exact False.elim hw
  | succ n ih =>
    intro H locs ls l1 l2 l3 l4 l5 l6 hP hD hS hl hw
    refine lv_iload hx hb (dt_of tkX10_ordersWon_k0 13 rfl) (lv_at hl 6 rfl) ?_
    refine lv_bipush (v := 6) hx hb (dt_of tkX10_ordersWon_k0 14 rfl) (by decide) ?_
    refine lv_icmp_ge (tgt := 119) hx hb (dt_of tkX10_ordersWon_k0 15 rfl) (by decide) (fun c3 => ?_) (fun c3 => ?_)
    · have hw := hw.1 c3
      refine lv_iload hx hb (dt_of tkX10_ordersWon_k94 14 rfl) (lv_at hl 5 rfl) ?_
      exact ((W.iret (v := l5) hx hb hr (fun t ht hW => ⟨⟨l5, (), rfl, hw, by rw [ht]; exact hP, va_K.moved hW.alike hK, hD⟩, hS.F ht⟩) hS.2.2 (dt_of tkX10_ordersWon_k94 15 rfl)))
    · have hw := hw.2 c3
      refine lv_iload hx hb (dt_of tkX10_ordersWon_k29 0 rfl) (lv_at hl 4 rfl) ?_
      refine lv_iload hx hb (dt_of tkX10_ordersWon_k29 1 rfl) (lv_at hl 6 rfl) ?_
      obtain ⟨hCc, hPc, hDc, hFc⟩ := va_pick (ws' := []) hP hD hS hA [] (by decide +kernel) rfl
      refine va_calli (va_runS (As := [.int l4, .int l6]) (rest := []) ⟨hx, hb, hml, hown, hts⟩ (ck_X10_holds l dC dI cyB cyI cyJ cyP  H.size    l4 l6 hw) (va_cwS 2 hts gX10_ordersWon_X10_holds rfl rfl rfl (by decide +kernel) ⟨(by first | exact Nat.le_of_ble_eq_true rfl | (simp only [headSpec]; omega) | omega), (by first | exact Nat.le_of_ble_eq_true rfl | (simp only [headSpec]; omega) | omega)⟩) ⟨cPc_blind, cPc_pre hPc hK hDc hNw⟩ rfl rfl hl.1 rfl (lv_room (Nat.le_of_ble_eq_true rfl)) (dt_of tkX10_ordersWon_k29 2 rfl) ⟨(by first | exact Nat.le_of_ble_eq_true rfl | (simp only [headSpec]; omega) | omega), (by first | exact Nat.le_of_ble_eq_true rfl | (simp only [headSpec]; omega) | omega)⟩) hS (fun q _ h => hFc q h) hFc (fun r4 u t H1 locs ht hvm hw hB hz1 hk1 hS => ?_)
      obtain ⟨hP1, hK1, hD1⟩ := hB
      rw [ht] at hP1
      obtain ⟨hP, hD⟩ := va_joinI (wr := (wd00_4 a0 a0_row z0_owedEach z0_down z0_law a0_row cyI f0_row)) (w1 := []) (wn := (wd00_4 a0 a0_row z0_owedEach z0_down z0_law a0_row cyI f0_row)) hP hD [] [0, 1] hCc rfl (by decide +kernel) (by decide +kernel) rfl hk1 hFc hP1 hD1
      generalize H1 = H at hP hS ⊢
      refine lv_if_eq (tgt := 113) hx hb (dt_of tkX10_ordersWon_k29 3 rfl) (by decide) (fun c5 => ?_) (fun c5 => ?_)
      · have hw := hw.1 c5
        exact kb_X10_ordersWon_g_113 RS fr lo hRw dC dI cyB cyI cyJ cyP a0 a0_row z0_owedEach z0_down z0_law f0_row Q (wl_X10_ordersWon_g_22 RS f0_row Q  n) ih C0 _ _ _ l1 l2 l3 l4 l5 l6 hP hD hS (lv_sub hl [0, 1, 2, 3, 4, 5, 6] rfl) hw
      · have hw := hw.2 c5
        refine lv_aload_n hx hb (dt_of tkX10_ordersWon_k29 4 rfl) rfl (lv_at hl 0 rfl) ?_
        refine lv_iload hx hb (dt_of tkX10_ordersWon_k29 5 rfl) (lv_at hl 6 rfl) ?_
        obtain ⟨hCc, hPc, hDc, hFc⟩ := va_pick (ws' := (wd00_4 a0 a0_row z0_owedEach z0_down z0_law a0_row cyI f0_row)) hP hD hS hA [0, 1] (by decide +kernel) rfl
        refine va_calli (va_runV (As := [.int l6]) (rest := []) ⟨hx, hb, hml, hown, hts⟩ (ck_X1_strong l dC dI cyB cyI cyJ cyP a0 a0_row H.size (z0_owedEach) (z0_down) (z0_law) f0_row  l6 hw) (cwV 1 hts gX10_ordersWon_X1_strong rfl rfl rfl (by decide +kernel) ⟨(by first | exact Nat.le_of_ble_eq_true rfl | (simp only [headSpec]; omega) | omega), (by first | exact Nat.le_of_ble_eq_true rfl | (simp only [headSpec]; omega) | omega)⟩) ⟨cPc_blind, va_recv (q := (RX1, TX1, 4)) hK hPc (ci := 1) (q0 := 0) rfl rfl, cPc_pre hPc hK hDc hNw⟩ rfl rfl hl.1 rfl (lv_room (Nat.le_of_ble_eq_true rfl)) (dt_of tkX10_ordersWon_k29 6 rfl) ⟨(by first | exact Nat.le_of_ble_eq_true rfl | (simp only [headSpec]; omega) | omega), (by first | exact Nat.le_of_ble_eq_true rfl | (simp only [headSpec]; omega) | omega)⟩) hS (fun q _ h => hFc q h) hFc (fun r6 u t H1 locs ht hvm hw hB hz1 hk1 hS => ?_)
        obtain ⟨hP1, hK1, hD1⟩ := hB
        rw [ht] at hP1
        obtain ⟨hP, hD⟩ := va_joinI (wr := []) (w1 := (wd00_4 a0 a0_row z0_owedEach z0_down z0_law a0_row cyI f0_row)) (wn := (wd00_4 a0 a0_row z0_owedEach z0_down z0_law a0_row cyI f0_row)) hP hD [0, 1] [] hCc rfl (by decide +kernel) (by decide +kernel) rfl hk1 hFc hP1 hD1
        generalize H1 = H at hP hS ⊢
        refine lv_istore (lv' := [(7, .int r6), (0, .ref a0), (1, .int l1), (2, .int l2), (3, .int l3), (4, .int l4), (5, .int l5), (6, .int l6)]) hx hb (dt_of tkX10_ordersWon_k29 7 rfl) hl (by decide) rfl (fun ls hl => ?_)
        refine lv_iload_n hx hb (dt_of tkX10_ordersWon_k29 8 rfl) rfl (lv_at hl 4 rfl) ?_
        refine lv_iload hx hb (dt_of tkX10_ordersWon_k29 9 rfl) (lv_at hl 0 rfl) ?_
        refine lv_icmp_lt (tgt := 57) hx hb (dt_of tkX10_ordersWon_k29 10 rfl) (by decide) (fun c7 => ?_) (fun c7 => ?_)
        · have hw := hw.1 c7
          refine lv_iconst (v := 0) hx hb (dt_of tkX10_ordersWon_k29 13 rfl) (by decide) ?_
          exact kb_X10_ordersWon_g_58 RS fr lo hRw dC dI cyB cyI cyJ cyP a0 a0_row z0_owedEach z0_down z0_law f0_row Q (wl_X10_ordersWon_g_22 RS f0_row Q  n) ih C0 _ _ _ l1 l2 l3 l4 l5 l6 r6 0 hP hD hS (lv_sub hl [1, 2, 3, 4, 5, 6, 7, 0] rfl) hw
        · have hw := hw.2 c7
          refine lv_iconst (v := 1) hx hb (dt_of tkX10_ordersWon_k29 11 rfl) (by decide) ?_
          refine lv_goto (tgt := 58) hx hb (dt_of tkX10_ordersWon_k29 12 rfl) (by decide) ?_
          exact kb_X10_ordersWon_g_58 RS fr lo hRw dC dI cyB cyI cyJ cyP a0 a0_row z0_owedEach z0_down z0_law f0_row Q (wl_X10_ordersWon_g_22 RS f0_row Q  n) ih C0 _ _ _ l1 l2 l3 l4 l5 l6 r6 1 hP hD hS (lv_sub hl [1, 2, 3, 4, 5, 6, 7, 0] rfl) hw
set_option maxHeartbeats 4000000 in
set_option maxRecDepth 100000 in
theorem ck_X10_ordersWon_g (RS : (Nat → Int32) → Int32 → Int32 → Int32 → Int32 → (Int32 → Prop) → Prop) (fr lo : Nat) (hRw : ∀ (l : Launch) (dC : Nat → ClassId) (dI : Nat → Nat → Nat) (cyB cyI cyJ cyP : ClassId) (a0 a0_row : Nat) (sz : Nat) (z0_owedEach : Value) (z0_down : Value) (z0_law : Value) (f0_row : Nat → Int32) (p1 : Int32) (p2 : Int32) (p3 : Int32) (p4 : Int32) {Q : Int32 → Prop} (hw : RS f0_row  p1 p2 p3 p4 Q), Met l yX10_ordersWon wsX10_ordersWon ({ frames := fr, cells := 0, slots := 0, locals := lo }) (va_Pc [.ref a0, .int p1, .int p2, .int p3, .int p4] (cPc (dC, dI) (kT cyB cyI cyJ cyP) (wd00_4 a0 a0_row z0_owedEach z0_down z0_law a0_row cyI f0_row) sz)) (va_Qi (fun (r : Int32) (_ : Unit) => Q r ) (cB (dC, dI) (kT cyB cyI cyJ cyP) (va_A (wd00_4 a0 a0_row z0_owedEach z0_down z0_law a0_row cyI f0_row) sz) (fun u : Unit => ((wd00_4 a0 a0_row z0_owedEach z0_down z0_law a0_row cyI f0_row) : va_W))) (va_A (wd00_4 a0 a0_row z0_owedEach z0_down z0_law a0_row cyI f0_row) sz)) 0 0 (va_A (wd00_4 a0 a0_row z0_owedEach z0_down z0_law a0_row cyI f0_row) sz)) (l : Launch) (dC : Nat → ClassId) (dI : Nat → Nat → Nat) (cyB cyI cyJ cyP : ClassId) (a0 a0_row : Nat) (sz : Nat) (z0_owedEach : Value) (z0_down : Value) (z0_law : Value) (f0_row : Nat → Int32)  (p1 : Int32) (p2 : Int32) (p3 : Int32) (p4 : Int32) {Q : Int32 → Prop} (hw : wq_X10_ordersWon_g RS f0_row  p1 p2 p3 p4 Q) : Met l yX10_ordersWon wsX10_ordersWon ({ frames := fr + 1, cells := 0, slots := 0, locals := lo + 30 }) (va_Pc [.ref a0, .int p1, .int p2, .int p3, .int p4] (cPc (dC, dI) (kT cyB cyI cyJ cyP) (wd00_4 a0 a0_row z0_owedEach z0_down z0_law a0_row cyI f0_row) sz)) (va_Qi (fun (r : Int32) (_ : Unit) => Q r ) (cB (dC, dI) (kT cyB cyI cyJ cyP) (va_A (wd00_4 a0 a0_row z0_owedEach z0_down z0_law a0_row cyI f0_row) sz) (fun u : Unit => ((wd00_4 a0 a0_row z0_owedEach z0_down z0_law a0_row cyI f0_row) : va_W))) (va_A (wd00_4 a0 a0_row z0_owedEach z0_down z0_law a0_row cyI f0_row) sz)) 0 0 (va_A (wd00_4 a0 a0_row z0_owedEach z0_down z0_law a0_row cyI f0_row) sz) := by
  refine Met.ofW (cc := cX10_ordersWon) (maxL := 11) (ret := (some .int)) (by decide) rfl ?_
  intro p e s m args below meth c s₁ B hml hv
  obtain ⟨rfl, hsz, hP, hK, hD0, hNw⟩ := hv
  have hx := B.exec
  have hb := B.bytes
  have hr := B.returns
  have hts := atoms_spec (ws := wsX10_ordersWon) B.pre
  have hown : s.vm.findClass RX10 = some m.cls := findClass_of_methodNamed B.named
  have hlocks := B.notSynchronized
  subst hsz
  have hD := hD0.self (sz := s.heap.size)
  generalize hAe : va_A (wd00_4 a0 a0_row z0_owedEach z0_down z0_law a0_row cyI f0_row) s.heap.size = A at hD ⊢
  have hA : ∀ q : Nat, s.heap.size ≤ q → A q := fun q h => by rw [← hAe]; exact Or.inr h
  have hS : va_S A s.heap s.heap [] := va_S.rf
  have hP : va_P (dC, dI) vwCl (wd00_4 a0 a0_row z0_owedEach z0_down z0_law a0_row cyI f0_row) s.heap := hP
  have hl := lv_entry ([.ref a0, .int p1, .int p2, .int p3, .int p4]) (n := 11) ((by first | exact Nat.le_of_ble_eq_true rfl | (simp only [headSpec]; omega) | omega))
  rw [lg_entry_eq]
  generalize (lg_sl ([.ref a0, .int p1, .int p2, .int p3, .int p4]) ++ List.replicate (11 - (lg_sl ([.ref a0, .int p1, .int p2, .int p3, .int p4])).length) Slot.unset).toArray = ls at hl ⊢
  have hl : lv_has ls 11 [(0, .ref a0), (1, .int p1), (2, .int p2), (3, .int p3), (4, .int p4)] := hl
  have C0 : cfx p s m _ meth c cX10_ordersWon (some .int) wsX10_ordersWon RX10 11 A (dC, dI) (kT cyB cyI cyJ cyP) := ⟨hx, hb, hr, hts, hown, hlocks, hml, hA, hK, hNw⟩
  clear hAe
  obtain ⟨H, hH⟩ : ∃ H, H = s.heap := ⟨_, rfl⟩
  rw [← hH] at hP ⊢
  have hS : va_S A s.heap H [] := by rw [hH]; exact va_S.rf
  have hS := hS
  refine lv_iload hx hb (dt_of tkX10_ordersWon_k0 0 rfl) (lv_at hl 4 rfl) ?_
  refine lv_if_ne (tgt := 16) hx hb (dt_of tkX10_ordersWon_k0 1 rfl) (by decide) (fun c1 => ?_) (fun c1 => ?_)
  · have hw := hw.1 c1
    refine lv_iconst (v := 0) hx hb (dt_of tkX10_ordersWon_k0 9 rfl) (by decide) ?_
    refine lv_istore (lv' := [(5, .int 0), (0, .ref a0), (1, .int p1), (2, .int p2), (3, .int p3), (4, .int p4)]) hx hb (dt_of tkX10_ordersWon_k0 10 rfl) hl (by decide) rfl (fun ls hl => ?_)
    refine lv_iconst (v := 0) hx hb (dt_of tkX10_ordersWon_k0 11 rfl) (by decide) ?_
    refine lv_istore (lv' := [(6, .int 0), (5, .int 0), (0, .ref a0), (1, .int p1), (2, .int p2), (3, .int p3), (4, .int p4)]) hx hb (dt_of tkX10_ordersWon_k0 12 rfl) hl (by decide) rfl (fun ls hl => ?_)
    obtain ⟨n9, hw⟩ := hw
    exact kl_X10_ordersWon_g_22 RS fr lo hRw dC dI cyB cyI cyJ cyP a0 a0_row z0_owedEach z0_down z0_law f0_row Q  C0 n9 _ _ _ p1 p2 p3 p4 0 0 hP hD hS (lv_sub hl [2, 3, 4, 5, 6, 1, 0] rfl) hw
  · have hw := hw.2 c1
    refine lv_iload_n hx hb (dt_of tkX10_ordersWon_k0 2 rfl) rfl (lv_at hl 2 rfl) ?_
    refine lv_iload_n hx hb (dt_of tkX10_ordersWon_k0 3 rfl) rfl (lv_at hl 1 rfl) ?_
    refine lv_icmp_ne (tgt := 14) hx hb (dt_of tkX10_ordersWon_k0 4 rfl) (by decide) (fun c2 => ?_) (fun c2 => ?_)
    · have hw := hw.1 c2
      refine lv_iconst (v := 0) hx hb (dt_of tkX10_ordersWon_k0 7 rfl) (by decide) ?_
      exact ((W.iret (v := 0) hx hb hr (fun t ht hW => ⟨⟨0, (), rfl, hw, by rw [ht]; exact hP, va_K.moved hW.alike hK, hD⟩, hS.F ht⟩) hS.2.2 (dt_of tkX10_ordersWon_k0 8 rfl)))
    · have hw := hw.2 c2
      refine lv_iconst (v := 1) hx hb (dt_of tkX10_ordersWon_k0 5 rfl) (by decide) ?_
      refine lv_goto (tgt := 15) hx hb (dt_of tkX10_ordersWon_k0 6 rfl) (by decide) ?_
      exact ((W.iret (v := 1) hx hb hr (fun t ht hW => ⟨⟨1, (), rfl, hw, by rw [ht]; exact hP, va_K.moved hW.alike hK, hD⟩, hS.F ht⟩) hS.2.2 (dt_of tkX10_ordersWon_k0 8 rfl)))
theorem ck_X10_ordersWon_r1 (l : Launch) (dC : Nat → ClassId) (dI : Nat → Nat → Nat) (cyB cyI cyJ cyP : ClassId) (a0 a0_row : Nat) (sz : Nat) (z0_owedEach : Value) (z0_down : Value) (z0_law : Value) (f0_row : Nat → Int32) (p1 : Int32) (p2 : Int32) (p3 : Int32) (p4 : Int32) {Q : Int32 → Prop} (hw : wq_X10_ordersWon_r1 f0_row  p1 p2 p3 p4 Q) : Met l yX10_ordersWon wsX10_ordersWon ({ frames := 2, cells := 0, slots := 0, locals := 62 }) (va_Pc [.ref a0, .int p1, .int p2, .int p3, .int p4] (cPc (dC, dI) (kT cyB cyI cyJ cyP) (wd00_4 a0 a0_row z0_owedEach z0_down z0_law a0_row cyI f0_row) sz)) (va_Qi (fun (r : Int32) (_ : Unit) => Q r ) (cB (dC, dI) (kT cyB cyI cyJ cyP) (va_A (wd00_4 a0 a0_row z0_owedEach z0_down z0_law a0_row cyI f0_row) sz) (fun u : Unit => ((wd00_4 a0 a0_row z0_owedEach z0_down z0_law a0_row cyI f0_row) : va_W))) (va_A (wd00_4 a0 a0_row z0_owedEach z0_down z0_law a0_row cyI f0_row) sz)) 0 0 (va_A (wd00_4 a0 a0_row z0_owedEach z0_down z0_law a0_row cyI f0_row) sz) :=
  ck_X10_ordersWon_g wq_X10_ordersWon_r0 1 32 ck_X10_ordersWon_r0 l dC dI cyB cyI cyJ cyP a0 a0_row sz z0_owedEach z0_down z0_law f0_row p1 p2 p3 p4 hw
theorem ck_X10_ordersWon_r2 (l : Launch) (dC : Nat → ClassId) (dI : Nat → Nat → Nat) (cyB cyI cyJ cyP : ClassId) (a0 a0_row : Nat) (sz : Nat) (z0_owedEach : Value) (z0_down : Value) (z0_law : Value) (f0_row : Nat → Int32) (p1 : Int32) (p2 : Int32) (p3 : Int32) (p4 : Int32) {Q : Int32 → Prop} (hw : wq_X10_ordersWon_r2 f0_row  p1 p2 p3 p4 Q) : Met l yX10_ordersWon wsX10_ordersWon ({ frames := 3, cells := 0, slots := 0, locals := 92 }) (va_Pc [.ref a0, .int p1, .int p2, .int p3, .int p4] (cPc (dC, dI) (kT cyB cyI cyJ cyP) (wd00_4 a0 a0_row z0_owedEach z0_down z0_law a0_row cyI f0_row) sz)) (va_Qi (fun (r : Int32) (_ : Unit) => Q r ) (cB (dC, dI) (kT cyB cyI cyJ cyP) (va_A (wd00_4 a0 a0_row z0_owedEach z0_down z0_law a0_row cyI f0_row) sz) (fun u : Unit => ((wd00_4 a0 a0_row z0_owedEach z0_down z0_law a0_row cyI f0_row) : va_W))) (va_A (wd00_4 a0 a0_row z0_owedEach z0_down z0_law a0_row cyI f0_row) sz)) 0 0 (va_A (wd00_4 a0 a0_row z0_owedEach z0_down z0_law a0_row cyI f0_row) sz) :=
  ck_X10_ordersWon_g wq_X10_ordersWon_r1 2 62 ck_X10_ordersWon_r1 l dC dI cyB cyI cyJ cyP a0 a0_row sz z0_owedEach z0_down z0_law f0_row p1 p2 p3 p4 hw
theorem ck_X10_ordersWon_r3 (l : Launch) (dC : Nat → ClassId) (dI : Nat → Nat → Nat) (cyB cyI cyJ cyP : ClassId) (a0 a0_row : Nat) (sz : Nat) (z0_owedEach : Value) (z0_down : Value) (z0_law : Value) (f0_row : Nat → Int32) (p1 : Int32) (p2 : Int32) (p3 : Int32) (p4 : Int32) {Q : Int32 → Prop} (hw : wq_X10_ordersWon_r3 f0_row  p1 p2 p3 p4 Q) : Met l yX10_ordersWon wsX10_ordersWon ({ frames := 4, cells := 0, slots := 0, locals := 122 }) (va_Pc [.ref a0, .int p1, .int p2, .int p3, .int p4] (cPc (dC, dI) (kT cyB cyI cyJ cyP) (wd00_4 a0 a0_row z0_owedEach z0_down z0_law a0_row cyI f0_row) sz)) (va_Qi (fun (r : Int32) (_ : Unit) => Q r ) (cB (dC, dI) (kT cyB cyI cyJ cyP) (va_A (wd00_4 a0 a0_row z0_owedEach z0_down z0_law a0_row cyI f0_row) sz) (fun u : Unit => ((wd00_4 a0 a0_row z0_owedEach z0_down z0_law a0_row cyI f0_row) : va_W))) (va_A (wd00_4 a0 a0_row z0_owedEach z0_down z0_law a0_row cyI f0_row) sz)) 0 0 (va_A (wd00_4 a0 a0_row z0_owedEach z0_down z0_law a0_row cyI f0_row) sz) :=
  ck_X10_ordersWon_g wq_X10_ordersWon_r2 3 92 ck_X10_ordersWon_r2 l dC dI cyB cyI cyJ cyP a0 a0_row sz z0_owedEach z0_down z0_law f0_row p1 p2 p3 p4 hw
theorem ck_X10_ordersWon_r4 (l : Launch) (dC : Nat → ClassId) (dI : Nat → Nat → Nat) (cyB cyI cyJ cyP : ClassId) (a0 a0_row : Nat) (sz : Nat) (z0_owedEach : Value) (z0_down : Value) (z0_law : Value) (f0_row : Nat → Int32) (p1 : Int32) (p2 : Int32) (p3 : Int32) (p4 : Int32) {Q : Int32 → Prop} (hw : wq_X10_ordersWon_r4 f0_row  p1 p2 p3 p4 Q) : Met l yX10_ordersWon wsX10_ordersWon ({ frames := 5, cells := 0, slots := 0, locals := 152 }) (va_Pc [.ref a0, .int p1, .int p2, .int p3, .int p4] (cPc (dC, dI) (kT cyB cyI cyJ cyP) (wd00_4 a0 a0_row z0_owedEach z0_down z0_law a0_row cyI f0_row) sz)) (va_Qi (fun (r : Int32) (_ : Unit) => Q r ) (cB (dC, dI) (kT cyB cyI cyJ cyP) (va_A (wd00_4 a0 a0_row z0_owedEach z0_down z0_law a0_row cyI f0_row) sz) (fun u : Unit => ((wd00_4 a0 a0_row z0_owedEach z0_down z0_law a0_row cyI f0_row) : va_W))) (va_A (wd00_4 a0 a0_row z0_owedEach z0_down z0_law a0_row cyI f0_row) sz)) 0 0 (va_A (wd00_4 a0 a0_row z0_owedEach z0_down z0_law a0_row cyI f0_row) sz) :=
  ck_X10_ordersWon_g wq_X10_ordersWon_r3 4 122 ck_X10_ordersWon_r3 l dC dI cyB cyI cyJ cyP a0 a0_row sz z0_owedEach z0_down z0_law f0_row p1 p2 p3 p4 hw
theorem ck_X10_ordersWon_r5 (l : Launch) (dC : Nat → ClassId) (dI : Nat → Nat → Nat) (cyB cyI cyJ cyP : ClassId) (a0 a0_row : Nat) (sz : Nat) (z0_owedEach : Value) (z0_down : Value) (z0_law : Value) (f0_row : Nat → Int32) (p1 : Int32) (p2 : Int32) (p3 : Int32) (p4 : Int32) {Q : Int32 → Prop} (hw : wq_X10_ordersWon_r5 f0_row  p1 p2 p3 p4 Q) : Met l yX10_ordersWon wsX10_ordersWon ({ frames := 6, cells := 0, slots := 0, locals := 182 }) (va_Pc [.ref a0, .int p1, .int p2, .int p3, .int p4] (cPc (dC, dI) (kT cyB cyI cyJ cyP) (wd00_4 a0 a0_row z0_owedEach z0_down z0_law a0_row cyI f0_row) sz)) (va_Qi (fun (r : Int32) (_ : Unit) => Q r ) (cB (dC, dI) (kT cyB cyI cyJ cyP) (va_A (wd00_4 a0 a0_row z0_owedEach z0_down z0_law a0_row cyI f0_row) sz) (fun u : Unit => ((wd00_4 a0 a0_row z0_owedEach z0_down z0_law a0_row cyI f0_row) : va_W))) (va_A (wd00_4 a0 a0_row z0_owedEach z0_down z0_law a0_row cyI f0_row) sz)) 0 0 (va_A (wd00_4 a0 a0_row z0_owedEach z0_down z0_law a0_row cyI f0_row) sz) :=
  ck_X10_ordersWon_g wq_X10_ordersWon_r4 5 152 ck_X10_ordersWon_r4 l dC dI cyB cyI cyJ cyP a0 a0_row sz z0_owedEach z0_down z0_law f0_row p1 p2 p3 p4 hw
