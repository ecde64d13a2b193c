theorem zz_zz : True := trivial
