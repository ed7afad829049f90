theorem zz0 : True := trivial
