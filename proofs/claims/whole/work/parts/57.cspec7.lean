theorem va_last9 : True := trivial
