/** Part 1 of the terms, and fault 1: tokens. */
public final class TokensTest {
  public static void main(String[] args) {
    names();
    wholes();
    strings();
    signs();
    blanks();
    Bench.end("TokensTest");
  }

  private static void names() {
    String longest = Bench.times(30, "a");
    Bench.gives(longest + " = 3 return " + longest, "3");
    Bench.faults("x = " + longest + "b", 1, 4);
    Bench.gives("_ = 1 _1Z = 2 return _, _1Z, Andy", "1, 2, nil");
    Bench.gives("andd = 1 End = 2 return andd, End", "1, 2");
    Bench.faults("and = 1", 2, 0);
    Bench.faults("x = a\u00e9", 1, 5);
  }

  private static void wholes() {
    Bench.gives("return 0, 00012, 9223372036854775807", "0, 12, 9223372036854775807");
    Bench.faults("return 9223372036854775808", 1, 7);
    Bench.gives("return 0000000000000000001", "1");
    Bench.faults("return 00000000000000000001", 1, 7);
    Bench.gives("return 0x10, 0xfFfFfFfFfFfFfFfF, 0x8000000000000000, 0x0",
        "16, -1, -9223372036854775808, 0");
    Bench.faults("return 0x", 1, 7);
    Bench.faults("return 0x11111111111111111", 1, 7);
    Bench.faults("return 0X1", 1, 7);
    Bench.faults("return 0x1g", 1, 7);
    Bench.faults("return 1a", 1, 7);
    Bench.faults("return 1_", 1, 7);
    Bench.faults("return 12and 3", 1, 7);
    Bench.gives("return 1..2", "\"12\"");
    Bench.faults("return 1.5", 2, 8);
  }

  private static void strings() {
    Bench.gives("return '', \"'\", '\"', 'a\\\\\\'\\\"'", "\"\", \"'\", \"\"\", \"a\\'\"\"");
    Bench.gives("return '\\n\\t\\0\\65\\066\\2555'", "\"\n\t\u0000AB\u00ff5\"");
    Bench.gives("return '\\1234'", "\"{4\"");
    Bench.gives("return '\u00e9\r-- x'", "\"\u00e9\r-- x\"");
    Bench.faults("return '\\256'", 1, 7);
    Bench.faults("return '\\a'", 1, 7);
    Bench.faults("return 'a\nb'", 1, 7);
    Bench.faults("return 'a", 1, 7);
    Bench.faults("return 'a\\", 1, 7);
    Bench.faults("return 'a\"", 1, 7);
    Bench.compiles("return '" + Bench.times(198, "a") + "'");
    Bench.faults("return '" + Bench.times(201, "a") + "'", 1, 7);
  }

  private static void signs() {
    Bench.faults("x = 6 / 2", 1, 6);
    Bench.faults("x = 6 ! 2", 1, 6);
    Bench.faults("x = @", 1, 4);
    Bench.faults("\u0000", 1, 0);
    Bench.faults("x = 1 \u00ff", 1, 6);
    Bench.faults("x = ....", 2, 7);
    Bench.gives("return 7//2, 7%4, 5&3, 5|3, 5~3, 1<<4, 16>>2, ~0",
        "3, 3, 1, 7, 6, 16, 4, -1");
    Bench.gives("return 1==1, 1~=1, 1<=1, 1>=1, 1<1, 1>1", "true, false, true, true, false, false");
    Bench.faults("return 1 <<= 1", 2, 11);
    Bench.faults("return 1 === 1", 2, 11);
  }

  private static void blanks() {
    Bench.gives("--\nreturn--x\r\n\t1 --", "1");
    Bench.gives("return 1--2", "1");
    Bench.gives("return 3 - -2", "5");
    Bench.gives("return 3--[[\n+ 1", "4");
    Bench.faults("return\u000b1", 1, 6);
    TableTongue x = new TableTongue();
    Bench.feed(x, "\n\n--\n  '");
    Bench.due("compile", x.compile(), -1);
    Bench.due("place", x.fault(0), 7);
    Bench.due("line", x.fault(1), 4);
  }
}
