/** Promises 8 and 9: which acts are STEPS, and that a run cut behind any of them goes on the same. */
public final class StepsTest {
  public static void main(String[] args) {
    counting();
    cutting();
    many();
    Bench.end("StepsTest");
  }

  private static void steps(String text, int want) {
    TableTongue x = Bench.compiled(text);
    Bench.runToEnd(x);
    Bench.due("steps of " + text, x.steps(), want);
  }

  private static void counting() {
    steps("", 1);
    steps(";;;", 1);
    steps("return", 2);
    steps("return 1, 2;", 2);
    steps("x = 1", 2);
    steps("do end", 2);
    steps("do x = 1; y = 2 end", 4);
    steps("if nil then elseif nil then else x = 1 end", 3);
    steps("if nil then x = 1 end", 2);
    steps("while nil do end", 3);
    steps("local i = 0 while i < 2 do i = i + 1 end", 1 + 1 + 1 + 3 + 2);
    steps("while true do break end", 4);
    steps("repeat until true", 3);
    steps("local i = 0 repeat i = i + 1 until i == 2", 1 + 1 + 1 + 4);
    steps("repeat break until true", 3);
    steps("for i = 1, 3 do end", 2 + 4);
    steps("for i = 1, 3 do x = 1 end", 2 + 4 + 3);
    steps("for i = 1, 0 do end", 3);
    steps("for i = 9223372036854775807, 9223372036854775807 do end", 3);
    steps("for i = 1, 2, 0 do end", 2);
    steps("for i = 1, 'a' do end", 2);
    steps("for k in next, {1, 2} do end", 2 + 3);
    steps("for k in nil do end", 3);
    steps("for k in function() end do end", 2 + 1 + 1);
    steps("local function f() end f() f()", 1 + 1 + 2 + 2);
    steps("function f() return end f()", 1 + 1 + 3);
    steps("local f = function() end f()", 1 + 1 + 2);
    steps("print(1) pcall(print)", 3);
    steps("pcall(function() end)", 3);
    steps("local t = setmetatable({}, {__index = function() end}) local x = t.x + t.y", 5);
    steps("part.go(part.new(function() part.stop() end))", 4);
    steps("local p = part.new(function() part.stop() end) part.go(p) part.go(p)", 6);
    steps("setmetatable({}, {__gc = function() end}) collect()", 4);
    steps("x()", 2);
    steps("local x = nil + 1 y = 2", 2);
    steps("function t.x() end", 2);
  }

  private static final String BUSY = "local log = '' local function say(x) log = log .. x end\n"
      + "local m = {__index = function(t, k) say(k) return k .. k end, __gc = function(o) say('g') "
      + "collect() end, __add = function(a, b) say('+') return 5 end, __newindex = function(t, k, v) "
      + "rawset(t, k, v) end, __call = function(self, x) part.stop(x) return x end}\n"
      + "local p = part.new(function(a) for i = 1, 3 do local t = setmetatable({}, m) "
      + "say(t.q) t.w = part.stop(t + i) t(i) end return a end)\n"
      + "for i = 1, 8 do local ok, v = part.go(p, i) say(tostring(v)) if i % 3 == 0 then "
      + "say(collect()) end end\n"
      + "local ok, e = pcall(function() local n = 0 while true do n = n + 1 if n > 3 then error(n) end "
      + "end end) say(e)\n"
      + "local w = setmetatable({}, {__mode = 'k'}) for i = 1, 3 do w[setmetatable({}, m)] = i end "
      + "repeat local n = collect() say(n) until n > 0 print(log)\nreturn log, {}, p";

  /** All that can be seen of an object. */
  private static String seen(TableTongue x) {
    StringBuilder b = new StringBuilder();
    b.append(x.steps()).append(' ').append(Bench.results(x)).append(' ').append(Bench.output(x));
    for (int i = 0; i < 6; i++) {
      b.append(' ').append(x.count(i));
    }
    for (int o = 1; o <= x.count(0); o++) {
      b.append(' ').append(x.object(o, 0)).append(':').append(x.object(o, 1));
    }
    return b.toString();
  }

  private static void cutting() {
    TableTongue whole = Bench.compiled(BUSY);
    Bench.due("whole", whole.run(3000), 0);
    String want = seen(whole);
    TableTongue x = Bench.compiled(BUSY);
    for (int piece = 1; piece < 40; piece++) {
      x.load();
      long steps = 0;
      int status = 2;
      while (status == 2) {
        status = x.run(piece);
        steps += piece;
        if (status == 2) {
          Bench.due("steps", x.steps(), steps);
        }
      }
      Bench.due("cut behind each " + piece, seen(x), want);
    }
    long all = whole.steps();
    for (int first = 1; first < all; first += 7) {
      x.load();
      Bench.due("first", x.run(first), 2);
      TableTongue y = Bench.compiled(BUSY);
      y.run(first);
      Bench.due("cut at " + first, seen(x), seen(y));
      Bench.due("rest", x.run(3000), 0);
      Bench.due("cut behind " + first, seen(x), want);
    }
  }

  /** The machine's stack is no deeper for a deep program, and calls keep nothing. */
  private static void many() {
    TableTongue x = Bench.compiled("local function f(n) if n > 0 then return (f(n - 1)) end end "
        + "local t = {} while true do f(17) t[1] = 'a' .. 'b' end");
    for (int i = 0; i < 500; i++) {
      Bench.due("run", x.run(3000), 2);
    }
    Bench.due("steps", x.steps(), 1500000);
  }
}
