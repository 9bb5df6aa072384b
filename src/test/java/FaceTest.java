/** Promises 1 to 5 and 7 to 9: how a text comes, is judged, loaded and run; wrong inputs. */
public final class FaceTest {
  public static void main(String[] args) {
    newObject();
    feeding();
    wiping();
    compiling();
    faultsStay();
    functions();
    loading();
    running();
    Bench.end("FaceTest");
  }

  private static void nothingIsThere(String when, TableTongue x) {
    Bench.due(when + " load", () -> {
      x.load();
      return 0;
    }, "state");
    Bench.due(when + " run", () -> x.run(1), "state");
    Bench.due(when + " run(0)", () -> x.run(0), "state");
    Bench.due(when + " function", () -> x.function(0, 0), "index");
    Bench.due(when + " steps", x.steps(), 0);
    Bench.due(when + " results", x.results(), 0);
    Bench.due(when + " result", () -> x.result(0, 0), "index");
    Bench.due(when + " resultByte", () -> x.resultByte(0, 0), "index");
    Bench.due(when + " outputs", x.outputs(), 0);
    Bench.due(when + " output", () -> x.output(0), "index");
    for (int what = 0; what < 6; what++) {
      Bench.due(when + " count", x.count(what), 0);
    }
    Bench.due(when + " count(6)", () -> x.count(6), "index");
    Bench.due(when + " count(-1)", () -> x.count(-1), "index");
    Bench.due(when + " object", () -> x.object(1, 0), "index");
    Bench.due(when + " place", () -> x.place(1, 0, 0), "index");
  }

  private static void newObject() {
    Bench.due("NONE", TableTongue.NONE, -1);
    TableTongue x = new TableTongue();
    nothingIsThere("new", x);
    Bench.due("fault(0)", x.fault(0), -1);
    Bench.due("fault(1)", x.fault(1), -1);
    Bench.due("fault(2)", () -> x.fault(2), "index");
    Bench.due("fault(-1)", () -> x.fault(-1), "index");
    Bench.due("wipe of nothing", x.wipe(), 0);
    Bench.due("compile of nothing", x.compile(), 1);
    Bench.due("run of nothing", x.run(3000), 0);
    Bench.due("steps of nothing", x.steps(), 1);
  }

  private static void feeding() {
    TableTongue x = new TableTongue();
    Bench.due("feed 0", () -> x.feed(0, 1), "argument");
    Bench.due("feed 9", () -> x.feed(9, 1), "argument");
    Bench.due("feed -1", () -> x.feed(-1, 1), "argument");
    Bench.due("feed 2^31-1", () -> x.feed(Integer.MAX_VALUE, 1), "argument");
    // "return 7", the lowest byte first; what stands above the n lowest is not taken
    Bench.due("feed 3", x.feed(3, 0x7777777777746572L), 3);
    Bench.due("feed 5", x.feed(5, 0x37_20_6e_72_75L), 8);
    Bench.due("compile", x.compile(), 1);
    Bench.gives("return 7", "7");
    Bench.due("run", Bench.given(x), "7");
    x.feed(1, '1');
    nothingIsThere("fed", x);
    Bench.due("compile", x.compile(), 1);
    Bench.due("run", Bench.given(x), "71");
    Bench.due("a wrong feed leaves all", () -> x.feed(0, 0), "argument");
    Bench.due("results stay", Bench.results(x), "71");
    for (int i = 0; i < 748; i++) {
      x.feed(8, 0x2020202020202020L);
    }
    Bench.due("feed to 5999", x.feed(6, 0x202020202020L), 5999);
    Bench.due("feed to 6001", () -> x.feed(2, 0x2020), "argument");
    Bench.due("feed to 6000", x.feed(1, 0x20), 6000);
    Bench.due("feed to 6001", () -> x.feed(1, 0x20), "argument");
    Bench.due("compile 6000", x.compile(), 1);
    Bench.due("run", Bench.given(x), "71");
    Bench.due("wipe 6000", x.wipe(), 6000);
    TableTongue y = new TableTongue();
    y.feed(8, 0x80FF_27_20_2A_2A_2A_2AL);
    Bench.due("bytes above 127", y.compile(), -2);
  }

  private static void wiping() {
    TableTongue x = Bench.ran("print(1) return 5");
    Bench.due("results", Bench.results(x), "5");
    Bench.due("wipe", x.wipe(), 17);
    nothingIsThere("wiped", x);
    Bench.due("wipe again", x.wipe(), 0);
    Bench.feed(x, "return 6");
    Bench.due("compile", x.compile(), 1);
    Bench.due("after a wipe", Bench.given(x), "6");
  }

  private static void compiling() {
    TableTongue x = Bench.compiled("local function f() end function g() return function() end end");
    Bench.due("functions", x.compile(), 4);
    Bench.due("not yet run", x.steps(), 0);
    Bench.due("made", x.count(0), 3);
    Bench.due("places", x.count(2), 34);
    x.run(3000);
    Bench.due("compile makes anew", x.compile(), 4);
    Bench.due("steps", x.steps(), 0);
    Bench.due("made", x.count(0), 3);
    Bench.feed(x, " end");
    Bench.due("fault 2", x.compile(), -2);
    nothingIsThere("faulty", x);
  }

  private static void faultsStay() {
    TableTongue x = new TableTongue();
    Bench.feed(x, "x = 1\ny = = 2\n");
    Bench.due("compile", x.compile(), -2);
    Bench.due("place", x.fault(0), 10);
    Bench.due("line", x.fault(1), 2);
    x.wipe();
    Bench.due("place after wipe", x.fault(0), 10);
    Bench.feed(x, "\n\n");
    Bench.due("line after feed", x.fault(1), 2);
    Bench.due("compile", x.compile(), 1);
    Bench.due("no place", x.fault(0), -1);
    Bench.due("no line", x.fault(1), -1);
    Bench.feed(x, "do --\n");
    Bench.due("compile", x.compile(), -2);
    Bench.due("behind the last byte", x.fault(0), 8);
    Bench.due("its line", x.fault(1), 4);
  }

  private static void functions() {
    TableTongue x = Bench.compiled("local a, b = 1 do local c end\n"
        + "for i = 1, 2 do local d end for k, v in pairs(print) do end\n"
        + "function t\n.x:y\n(p, q, ...) local r return a, b, function() return a, p, self end end\n"
        + "local function z(...) local function y() return z end end");
    Bench.due("locals of 0", x.function(0, 0), 8);
    Bench.due("captured of 0", x.function(0, 1), 0);
    Bench.due("... of 0", x.function(0, 2), 1);
    Bench.due("line of 0", x.function(0, 3), 0);
    Bench.due("locals of 1, self too", x.function(1, 0), 4);
    Bench.due("captured of 1", x.function(1, 1), 2);
    Bench.due("... of 1", x.function(1, 2), 1);
    Bench.due("line of 1", x.function(1, 3), 5);
    Bench.due("locals of 2", x.function(2, 0), 0);
    Bench.due("captured of 2", x.function(2, 1), 3);
    Bench.due("... of 2", x.function(2, 2), 0);
    Bench.due("line of 2", x.function(2, 3), 5);
    Bench.due("locals of 3", x.function(3, 0), 1);
    Bench.due("captured by a function between", x.function(3, 1), 1);
    Bench.due("captured of 4", x.function(4, 1), 1);
    Bench.due("none such", () -> x.function(5, 0), "index");
    Bench.due("none such", () -> x.function(-1, 0), "index");
    Bench.due("no such what", () -> x.function(0, 4), "index");
    Bench.due("no such what", () -> x.function(0, -1), "index");
  }

  private static void loading() {
    TableTongue x = Bench.compiled("G = (G or 0) + 1 print(G, 'a' .. 'b') "
        + "setmetatable({}, {__gc = print}) part.new(print) return G, {}");
    for (int i = 0; i < 3; i++) {
      Bench.due("run", Bench.given(x), "1, table 7");
      Bench.due("output", Bench.output(x), "1 ab\n");
      Bench.due("steps", x.steps(), 6);
      Bench.due("made", x.count(0), 7);
      Bench.due("marked", x.count(5), 1);
      Bench.due("strings", x.count(3), 1);
      x.load();
      Bench.due("steps", x.steps(), 0);
      Bench.due("results", x.results(), 0);
      Bench.due("outputs", x.outputs(), 0);
      Bench.due("made", x.count(0), 3);
      Bench.due("there", x.count(1), 3);
      Bench.due("places", x.count(2), 34);
      Bench.due("strings", x.count(3), 0);
      Bench.due("acts", x.count(4), 0);
      Bench.due("marked", x.count(5), 0);
    }
  }

  private static void running() {
    TableTongue x = Bench.compiled("for i = 1, 3 do print(i) end return 'e'");
    Bench.due("run(0)", () -> x.run(0), "argument");
    Bench.due("run(3001)", () -> x.run(3001), "argument");
    Bench.due("run(-1)", () -> x.run(-1), "argument");
    // 0 entered; for; bound, print; bound, print; bound, print; bound; return
    for (int i = 1; i <= 9; i++) {
      Bench.due("run(1)", x.run(1), 2);
      Bench.due("steps", x.steps(), i);
      Bench.due("results", x.results(), 0);
      Bench.due("output so far", Bench.output(x).length(), i < 4 ? 0 : Math.min(6, (i - 2) / 2 * 2));
    }
    Bench.due("the last one", x.run(1), 0);
    Bench.due("steps", x.steps(), 10);
    Bench.due("ended", x.run(3000), 0);
    Bench.due("steps", x.steps(), 10);
    Bench.due("wrong steps when ended", () -> x.run(3001), "argument");
    Bench.due("results", Bench.results(x), "\"e\"");
    x.load();
    Bench.due("just enough", x.run(10), 0);
    x.load();
    Bench.due("one too few", x.run(9), 2);
    TableTongue y = Bench.compiled("while true do end");
    Bench.due("3000", y.run(3000), 2);
    Bench.due("3000 again", y.run(3000), 2);
    Bench.due("steps", y.steps(), 6000);
    TableTongue z = Bench.compiled("\n\nerror({})");
    Bench.due("error", z.run(3000), 1);
    Bench.due("error again", z.run(1), 1);
    Bench.due("its value", Bench.results(z), "table 4");
    TableTongue r = Bench.compiled("return nil, true, false, -5, 'ab\\0\\255', {}, print,\n"
        + "function() end, part.running(), part.new(print)");
    Bench.due("kinds", Bench.given(r), "nil, true, false, -5, \"ab\u0000\u00ff\", table 4, "
        + "function -1, function 5, part 0, part 6");
    Bench.due("results", r.results(), 10);
    Bench.due("result(10)", () -> r.result(10, 0), "index");
    Bench.due("result(-1)", () -> r.result(-1, 0), "index");
    Bench.due("result what", () -> r.result(0, 2), "index");
    Bench.due("result what", () -> r.result(0, -1), "index");
    Bench.due("resultByte", r.resultByte(4, 3), 255);
    Bench.due("resultByte behind", () -> r.resultByte(4, 4), "index");
    Bench.due("resultByte before", () -> r.resultByte(4, -1), "index");
    Bench.due("resultByte of a whole", () -> r.resultByte(3, 0), "index");
    Bench.due("resultByte of none", () -> r.resultByte(10, 0), "index");
  }
}
