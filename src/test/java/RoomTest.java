/** Part 7 of the terms and promise 15: what ends with NO ROOM, and what was done before stays. */
public final class RoomTest {
  public static void main(String[] args) {
    objects();
    parts();
    places();
    strings();
    stringBytes();
    uncounted();
    afterwards();
    Bench.end("RoomTest");
  }

  private static TableTongue full(String text) {
    TableTongue x = Bench.compiled(text);
    Bench.due(text, Bench.runToEnd(x), 3);
    Bench.due("no results: " + text, x.results(), 0);
    Bench.due("as then: " + text, x.run(3000), 3);
    return x;
  }

  private static void objects() {
    TableTongue x = full("for i = 1, 2000 do local t = {} print(i) end");
    Bench.due("made", x.count(0), 2000);
    Bench.due("there", x.count(1), 2000);
    // entered, for; bound, local, print for each; bound and local of the last one
    Bench.due("steps", x.steps(), 2 + 1997 * 3 + 2);
    Bench.gives("for i = 1, 1997 do local t = {} end return 1", "1");
    Bench.due("functions", full("while true do local f = function() end end").count(0), 2000);
    Bench.due("packs", full("while true do list.pack() collect() end").count(1), 3);
    TableTongue y = full("for i = 1, 1997 do list.pack() collect() end G = 1 list.pack(5)");
    Bench.due("nothing of the pack", y.count(2), 35);
    Bench.due("not caught", full("pcall(function() while true do local t = {} end end)").count(0),
        2000);
    Bench.due("part.new", full("for i = 1, 1997 do local t = {} end part.new(print)").count(0),
        2000);
    Bench.gives("for i = 1, 1997 do local t = {} end return pcall(part.new, 5)",
        "false, \"1: argument 1 of part.new\"");
  }

  private static void parts() {
    TableTongue x = full("while true do part.new(print) collect() end");
    Bench.due("made", x.count(0), 28);
    Bench.due("there", x.count(1), 3);
    Bench.gives("for i = 1, 25 do part.new(print) end return pcall(part.new)",
        "false, \"1: argument 1 of part.new\"");
  }

  private static void places() {
    TableTongue x = full("local t = {} for i = 1, 3000 do t[i] = i end");
    Bench.due("places", x.count(2), 3000);
    Bench.due("length", x.object(4, 1), 2966);
    Bench.gives("local t = {} for i = 1, 2966 do t[i] = i end t[1] = 5 t[3000] = nil return #t",
        "2966");
    Bench.gives("local t = {} for i = 1, 2966 do t[i] = i end for i = 1, 10 do t[i] = nil end "
        + "collect() for i = 1, 10 do t[-i] = 0 end return #t", "0");
    Bench.due("gone pairs keep theirs", full("local t = {} for i = 1, 2966 do t[i] = i t[i] = nil "
        + "end t[0] = 1").count(2), 3000);
    Bench.due("globals", full("local t = {} for i = 1, 2966 do t[i] = i end G = 1").count(2), 3000);
    TableTongue y = full("local t = {} for i = 1, 2964 do t[i] = i end u = {7, 8, 9}");
    Bench.due("what was done stays", y.object(5, 1), 2);
    TableTongue z = full("local t = {} for i = 1, 2964 do t[i] = i end list.pack(7, 8, 9)");
    Bench.due("what was done stays", z.object(5, 1), 2);
    TableTongue n = full("local t = {} for i = 1, 2964 do t[i] = i end list.pack(7, 8)");
    Bench.due("all but n", n.object(5, 1), 2);
    TableTongue v = full("local t = {} for i = 1, 2965 do t[i] = i end "
        + "(function(...) u = {...} end)(7, 8)");
    Bench.due("of ... as well", v.object(6, 1), 1);
    TableTongue i = full("local t = {} for i = 1, 2966 do t[i] = i end list.insert(t, 1, 0)");
    Bench.due("nothing moved", i.place(4, 0, 3), 1);
    full("local t = {} for i = 1, 2966 do t[i] = i end rawset(t, 'x', 1)");
    full("local t = {} for i = 1, 2966 do t[i] = i end list.insert(t, 1)");
  }

  private static void strings() {
    TableTongue x = full("for i = 1, 801 do local s = i .. 'x' end");
    Bench.due("strings", x.count(3), 800);
    Bench.gives("for i = 1, 800 do local s = i .. 'x' end return 7 .. 'x'", "\"7x\"");
    Bench.gives("for i = 1, 800 do local s = i .. 'x' end print({}, 801 .. '') return 1", "no room");
    Bench.gives("for i = 1, 800 do local s = i .. 'x' end print({}, 801) return 1", "1");
    String eight = "for i = 1, 800 do local s = i .. 'x' end ";
    full(eight + "x()");
    full(eight + "pcall(x)");
    full(eight + "type(1)");
    full(eight + "tostring(1)");
    full("local p = part.new(print) part.go(p) " + eight + "part.state(p)");
    full(eight + "part.go(part.running())");
    full(eight + "text.sub('abc', 1, 2)");
    full(eight + "text.char(1)");
    full(eight + "text.rep('ab', 2)");
    full(eight + "list.concat({1, 2})");
    full(eight + "setmetatable({}, {__gc = function() x() end}) collect()");
    Bench.gives(eight + "return text.sub('abc', 1), tostring('q'), text.rep('z', 1)",
        "\"abc\", \"q\", \"z\"");
    Bench.gives(eight + "error('e')", "error \"e\"");
    Bench.gives(eight + "return type({}) == 'table'", "true");
  }

  private static void stringBytes() {
    String most = "for i = 100, 123 do local s = text.rep('a', 997) .. i end ";
    TableTongue x = full(most);
    // the row of 997 as well: 23 of 1000 fit beside it
    Bench.due("strings", x.count(3), 24);
    Bench.gives("for i = 100, 122 do local s = text.rep('a', 997) .. i end "
        + "return text.rep('b', 3)", "\"bbb\"");
    Bench.gives("for i = 100, 122 do local s = text.rep('a', 997) .. i end "
        + "return text.rep('b', 4)", "no room");
    Bench.gives("for i = 100, 122 do local s = text.rep('a', 997) .. i end "
        + "local e = text.rep('b', 3) return text.sub(e, 3, 2)", "\"\"");
  }

  private static void counted(String text, int want) {
    TableTongue x = Bench.compiled(text);
    Bench.given(x);
    Bench.due("strings of " + text, x.count(3), want);
  }

  private static void uncounted() {
    counted("return 'a' .. 'b'", 1);
    counted("return 'a' .. 'b', 'a' .. 'b'", 1);
    counted("return 'a' .. 'b', 'ab'", 0);
    counted("local ab = 'a' .. 'b'", 0);
    counted("x = {ab = 'a' .. 'b'}", 0);
    counted("return 'a' .. 'b' .. 'c'", 2);
    counted("return 'pri' .. 'nt', 'conc' .. 'at', 'te' .. 'xt', 'par' .. 't', text.char(110)", 0);
    counted("return '__in' .. 'dex'", 1);
    counted("local t = setmetatable({}, {['__in' .. 'dex'] = {x = 1}}) return t.x", 1);
    counted("return 'an' .. 'd'", 1);
    counted("return 'an' .. 'd', 'and'", 0);
    counted("f = {} function f:x() end return 'se' .. 'lf'", 1);
    counted("f = {} function f:x() return self end return 'se' .. 'lf'", 0);
    counted("return type(nil), type(1)", 2);
    counted("return type(nil), 'nil'", 0);
    counted("return tostring(true), tostring(false), tostring('x')", 2);
    counted("return text.sub('abc', 4)", 1);
    counted("return text.sub('abc', 4), ''", 0);
    counted("print(1, {}, print, true)", 0);
    counted("pcall(x) pcall(x)", 1);
    counted("pcall(x)\npcall(x)", 2);
    counted("pcall(error, 'x') return list.pack(1).n", 0);
    counted("return 'list' .. '.pack'", 1);
    counted("return part.state(part.running())", 0);
    counted("return part.state(part.new(print))", 0);
    counted("local p = part.new(print) part.go(p) return part.state(p)", 1);
    TableTongue x = Bench.compiled("return '__in' .. 'dex', 'an' .. 'd'");
    for (int i = 0; i < 3; i++) {
      Bench.given(x);
      Bench.due("each time", x.count(3), 2);
      x.load();
      Bench.due("loaded", x.count(3), 0);
    }
    Bench.feed(x, " -- and so on");
    x.compile();
    Bench.given(x);
    Bench.due("a remark is no text", x.count(3), 2);
    x.wipe();
    Bench.feed(x, "return '__in' .. 'dex', 'an' .. 'd', '__index', 'and'");
    x.compile();
    Bench.given(x);
    Bench.due("now of the text", x.count(3), 0);
    x.wipe();
    Bench.feed(x, "return '__in' .. 'dex', 'an' .. 'd'");
    x.compile();
    Bench.given(x);
    Bench.due("no longer of the text", x.count(3), 2);
  }

  private static void afterwards() {
    TableTongue x = full("print('a') G = {} while true do local t = {} end");
    Bench.due("output stays", Bench.output(x), "a\n");
    Bench.due("wrong steps", () -> x.run(0), "argument");
    x.load();
    Bench.due("anew", x.run(1), 2);
    Bench.due("made", x.count(0), 3);
  }
}
