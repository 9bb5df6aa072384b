public final class FaceTest {
  public static void main(String[] args) {
    Bench.due("NONE", TableTongue.NONE, -1);
    Bench.gives("return 1, 'a', nil, true", "1, \"a\", nil, true");
    Bench.end("FaceTest");
  }
}
