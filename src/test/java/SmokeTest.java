final class SmokeTest {
    public static void main(String[] args) {
        Check.same("labels()", Books.taught("label a;").labels(), 1);
        Check.finish();
    }
}
