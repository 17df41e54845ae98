/** Counts the answers that are as due, and prints those that are not. */
final class Due {
    private static int passed = 0;
    private static int failed = 0;

    private Due() {
    }

    static void is(String call, long got, long want) {
        if (got == want) {
            passed++;
            return;
        }
        failed++;
        System.out.println(call + " answered " + got + ", due is " + want);
    }

    static void holds(String what, boolean truth) {
        is(what, truth ? 1 : 0, 1);
    }

    static void end() {
        System.out.println(passed + " passed, " + failed + " failed");
        if (failed > 0 || passed == 0) {
            System.exit(1);
        }
    }
}
