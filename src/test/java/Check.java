/** Counts what is as due and tells what is not. */
final class Check {
    private static int passed = 0;
    private static int failed = 0;

    private Check() {
    }

    static void same(String what, Object got, Object due) {
        if (due.equals(got)) {
            passed++;
            return;
        }
        failed++;
        if (failed <= 50) {
            System.out.println(what + " answered " + got + ", due is " + due);
        }
    }

    static int failed() {
        return failed;
    }

    static void end() {
        System.out.println(passed + " passed, " + failed + " failed");
        if (failed != 0) {
            System.exit(1);
        }
    }
}
