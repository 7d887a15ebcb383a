/** Counts what is as due and tells what is not. */
final class Checks {
    private int passed = 0;
    private int failed = 0;
    private String group = "";

    void begin(String newGroup) {
        group = newGroup;
    }

    void due(String call, long got, long want) {
        if (got == want) {
            passed++;
            return;
        }
        failed++;
        System.out.println(group + ": " + call + " answered " + got + ", due is " + want);
    }

    void holds(String what, boolean so) {
        due(what + " (1 it holds)", so ? 1 : 0, 1);
    }

    int passed() {
        return passed;
    }

    int failed() {
        return failed;
    }
}
