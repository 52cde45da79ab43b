/** What tests share: answers held against what is due, and the exit code that tells the rest. */
final class Due {
    private int calls = 0;
    private int wrong = 0;
    private String promise = "";

    /** The promise that the checks which follow stand for. */
    void promise(String name) {
        promise = name;
    }

    /** The sentence of the document, word for word, that the checks which follow stand for. */
    void says(String sentence) {
        promise = "\"" + sentence + "\"";
    }

    void is(String call, long got, long want) {
        calls++;
        if (got != want) {
            wrong++;
            System.out.println(promise + ": " + call + " answered " + got + ", due is " + want);
        }
    }

    void holds(String what, boolean is) {
        is(what, is ? 1 : 0, 1);
    }

    void same(String what, String got, String want) {
        calls++;
        if (!got.equals(want)) {
            wrong++;
            System.out.println(promise + ": " + what + ":\n  is  " + got + "\n  due " + want);
        }
    }

    void end() {
        System.out.println(calls + " checks, " + wrong + " wrong");
        if (calls == 0 || wrong != 0) {
            System.exit(1);
        }
    }
}
