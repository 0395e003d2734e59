/** Counts what answered wrong, and tells it. */
final class Check {
    interface Call {
        long answer();
    }

    private final String name;
    private String sentence = "";
    private int sentences;
    private int made;
    private int wrong;

    Check(String name) {
        this.name = name;
    }

    /** Begins the test of one sentence of the document, which is told with what is wrong from here on. */
    void sentence(String words) {
        sentence = " [" + words + "]";
        sentences++;
    }

    void same(String call, long got, long due) {
        made++;
        if (got != due) {
            tell(call + " answered " + got + ", due is " + due);
        }
    }

    void same(String call, boolean got, boolean due) {
        same(call, got ? 1 : 0, due ? 1 : 0);
    }

    void yes(String what, boolean got) {
        same(what, got, true);
    }

    void no(String what, boolean got) {
        same(what, got, false);
    }

    void noIndex(String call, Call made) {
        fails(call, IndexOutOfBoundsException.class, made);
    }

    void noArgument(String call, Call made) {
        fails(call, IllegalArgumentException.class, made);
    }

    void noState(String call, Call made) {
        fails(call, IllegalStateException.class, made);
    }

    void fails(String call, Class<?> due, Call tried) {
        made++;
        try {
            tell(call + " answered " + tried.answer() + ", due is " + due.getSimpleName());
        } catch (RuntimeException thrown) {
            if (thrown.getClass() != due) {
                tell(call + " threw " + thrown + ", due is " + due.getSimpleName());
            }
        }
    }

    private void tell(String what) {
        wrong++;
        if (wrong <= 20) {
            System.out.println(name + ": " + what + sentence);
        }
    }

    int made() {
        return made;
    }

    /** Returns whether every answer was as due. */
    boolean close() {
        String told = sentences > 0 ? sentences + " sentences, " : "";
        System.out.println(name + ": " + told + made + " answers, " + wrong + " wrong");
        return wrong == 0 && made > 0;
    }
}
