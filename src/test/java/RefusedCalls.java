import java.util.ArrayList;
import java.util.List;
import java.util.function.Predicate;

/**
 * "When a call throws, nothing has changed; of several exceptions it is the first one of the throws
 * clause." A run of calls that goes through all states is made again for each refused call, which
 * stands between all its calls: every answer has to be the one of the run without it.
 */
final class RefusedCalls {
    interface Call {
        long on(BatchDoser x);
    }

    record Refused(String name, Class<?> due, Predicate<BatchDoser> when, Call call) { }

    private static final Class<?> INDEX = IndexOutOfBoundsException.class;
    private static final Class<?> ARGUMENT = IllegalArgumentException.class;
    private static final Class<?> STATE = IllegalStateException.class;

    private static final int CALLS_TO_FULL = 30 + 6 + 20 * 5;

    private final List<Refused> refused = new ArrayList<>();

    static boolean pass() {
        Check check = new Check("refused calls");
        nothingHasChanged(check);
        nothingHasChangedWhenFull(check);
        firstOfTheClause(check);
        return check.close();
    }

    private static void nothingHasChanged(Check check) {
        RefusedCalls all = new RefusedCalls();
        all.addArguments();
        all.addBins();
        all.addStates();
        all.holdAgainst(check, script(), 0);
    }

    private static void nothingHasChangedWhenFull(Check check) {
        RefusedCalls all = new RefusedCalls();
        all.add("the 31st lot", STATE, x -> true, x -> x.fill(0, 1));
        all.add("the 7th step", STATE, x -> true, x -> x.addStep(0, 1, 0));
        all.add("the 21st batch", STATE, x -> true, x -> x.start());
        all.add("the lot 30", INDEX, x -> true, x -> x.leftOf(30));
        all.add("the lot 30", INDEX, x -> true, x -> x.used(30, 19));
        all.add("the batch 20", INDEX, x -> true, x -> x.used(29, 20));
        all.holdAgainst(check, fullScript(), CALLS_TO_FULL);
    }

    private void add(String name, Class<?> due, Predicate<BatchDoser> when, Call call) {
        refused.add(new Refused(name, due, when, call));
    }

    private void addArguments() {
        add("tick(-1001)", ARGUMENT, x -> true, x -> x.tick(-1001));
        add("tick(100001)", ARGUMENT, x -> true, x -> x.tick(100001));
        add("ticks(100001, 4)", ARGUMENT, x -> true, x -> x.ticks(100001, 4));
        add("ticks(0, 0)", ARGUMENT, x -> true, x -> x.ticks(0, 0));
        add("ticks(0, 51)", ARGUMENT, x -> true, x -> x.ticks(0, 51));
        add("setBand(51)", ARGUMENT, x -> true, x -> x.setBand(51));
        add("setBand(-1)", ARGUMENT, x -> true, x -> x.setBand(-1));
        add("fill(0, 0)", ARGUMENT, x -> true, x -> x.fill(0, 0));
        add("fill(0, 100001)", ARGUMENT, x -> true, x -> x.fill(0, 100001));
        add("setMargin(0, -1)", ARGUMENT, x -> true, x -> x.setMargin(0, -1));
        add("setMargin(0, 1001)", ARGUMENT, x -> true, x -> x.setMargin(0, 1001));
        add("addStep(0, 0, 0)", ARGUMENT, x -> true, x -> x.addStep(0, 0, 0));
        add("addStep(0, 1, 1001)", ARGUMENT, x -> true, x -> x.addStep(0, 1, 1001));
        add("belt(10001, 1000, 100)", ARGUMENT, x -> true, x -> x.belt(10001, 1000, 100));
        add("belt(10000, 1001, 100)", ARGUMENT, x -> true, x -> x.belt(10000, 1001, 100));
        add("belt(10000, 1000, 101)", ARGUMENT, x -> true, x -> x.belt(10000, 1000, 101));
    }

    private void addBins() {
        for (int bin = -1; bin <= 4; bin += 5) {
            int none = bin;
            add("fill(" + none + ", 1)", INDEX, x -> true, x -> x.fill(none, 1));
            add("setMargin(" + none + ", 1)", INDEX, x -> true, x -> x.setMargin(none, 1));
            add("flight(" + none + ")", INDEX, x -> true, x -> x.flight(none));
            add("gate(" + none + ")", INDEX, x -> true, x -> x.gate(none));
            add("stock(" + none + ")", INDEX, x -> true, x -> x.stock(none));
            add("register(" + none + ")", INDEX, x -> true, x -> x.register(none));
            add("registerByLots(" + none + ")", INDEX, x -> true, x -> x.registerByLots(none));
            add("addStep(" + none + ", 1, 0)", INDEX, x -> true, x -> x.addStep(none, 1, 0));
        }
        add("leftOf(-1)", INDEX, x -> true, x -> x.leftOf(-1));
        add("firstBatch(30)", INDEX, x -> true, x -> x.firstBatch(30));
        add("used(-1, 0)", INDEX, x -> true, x -> x.used(-1, 0));
        add("used(0, 20)", INDEX, x -> true, x -> x.used(0, 20));
    }

    private void addStates() {
        add("zero() in a batch", STATE, x -> x.state() != 0, x -> x.zero());
        add("zero() unsettled", STATE, x -> !x.isSettled(), x -> x.zero());
        add("addStep in a batch", STATE, x -> x.state() != 0, x -> x.addStep(0, 1, 0));
        add("clearRecipe() in a batch", STATE, x -> x.state() != 0, x -> x.clearRecipe());
        add("start() in a batch", STATE, x -> x.state() != 0, x -> x.start());
        add("hold() idle or held", STATE, x -> x.state() % 6 == 0, x -> x.hold());
        add("resume() unless held", STATE, x -> x.state() != 6, x -> x.resume());
        add("abort() idle", STATE, x -> x.state() == 0, x -> x.abort());
    }

    /** Makes the script with each refused call ahead of every one of its calls from the given one on. */
    private void holdAgainst(Check check, List<Call> script, int from) {
        List<Long> due = new ArrayList<>();
        BatchDoser plain = new BatchDoser();
        for (Call call : script) {
            due.add(call.on(plain));
        }
        for (Refused one : refused) {
            check.sentence("When a call throws, nothing has changed: " + one.name);
            BatchDoser x = new BatchDoser();
            boolean stood = false;
            for (int i = 0; i < script.size(); i++) {
                if (i >= from && one.when.test(x)) {
                    stood = true;
                    check.fails(one.name, one.due, () -> one.call.on(x));
                }
                check.same("call " + i, script.get(i).on(x), due.get(i));
            }
            check.yes("it was refused at least once", stood);
        }
    }

    /** Through all states, with each count one short of its end where a call may be refused. */
    private static List<Call> script() {
        List<Call> run = new ArrayList<>();
        run.add(x -> x.belt(333, 1, 2));
        run.add(x -> x.fill(0, 70));
        run.add(x -> x.fill(1, 500));
        run.add(x -> x.setMargin(0, 60));
        run.add(x -> x.addStep(0, 100, 5));
        run.add(x -> x.addStep(1, 40, 0));
        run.add(x -> x.ticks(7, 3));
        run.add(x -> x.tick(7));
        run.add(x -> x.tick(7));
        run.add(x -> x.ticks(305, 4));
        run.add(x -> x.zero());
        run.add(x -> x.tick(307));
        run.add(x -> x.start());
        run.add(x -> x.ticks(295, 3));
        run.add(x -> x.tick(295));
        run.add(x -> x.ticks(295, 19));
        run.add(x -> x.tick(295));
        run.add(x -> x.alarm());
        run.add(x -> x.resume());
        run.add(x -> x.tick(335));
        run.add(x -> x.ticks(385, 2));
        run.add(x -> x.ticks(385, 2));
        run.add(x -> x.tick(385));
        run.add(x -> x.tick(385));
        run.add(x -> x.hold());
        run.add(x -> x.tick(385));
        run.add(x -> x.resume());
        run.add(x -> x.tick(385));
        run.add(x -> x.tick(385));
        run.add(x -> x.ticks(395, 3));
        run.add(x -> x.tick(395));
        run.add(x -> x.tick(395));
        run.add(x -> x.tick(460));
        run.add(x -> x.ticks(460, 3));
        run.add(x -> x.tick(460));
        run.add(x -> x.alarm());
        run.add(x -> x.resume());
        run.add(x -> x.start());
        run.add(x -> x.tick(460));
        run.add(x -> x.tick(480));
        run.add(x -> x.abort());
        run.add(x -> x.belt(333, 1, 1));
        run.add(x -> x.fill(0, 9));
        run.add(x -> x.setMargin(0, 70));
        run.add(x -> x.setBand(4));
        run.add(x -> x.clearRecipe());
        addAnswers(run, 3, 2);
        return run;
    }

    /** 30 lots, 6 steps and 20 batches, and the answers then. */
    private static List<Call> fullScript() {
        List<Call> run = new ArrayList<>();
        for (int lot = 0; lot < 30; lot++) {
            int amount = 10 + lot;
            run.add(x -> x.fill(amount % 4, amount));
        }
        for (int step = 0; step < 6; step++) {
            int bin = step % 4;
            run.add(x -> x.addStep(bin, 10, 0));
        }
        for (int batch = 0; batch < 20; batch++) {
            run.add(x -> x.start());
            run.add(x -> x.ticks(0, 4));
            run.add(x -> x.tick(10));
            run.add(x -> x.tick(20));
            run.add(x -> x.abort());
        }
        addAnswers(run, 1, 1);
        run.add(x -> x.leftOf(29));
        run.add(x -> x.used(29, 19));
        run.add(x -> x.used(2, 19));
        run.add(x -> x.clearRecipe());
        return run;
    }

    private static void addAnswers(List<Call> run, int lots, int batches) {
        run.add(x -> x.state());
        run.add(x -> x.alarm());
        run.add(x -> x.step());
        run.add(x -> x.jogs());
        run.add(x -> x.batches());
        run.add(x -> x.done());
        run.add(x -> x.gross());
        run.add(x -> x.net());
        run.add(x -> x.isSettled() ? 1 : 0);
        for (int b = 0; b < 4; b++) {
            int bin = b;
            run.add(x -> x.flight(bin));
            run.add(x -> x.gate(bin));
            run.add(x -> x.stock(bin));
            run.add(x -> x.register(bin));
            run.add(x -> x.registerByLots(bin));
        }
        for (int l = 0; l < lots; l++) {
            int lot = l;
            run.add(x -> x.leftOf(lot));
            run.add(x -> x.firstBatch(lot));
            for (int b = 0; b < batches; b++) {
                int batch = b;
                run.add(x -> x.used(lot, batch));
            }
        }
        for (int b = 0; b < 4; b++) {
            int bin = b;
            run.add(x -> x.setMargin(bin, 1));
        }
        run.add(x -> x.setBand(0));
        run.add(x -> x.belt(0, 0, 1));
        run.add(x -> x.belt(1, 1, 1));
    }

    private static void firstOfTheClause(Check check) {
        check.sentence("of several exceptions it is the first one of the throws clause");
        BatchDoser full = new BatchDoser();
        for (int lot = 0; lot < 30; lot++) {
            full.fill(0, 1);
        }
        for (int step = 0; step < 6; step++) {
            full.addStep(0, 10, 0);
        }
        BatchDoser running = Given.inState(3);
        for (int bin : Given.NO_BINS) {
            check.noIndex("no bin, no amount, no room", () -> full.fill(bin, 0));
            check.noIndex("no bin, no room", () -> full.fill(bin, 1));
            check.noIndex("no bin, no amount", () -> running.fill(bin, 100001));
            check.noIndex("no bin, no margin", () -> full.setMargin(bin, 1001));
            check.noIndex("no bin, no target, no room", () -> full.addStep(bin, 0, 0));
            check.noIndex("no bin, no tolerance, no room", () -> full.addStep(bin, 1, 1001));
            check.noIndex("no bin, no room", () -> full.addStep(bin, 1, 0));
            check.noIndex("no bin in a batch", () -> running.addStep(bin, 1, 0));
            check.noIndex("no bin, no target in a batch", () -> running.addStep(bin, 10001, -1));
        }
        check.noArgument("no amount, no room", () -> full.fill(0, 0));
        check.noArgument("no amount, no room", () -> full.fill(0, 100001));
        check.noArgument("no target, no room", () -> full.addStep(0, 0, 0));
        check.noArgument("no target, no room", () -> full.addStep(0, 10001, 0));
        check.noArgument("no tolerance, no room", () -> full.addStep(0, 1, -1));
        check.noArgument("no tolerance, no room", () -> full.addStep(0, 1, 1001));
        check.noArgument("no target in a batch", () -> running.addStep(0, 0, 0));
        check.noArgument("no tolerance in a batch", () -> running.addStep(0, 1, 1001));
        check.noState("no room", () -> full.fill(0, 1));
        check.noState("no room", () -> full.addStep(0, 1, 0));
        check.noState("in a batch", () -> running.addStep(0, 1, 0));
    }
}
