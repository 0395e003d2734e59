import java.util.Random;

/** Long runs of calls, the same ones every time, each answer held against the model. */
final class RandomTests {
    private static final int RUNS = 10000;
    /** An object has 512 calls; the last ones are for looking at all its answers. */
    private static final int CALLS_BEFORE_THE_LAST_LOOK = 400;
    private static final int[] WILD = {
        Integer.MIN_VALUE, -1001, -501, -1, 0, 4, 6, 30, 51, 101, 1001, 100001, Integer.MAX_VALUE
    };

    private final Random random;
    private final Check check;
    private final BatchDoser x = new BatchDoser();
    private final Model m = new Model();

    private RandomTests(long seed, Check check) {
        this.random = new Random(seed);
        this.check = check;
    }

    static boolean pass() {
        Check check = new Check("random runs");
        int most = 0;
        for (int run = 0; run < RUNS; run++) {
            String when = "run " + run + ": ";
            RandomTests test = new RandomTests(run, check);
            int before = check.made();
            while (check.made() - before < CALLS_BEFORE_THE_LAST_LOOK) {
                test.call();
                test.glance(when);
            }
            test.compare(when);
            most = Math.max(most, check.made() - before);
        }
        check.yes("at most 512 calls for an object", most <= 512);
        return check.close();
    }

    private int from(int least, int most) {
        return least + random.nextInt(most - least + 1);
    }

    private int wild() {
        return WILD[random.nextInt(WILD.length)];
    }

    private void call() {
        int kind = from(0, 99);
        if (kind < 50) {
            bringReadings();
        } else if (kind < 60) {
            changeValues();
        } else if (kind < 68) {
            fill();
        } else if (kind < 78) {
            changeRecipe();
        } else if (kind < 92) {
            changeBatch();
        } else {
            wildCalls();
        }
    }

    private void bringReadings() {
        int reading = nextReading();
        int ticks = random.nextInt(4) == 0 ? from(1, 25) : from(1, 6);
        for (int i = 0; i < ticks; i++) {
            m.tick(reading);
        }
        check.same("ticks", ticks == 1 ? x.tick(reading) : x.ticks(reading, ticks), m.state);
    }

    /** A reading that does something: near the latest one, near a target, or near the zero. */
    private int nextReading() {
        int reading;
        switch (from(0, 5)) {
            case 0:
                reading = m.reading() + from(-4, 4);
                break;
            case 1:
                reading = m.state == 0 ? from(-510, 510) : m.zero + m.tare + m.step().target() + from(-60, 30);
                break;
            case 2:
                reading = m.state == 0 ? m.zero + from(-11, 11) : m.zero + m.tare + m.step().target() + from(-6, 6);
                break;
            case 3:
                reading = m.reading() + from(-20, 60);
                break;
            case 4:
                reading = m.zero + m.tare + from(-40, 20);
                break;
            default:
                reading = m.reading();
                break;
        }
        return Math.max(-1000, Math.min(100000, reading));
    }

    private void changeValues() {
        switch (from(0, 3)) {
            case 0:
                int bin = from(0, 3);
                int margin = from(0, 120);
                check.same("setMargin", x.setMargin(bin, margin), m.margin[bin]);
                m.margin[bin] = margin;
                break;
            case 1:
                int band = from(0, 8);
                check.same("setBand", x.setBand(band), m.band);
                m.band = band;
                break;
            case 2:
                int load = from(0, 10000);
                int speed = from(0, 1000);
                int ticks = from(1, 100);
                m.belt += (long) load * speed * ticks;
                check.same("belt", x.belt(load, speed, ticks), Math.floorDiv(m.belt, 1000L));
                break;
            default:
                if (m.state != 0 || !m.settled() || Math.abs(m.reading()) > 500) {
                    check.noState("zero()", x::zero);
                } else {
                    check.same("zero()", x.zero(), m.zero);
                    m.zero = m.reading();
                }
                break;
        }
    }

    private void fill() {
        int bin = from(0, 3);
        int amount = from(1, 150);
        if (m.lots.size() == 30) {
            check.noState("fill", () -> x.fill(bin, amount));
        } else {
            check.same("fill", x.fill(bin, amount), m.lots.size());
            m.lots.add(new Model.Lot(bin, amount));
        }
    }

    private void changeRecipe() {
        int bin = from(0, 3);
        int target = from(1, 200);
        int tolerance = from(0, 15);
        boolean clears = random.nextInt(6) == 0;
        if (m.state != 0 || !clears && m.recipe.size() == 6) {
            check.noState("the recipe", () -> clears ? x.clearRecipe() : x.addStep(bin, target, tolerance));
        } else if (clears) {
            check.same("clearRecipe", x.clearRecipe(), m.recipe.size());
            m.recipe.clear();
        } else {
            m.recipe.add(new Model.Step(bin, target, tolerance));
            check.same("addStep", x.addStep(bin, target, tolerance), m.recipe.size());
        }
    }

    private void changeBatch() {
        int kind = from(0, 12);
        if (kind < 5) {
            start();
        } else if (kind < 7) {
            hold();
        } else if (kind < 12) {
            resume();
        } else {
            abort();
        }
    }

    private void start() {
        if (m.state != 0 || m.recipe.isEmpty() || m.batches == 20) {
            check.noState("start()", x::start);
        } else {
            check.same("start()", x.start(), m.batches);
            m.batches++;
            m.begin(0);
        }
    }

    private void hold() {
        if (m.state == 0 || m.state == 6) {
            check.noState("hold()", x::hold);
        } else {
            check.same("hold()", x.hold(), m.state);
            m.stop(0);
        }
    }

    private void resume() {
        if (m.state != 6) {
            check.noState("resume()", x::resume);
        } else {
            m.resume();
            check.same("resume()", x.resume(), m.state);
        }
    }

    private void abort() {
        if (m.state == 0) {
            check.noState("abort()", x::abort);
        } else {
            check.same("abort()", x.abort(), m.abort());
        }
    }

    /** Calls with an argument that no state allows: the first exception of the clause is due. */
    private void wildCalls() {
        int wild = wild();
        int any = wild();
        int bad = wild < 4 && wild >= 0 ? 4 : wild;
        check.noIndex("fill", () -> x.fill(bad, any));
        check.noIndex("setMargin", () -> x.setMargin(bad, any));
        check.noIndex("addStep", () -> x.addStep(bad, any, any));
        check.noIndex("leftOf", () -> x.leftOf(Math.max(wild, m.lots.size())));
        check.noIndex("used", () -> x.used(Math.min(wild, -1), any));
        check.noIndex("used", () -> x.used(0, wild < 0 ? wild : Math.max(wild, m.batches)));
        check.noArgument("addStep", () -> x.addStep(0, Math.min(wild, 0), any));
        check.noArgument("fill", () -> x.fill(3, Math.min(wild, 0)));
        check.noArgument("ticks", () -> x.ticks(Math.min(wild, -1001), any));
        check.noArgument("ticks", () -> x.ticks(0, wild < 1 ? wild : Math.max(wild, 51)));
        check.noArgument("belt", () -> x.belt(Math.max(wild, 10001), any, any));
    }

    /** A look at some of the answers, for the object has calls for no more. */
    private void glance(String when) {
        check.same(when + "state()", x.state(), m.state);
        check.same(when + "alarm()", x.alarm(), m.alarm);
        switch (from(0, 3)) {
            case 0:
                check.same(when + "net()", x.net(), m.net());
                break;
            case 1:
                compareBin(when, from(0, 3));
                break;
            case 2:
                check.same(when + "jogs()", x.jogs(), m.state == 0 ? 0 : m.jogs);
                break;
            default:
                glanceAtLots(when);
                break;
        }
    }

    private void glanceAtLots(String when) {
        int lot = from(0, 29);
        int batch = from(0, 19);
        if (lot < m.lots.size() && batch < m.batches) {
            check.same(when + "used", x.used(lot, batch), m.usage(lot)[batch]);
        } else {
            check.noIndex(when + "used", () -> x.used(lot, batch));
        }
    }

    private void compare(String when) {
        check.same(when + "state()", x.state(), m.state);
        check.same(when + "alarm()", x.alarm(), m.alarm);
        check.same(when + "step()", x.step(), m.state == 0 ? -1 : m.at);
        check.same(when + "jogs()", x.jogs(), m.state == 0 ? 0 : m.jogs);
        check.same(when + "batches()", x.batches(), m.batches);
        check.same(when + "done()", x.done(), m.done);
        check.same(when + "gross()", x.gross(), m.gross());
        check.same(when + "net()", x.net(), m.net());
        check.same(when + "isSettled()", x.isSettled() ? 1 : 0, m.settled() ? 1 : 0);
        for (int bin = 0; bin < 4; bin++) {
            compareBin(when, bin);
        }
        for (int lot = 0; lot < m.lots.size(); lot++) {
            compareLot(when, lot);
        }
    }

    private void compareBin(String when, int bin) {
        check.same(when + "flight", x.flight(bin), m.flight[bin]);
        check.same(when + "gate", x.gate(bin), m.gate(bin));
        check.same(when + "stock", x.stock(bin), m.stock(bin));
        check.same(when + "register", x.register(bin), m.register(bin));
        check.same(when + "registerByLots", x.registerByLots(bin), m.register(bin));
    }

    private void compareLot(String when, int lot) {
        int[] usage = m.usage(lot);
        int first = -1;
        int sum = 0;
        for (int batch = m.batches - 1; batch >= 0; batch--) {
            first = usage[batch] > 0 ? batch : first;
            sum += usage[batch];
        }
        check.same(when + "firstBatch", x.firstBatch(lot), first);
        check.same(when + "leftOf", x.leftOf(lot), m.lots.get(lot).amount() - sum);
    }
}
