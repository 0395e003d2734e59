/** Promises 9 to 18. */
final class BinTests {
    static boolean pass() {
        Check check = new Check("bins and lots");
        fillNumbersLots(check);
        fillHasThirtyLots(check);
        marginDecides(check);
        flightIsLearned(check);
        flightHasBounds(check);
        gatesFollowTheState(check);
        firstInFirstOut(check);
        untracedStaysUntraced(check);
        batchesOfALot(check);
        refuses(check);
        return check.close();
    }

    private static void fillNumbersLots(Check check) {
        BatchDoser x = new BatchDoser();
        check.same("fill(3, 1)", x.fill(3, 1), 0);
        check.same("fill(0, 100000)", x.fill(0, 100000), 1);
        check.same("fill(3, 5)", x.fill(3, 5), 2);
        check.same("stock(3)", x.stock(3), 6);
        check.same("stock(0)", x.stock(0), 100000);
        check.same("stock(1)", x.stock(1), 0);
        check.same("leftOf(0)", x.leftOf(0), 1);
        check.same("leftOf(2)", x.leftOf(2), 5);
        check.same("registerByLots(3)", x.registerByLots(3), 0);
    }

    private static void fillHasThirtyLots(Check check) {
        BatchDoser x = new BatchDoser();
        for (int lot = 0; lot < 30; lot++) {
            check.same("fill", x.fill(lot % 4, 100000), lot);
        }
        check.noState("the 31st lot", () -> x.fill(0, 1));
        check.noIndex("bin first", () -> x.fill(4, 0));
        check.noArgument("amount second", () -> x.fill(0, 0));
        check.same("stock(0)", x.stock(0), 800000);
        check.same("leftOf(29)", x.leftOf(29), 100000);
        check.noIndex("leftOf(30)", () -> x.leftOf(30));
    }

    private static void marginDecides(Check check) {
        BatchDoser x = new BatchDoser();
        check.same("setMargin(1, 1000)", x.setMargin(1, 1000), 50);
        check.same("setMargin(1, 99)", x.setMargin(1, 99), 1000);
        x.addStep(1, 100, 0);
        x.start();
        check.same("target above the margin", x.ticks(0, 4), 2);
        x.abort();
        x.setMargin(1, 100);
        x.start();
        check.same("target at the margin", x.tick(0), 3);
        x.abort();
        check.same("setMargin(1, 40)", x.setMargin(1, 40), 100);
        x.start();
        check.same("coarse", x.tick(0), 2);
        check.same("coarse at 59", x.tick(59), 2);
        check.same("fine at 60", x.tick(60), 3);
        x.abort();
        x.ticks(0, 4);
        x.start();
        x.tick(0);
        x.tick(59);
        check.same("setMargin in a batch", x.setMargin(1, 41), 40);
        check.same("fine at 59", x.tick(59), 3);
        check.same("other bins", x.setMargin(0, 0), 50);
    }

    private static void flightIsLearned(Check check) {
        BatchDoser x = new BatchDoser();
        x.addStep(2, 100, 1000);
        Given.dose(x, 107);
        check.same("7 / 4", x.flight(2), 21);
        Given.dose(x, 97);
        check.same("-3 / 4, rounded down", x.flight(2), 20);
        Given.dose(x, 104);
        check.same("4 / 4", x.flight(2), 21);
        Given.dose(x, 96);
        check.same("-4 / 4", x.flight(2), 20);
        Given.dose(x, 95);
        check.same("-5 / 4, rounded down", x.flight(2), 18);
        check.same("other bins", x.flight(0), 20);
        check.same("the cut-off", x.start(), 5);
        x.ticks(0, 4);
        x.tick(60);
        check.same("fine below the cut-off", x.tick(81), 3);
        check.same("settling from the cut-off on", x.tick(82), 4);
    }

    private static void flightHasBounds(Check check) {
        BatchDoser x = new BatchDoser();
        x.addStep(0, 100, 1000);
        Given.dose(x, 5000);
        check.same("at most 500", x.flight(0), 500);
        BatchDoser y = new BatchDoser();
        y.addStep(0, 400, 1000);
        y.start();
        y.ticks(0, 4);
        y.ticks(400, 2);
        y.ticks(0, 4);
        check.same("at least 0", y.flight(0), 0);
    }

    private static void gatesFollowTheState(Check check) {
        BatchDoser x = new BatchDoser();
        x.addStep(2, 100, 0);
        x.start();
        gates(check, x, "taring", 0);
        x.ticks(0, 4);
        gates(check, x, "coarse", 2);
        x.hold();
        gates(check, x, "held", 0);
        x.resume();
        x.tick(50);
        gates(check, x, "fine", 1);
        x.tick(80);
        gates(check, x, "settling", 0);
        check.same("jogging", x.ticks(90, 4), 5);
        gates(check, x, "jogging", 1);
        x.abort();
        gates(check, x, "idle", 0);
    }

    private static void gates(Check check, BatchDoser x, String when, int due) {
        check.same("gate(2) " + when, x.gate(2), due);
        check.same("gate(0) " + when, x.gate(0), 0);
        check.same("gate(1) " + when, x.gate(1), 0);
        check.same("gate(3) " + when, x.gate(3), 0);
    }

    private static void firstInFirstOut(Check check) {
        BatchDoser x = new BatchDoser();
        x.fill(1, 60);
        x.fill(0, 1000);
        x.fill(1, 70);
        x.fill(1, 80);
        x.addStep(1, 100, 1000);
        check.same("nothing used", x.firstBatch(0), -1);
        Given.dose(x, 100);
        check.same("leftOf(0)", x.leftOf(0), 0);
        check.same("leftOf(1)", x.leftOf(1), 1000);
        check.same("leftOf(2)", x.leftOf(2), 30);
        check.same("leftOf(3)", x.leftOf(3), 80);
        check.same("stock(1)", x.stock(1), 110);
        check.same("stock(0)", x.stock(0), 1000);
        check.same("register(1)", x.register(1), 100);
        check.same("registerByLots(1)", x.registerByLots(1), 100);
        check.same("register(0)", x.register(0), 0);
        check.same("used(0, 0)", x.used(0, 0), 60);
        check.same("used(1, 0)", x.used(1, 0), 0);
        check.same("used(2, 0)", x.used(2, 0), 40);
        check.same("firstBatch(2)", x.firstBatch(2), 0);
        check.same("firstBatch(3)", x.firstBatch(3), -1);
    }

    private static void untracedStaysUntraced(Check check) {
        BatchDoser x = new BatchDoser();
        x.addStep(3, 100, 1000);
        Given.dose(x, 100);
        check.same("register(3)", x.register(3), 100);
        check.same("all untraced", x.registerByLots(3), 100);
        x.fill(3, 30);
        check.same("a lot filled later", x.leftOf(0), 30);
        Given.dose(x, 90);
        check.same("register(3)", x.register(3), 190);
        check.same("registerByLots(3)", x.registerByLots(3), 190);
        check.same("stock(3)", x.stock(3), 0);
        check.same("used(0, 0)", x.used(0, 0), 0);
        check.same("used(0, 1)", x.used(0, 1), 30);
    }

    private static void batchesOfALot(Check check) {
        BatchDoser x = new BatchDoser();
        x.fill(0, 250);
        x.fill(0, 100);
        x.addStep(0, 100, 1000);
        x.start();
        x.abort();
        Given.dose(x, 100);
        Given.dose(x, 110);
        check.same("used(0, 0)", x.used(0, 0), 0);
        check.same("used(0, 1)", x.used(0, 1), 100);
        check.same("used(0, 2)", x.used(0, 2), 110);
        check.same("firstBatch(0)", x.firstBatch(0), 1);
        check.same("firstBatch(1)", x.firstBatch(1), -1);
        check.noIndex("used(0, 3)", () -> x.used(0, 3));
        Given.dose(x, 90);
        check.same("used(0, 3)", x.used(0, 3), 40);
        check.same("used(1, 3)", x.used(1, 3), 50);
        check.same("firstBatch(0)", x.firstBatch(0), 1);
        check.same("firstBatch(1)", x.firstBatch(1), 3);
        BatchDoser z = new BatchDoser();
        z.fill(2, 9);
        z.addStep(2, 1, 0);
        Given.dose(z, 1);
        check.same("1 is something", z.firstBatch(0), 0);
        BatchDoser y = new BatchDoser();
        y.fill(1, 500);
        y.addStep(1, 100, 1000);
        y.addStep(1, 100, 1000);
        y.start();
        y.ticks(0, 4);
        y.ticks(100, 6);
        y.tick(100);
        y.ticks(220, 6);
        check.same("two steps in one batch", y.used(0, 0), 220);
        check.same("state()", y.state(), 0);
    }

    private static void refuses(Check check) {
        BatchDoser x = new BatchDoser();
        x.fill(0, 10);
        for (int bin : new int[] {-1, 4, Integer.MIN_VALUE, Integer.MAX_VALUE}) {
            check.noIndex("fill", () -> x.fill(bin, 0));
            check.noIndex("setMargin", () -> x.setMargin(bin, -1));
            check.noIndex("flight", () -> x.flight(bin));
            check.noIndex("gate", () -> x.gate(bin));
            check.noIndex("stock", () -> x.stock(bin));
            check.noIndex("register", () -> x.register(bin));
            check.noIndex("registerByLots", () -> x.registerByLots(bin));
        }
        check.noArgument("fill(0, 0)", () -> x.fill(0, 0));
        check.noArgument("fill(0, 100001)", () -> x.fill(0, 100001));
        check.noArgument("setMargin(0, -1)", () -> x.setMargin(0, -1));
        check.noArgument("setMargin(0, 1001)", () -> x.setMargin(0, 1001));
        check.same("the margin after refusals", x.setMargin(0, 1), 50);
        check.same("stock after refusals", x.stock(0), 10);
        for (int lot : new int[] {-1, 1, 30, Integer.MIN_VALUE, Integer.MAX_VALUE}) {
            check.noIndex("leftOf", () -> x.leftOf(lot));
            check.noIndex("firstBatch", () -> x.firstBatch(lot));
            check.noIndex("used", () -> x.used(lot, 0));
        }
        check.noIndex("used without a batch", () -> x.used(0, 0));
        check.noIndex("used of batch -1", () -> x.used(0, -1));
        x.addStep(0, 1, 0);
        x.start();
        check.same("used of a batch that runs", x.used(0, 0), 0);
        check.noIndex("used of batch 1", () -> x.used(0, 1));
        check.noIndex("used of lot 1", () -> x.used(1, 0));
    }
}
