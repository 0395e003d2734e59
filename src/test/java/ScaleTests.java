/** Promises 1 to 8. */
final class ScaleTests {
    static boolean pass() {
        Check check = new Check("scale");
        newObject(check);
        readingsSettle(check);
        bandDecides(check);
        zeroIsTracked(check);
        trackedZeroHasBounds(check);
        zeroIsTrackedInIdleOnly(check);
        zeroIsMade(check);
        netIsGrossLessTare(check);
        ticksAreTicks(check);
        refuses(check);
        return check.close();
    }

    private static void newObject(Check check) {
        BatchDoser x = new BatchDoser();
        check.same("state()", x.state(), 0);
        check.same("alarm()", x.alarm(), 0);
        check.same("step()", x.step(), -1);
        check.same("jogs()", x.jogs(), 0);
        check.same("batches()", x.batches(), 0);
        check.same("done()", x.done(), 0);
        check.same("gross()", x.gross(), 0);
        check.same("net()", x.net(), 0);
        check.no("isSettled()", x.isSettled());
        for (int bin = 0; bin < 4; bin++) {
            check.same("flight", x.flight(bin), 20);
            check.same("gate", x.gate(bin), 0);
            check.same("stock", x.stock(bin), 0);
            check.same("register", x.register(bin), 0);
            check.same("registerByLots", x.registerByLots(bin), 0);
            check.same("setMargin", x.setMargin(bin, 0), 50);
        }
        check.same("setBand(0)", x.setBand(0), 3);
        check.same("clearRecipe()", x.clearRecipe(), 0);
        check.same("fill(0, 1)", x.fill(0, 1), 0);
        check.noState("start()", x::start);
    }

    private static void readingsSettle(Check check) {
        BatchDoser x = new BatchDoser();
        x.ticks(100, 3);
        check.no("three readings", x.isSettled());
        x.tick(103);
        check.yes("103 after three 100", x.isSettled());
        x.tick(104);
        check.no("104 and 100", x.isSettled());
        x.tick(102);
        x.tick(101);
        check.yes("103 104 102 101", x.isSettled());
        x.tick(105);
        check.no("104 102 101 105", x.isSettled());
        x.ticks(-1000, 4);
        check.yes("four at the least reading", x.isSettled());
        x.tick(100000);
        check.no("from least to most", x.isSettled());
        BatchDoser y = new BatchDoser();
        y.ticks(0, 3);
        check.no("three readings of 0", y.isSettled());
    }

    private static void bandDecides(Check check) {
        BatchDoser x = new BatchDoser();
        x.ticks(100, 3);
        x.tick(110);
        check.no("band 3", x.isSettled());
        check.same("setBand(10)", x.setBand(10), 3);
        check.yes("band 10", x.isSettled());
        check.same("setBand(9)", x.setBand(9), 10);
        check.no("band 9", x.isSettled());
        check.same("setBand(50)", x.setBand(50), 9);
        check.same("setBand(0)", x.setBand(0), 50);
        x.ticks(110, 3);
        check.yes("band 0, all the same", x.isSettled());
        check.noArgument("setBand(-1)", () -> x.setBand(-1));
        check.noArgument("setBand(51)", () -> x.setBand(51));
        check.same("the band after refusals", x.setBand(1), 0);
    }

    private static void zeroIsTracked(Check check) {
        BatchDoser x = new BatchDoser();
        x.ticks(10, 3);
        check.same("not settled yet", x.gross(), 10);
        x.tick(10);
        check.same("moved by 1", x.gross(), 9);
        x.ticks(10, 8);
        check.same("moved by 9", x.gross(), 1);
        x.ticks(10, 8);
        check.same("no further than the reading", x.gross(), 0);
        BatchDoser y = new BatchDoser();
        y.ticks(-10, 5);
        check.same("downwards", y.gross(), -8);
        BatchDoser z = new BatchDoser();
        z.ticks(11, 9);
        check.same("11 is too far", z.gross(), 11);
        BatchDoser w = new BatchDoser();
        w.ticks(-11, 9);
        check.same("-11 is too far", w.gross(), -11);
    }

    private static void trackedZeroHasBounds(Check check) {
        BatchDoser x = new BatchDoser();
        x.ticks(499, 4);
        x.zero();
        x.ticks(502, 4);
        check.same("up to 500", x.gross(), 2);
        x.ticks(502, 4);
        check.same("no further than 500", x.gross(), 2);
        BatchDoser y = new BatchDoser();
        y.ticks(-499, 4);
        y.zero();
        y.ticks(-502, 8);
        check.same("no further than -500", y.gross(), -2);
    }

    private static void zeroIsTrackedInIdleOnly(Check check) {
        BatchDoser x = new BatchDoser();
        x.addStep(0, 100, 0);
        x.ticks(0, 4);
        x.start();
        x.hold();
        x.ticks(5, 9);
        check.same("held", x.gross(), 5);
        x.resume();
        x.tick(5);
        check.same("taring", x.gross(), 5);
        x.abort();
        check.same("aborted", x.gross(), 5);
        x.tick(5);
        check.same("idle again", x.gross(), 4);
    }

    private static void zeroIsMade(Check check) {
        BatchDoser x = new BatchDoser();
        check.noState("zero() of a new object", x::zero);
        x.ticks(500, 3);
        check.noState("zero() unsettled", x::zero);
        x.tick(500);
        check.same("zero()", x.zero(), 0);
        check.same("gross()", x.gross(), 0);
        x.ticks(501, 3);
        x.ticks(503, 4);
        check.noState("zero() at 503", x::zero);
        x.ticks(-501, 4);
        check.noState("zero() at -501", x::zero);
        x.ticks(-500, 4);
        check.same("zero() at -500", x.zero(), 500);
        check.same("zero() again", x.zero(), -500);
        x.addStep(0, 100, 0);
        x.start();
        check.noState("zero() in a batch", x::zero);
        x.hold();
        check.noState("zero() held", x::zero);
        x.abort();
        check.same("zero() idle again", x.zero(), -500);
    }

    private static void netIsGrossLessTare(Check check) {
        BatchDoser x = new BatchDoser();
        x.addStep(0, 1000, 0);
        x.ticks(20, 4);
        x.zero();
        x.start();
        x.ticks(120, 4);
        check.same("gross()", x.gross(), 100);
        check.same("net()", x.net(), 0);
        x.tick(150);
        check.same("gross()", x.gross(), 130);
        check.same("net()", x.net(), 30);
        x.abort();
        check.same("the tare stays", x.net(), 30);
        x.tick(-1000);
        check.same("net() below 0", x.net(), -1120);
    }

    private static void ticksAreTicks(Check check) {
        BatchDoser x = new BatchDoser();
        x.addStep(0, 100, 0);
        x.start();
        check.same("ticks(0, 3)", x.ticks(0, 3), 1);
        check.same("ticks(0, 1)", x.ticks(0, 1), 2);
        check.same("ticks(0, 19)", x.ticks(0, 19), 2);
        check.same("tick(0)", x.tick(0), 6);
        x.resume();
        check.same("ticks(0, 50)", x.ticks(0, 50), 6);
    }

    private static void refuses(Check check) {
        BatchDoser x = new BatchDoser();
        check.noArgument("tick(-1001)", () -> x.tick(-1001));
        check.noArgument("tick(100001)", () -> x.tick(100001));
        check.noArgument("ticks(-1001, 1)", () -> x.ticks(-1001, 1));
        check.noArgument("ticks(100001, 1)", () -> x.ticks(100001, 1));
        check.noArgument("ticks(7, 0)", () -> x.ticks(7, 0));
        check.noArgument("ticks(7, 51)", () -> x.ticks(7, 51));
        check.noArgument("ticks(7, least int)", () -> x.ticks(7, Integer.MIN_VALUE));
        check.same("no reading came", x.gross(), 0);
        check.same("tick(-1000)", x.tick(-1000), 0);
        check.same("gross()", x.gross(), -1000);
        check.same("tick(100000)", x.tick(100000), 0);
        check.same("gross()", x.gross(), 100000);
    }
}
