/** The boundary cases of the scale, a test for each sentence: "Terms" and the promises 1 to 8. */
final class ScaleBounds {
    static boolean pass() {
        Check check = new Check("bounds of the scale");
        idleAndEmptyAtFirst(check);
        zeroAndTareAtFirst(check);
        fourReadings(check);
        lastFourWithinTheBand(check);
        bandAtFirst(check);
        trackingInStateZero(check);
        trackingWhenSettledWithIt(check);
        trackingByTheGross(check);
        trackingByOne(check);
        trackingWithinBounds(check);
        readingsOfTick(check);
        readingsOfTicks(check);
        countOfTicks(check);
        ticksBringAsMany(check);
        fiftyTicks(check);
        zeroInStateZero(check);
        zeroWhenSettled(check);
        zeroWithinBounds(check);
        zeroBefore(check);
        bandWithinBounds(check);
        bandBefore(check);
        grossWithoutReading(check);
        grossAndNetFarOut(check);
        return check.close();
    }

    /** A scale that is settled at the reading, of an object that is idle. */
    private static BatchDoser settledAt(int reading) {
        BatchDoser x = new BatchDoser();
        x.ticks(reading, 4);
        return x;
    }

    private static void idleAndEmptyAtFirst(Check check) {
        check.sentence("Begins idle, with an empty recipe and empty bins");
        BatchDoser x = new BatchDoser();
        check.same("state()", x.state(), 0);
        check.same("step()", x.step(), -1);
        check.same("batches()", x.batches(), 0);
        check.same("done()", x.done(), 0);
        check.same("clearRecipe()", x.clearRecipe(), 0);
        for (int bin = 0; bin <= 3; bin++) {
            check.same("stock", x.stock(bin), 0);
            check.same("register", x.register(bin), 0);
            check.same("registerByLots", x.registerByLots(bin), 0);
        }
        check.noIndex("leftOf(0)", () -> x.leftOf(0));
        check.noIndex("firstBatch(0)", () -> x.firstBatch(0));
        check.noIndex("used(0, 0)", () -> x.used(0, 0));
        check.noState("start()", x::start);
        check.noState("hold()", x::hold);
        check.noState("resume()", x::resume);
        check.noState("abort()", x::abort);
        check.same("another object is another", new BatchDoser().fill(0, 1) + new BatchDoser().fill(0, 1), 0);
        check.same("fill(0, 1)", x.fill(0, 1), 0);
    }

    private static void zeroAndTareAtFirst(Check check) {
        check.sentence("zero and tare are 0 at first");
        for (int reading : new int[] {-1000, -1, 0, 1, 100000}) {
            BatchDoser x = new BatchDoser();
            x.tick(reading);
            check.same("gross()", x.gross(), reading);
            check.same("net()", x.net(), reading);
        }
    }

    private static void fourReadings(Check check) {
        check.sentence("It is settled if at least 4 readings have arrived");
        BatchDoser x = new BatchDoser();
        for (int readings = 0; readings <= 3; readings++) {
            check.no(readings + " readings", x.isSettled());
            x.tick(0);
        }
        check.yes("4 readings", x.isSettled());
        x.tick(0);
        check.yes("5 readings", x.isSettled());
        BatchDoser y = new BatchDoser();
        y.setBand(50);
        y.ticks(20, 3);
        check.no("3 readings within the widest band of 0", y.isSettled());
    }

    private static void lastFourWithinTheBand(Check check) {
        check.sentence("the greatest of the last 4 is at most the band above the least");
        for (int place = 0; place < 4; place++) {
            check.yes("3 above at place " + place, rowOfFour(place, 203));
            check.no("4 above at place " + place, rowOfFour(place, 204));
            check.yes("3 below at place " + place, rowOfFour(place, 197));
            check.no("4 below at place " + place, rowOfFour(place, 196));
        }
        BatchDoser x = new BatchDoser();
        x.ticks(200, 3);
        x.tick(203);
        x.ticks(203, 2);
        check.yes("200 203 203 203", x.isSettled());
        x.tick(206);
        check.yes("the 200 is the last but 4", x.isSettled());
        x.tick(207);
        check.no("203 203 206 207", x.isSettled());
    }

    /** Whether the scale is settled by four readings of 200, but for the one at the place. */
    private static boolean rowOfFour(int place, int other) {
        BatchDoser x = new BatchDoser();
        x.tick(90000);
        for (int i = 0; i < 4; i++) {
            x.tick(i == place ? other : 200);
        }
        return x.isSettled();
    }

    private static void bandAtFirst(Check check) {
        check.sentence("the band is 3 at first");
        check.same("setBand(0)", new BatchDoser().setBand(0), 3);
        BatchDoser x = new BatchDoser();
        x.ticks(200, 3);
        x.tick(203);
        check.yes("3 apart", x.isSettled());
        x.tick(204);
        check.no("4 apart", x.isSettled());
    }

    private static void trackingInStateZero(Check check) {
        check.sentence("First, in the state 0");
        // The tare is low enough for each state to see a gross of -5, with the scale settled.
        int[] bases = {0, -1000, -40, -75, -95, -95, -40};
        for (int state = 1; state <= 6; state++) {
            BatchDoser x = Given.inState(state, bases[state]);
            check.same("state()", x.state(), state);
            x.ticks(-5, 4);
            check.yes("isSettled()", x.isSettled());
            check.same("gross() in a batch, begun in state " + state, x.gross(), -5);
            x.abort();
            check.same("gross() after abort()", x.gross(), -5);
            x.tick(-5);
            check.same("gross() in the state 0", x.gross(), -4);
        }
        BatchDoser y = Given.weighed(8, 0, 8);
        check.same("the tick that ends the batch", y.state(), 0);
        check.same("began in the state 4", y.gross(), 8);
        y.tick(8);
        check.same("the one after it began in 0", y.gross(), 7);
        BatchDoser z = settledAt(100);
        z.addStep(0, 100, 0);
        z.ticks(8, 3);
        z.start();
        z.tick(8);
        check.same("the first tick of a batch began in 1", z.gross(), 8);
    }

    private static void trackingWhenSettledWithIt(Check check) {
        check.sentence("if the scale is settled with it");
        BatchDoser x = new BatchDoser();
        x.ticks(5, 3);
        check.same("3 readings", x.gross(), 5);
        x.tick(5);
        check.same("4 readings", x.gross(), 4);
        BatchDoser y = settledAt(0);
        y.tick(4);
        check.same("settled until this reading", y.gross(), 4);
        y.ticks(4, 2);
        check.same("0 4 4 4", y.gross(), 4);
        y.tick(4);
        check.same("settled by this reading", y.gross(), 3);
        BatchDoser z = settledAt(0);
        z.tick(3);
        check.same("settled still", z.gross(), 2);
    }

    private static void trackingByTheGross(Check check) {
        check.sentence("the gross is from -10 to 10, but not 0");
        check.same("10", settledAt(10).gross(), 9);
        check.same("11", settledAt(11).gross(), 11);
        check.same("-10", settledAt(-10).gross(), -9);
        check.same("-11", settledAt(-11).gross(), -11);
        check.same("1", settledAt(1).gross(), 0);
        check.same("-1", settledAt(-1).gross(), 0);
        BatchDoser x = settledAt(0);
        x.ticks(0, 50);
        check.same("0", x.gross(), 0);
        BatchDoser y = settledAt(300);
        y.zero();
        y.ticks(311, 9);
        check.same("11 above the zero", y.gross(), 11);
        y.ticks(310, 4);
        check.same("10 above the zero", y.gross(), 310 - 304);
        BatchDoser z = settledAt(60);
        z.addStep(0, 100, 0);
        z.start();
        z.tick(60);
        z.abort();
        z.ticks(63, 4);
        check.same("net()", z.net(), 3);
        check.same("the net may be from -10 to 10", z.gross(), 63);
        z.ticks(7, 4);
        check.same("the net need not", z.gross(), 6);
    }

    private static void trackingByOne(Check check) {
        check.sentence("the zero moves by 1 towards the reading");
        BatchDoser x = settledAt(3);
        check.same("the first tick", x.gross(), 2);
        x.tick(3);
        check.same("the second", x.gross(), 1);
        x.tick(3);
        check.same("the third", x.gross(), 0);
        x.tick(3);
        check.same("no further", x.gross(), 0);
        BatchDoser y = settledAt(-3);
        check.same("downwards", y.gross(), -2);
        y.ticks(-3, 2);
        check.same("to the reading", y.gross(), 0);
        y.ticks(-3, 20);
        check.same("no further", y.gross(), 0);
    }

    private static void trackingWithinBounds(Check check) {
        check.sentence("if the zero moved so is from -500 to 500");
        for (int sign = -1; sign <= 1; sign += 2) {
            BatchDoser x = settledAt(sign * 499);
            x.zero();
            x.tick(sign * 500);
            check.same("to 500", x.gross(), 0);
            x.tick(sign * 501);
            check.same("not to 501", x.gross(), sign);
            x.ticks(sign * 502, 9);
            check.same("nor later", x.gross(), sign * 2);
            x.ticks(sign * 499, 4);
            check.same("back from 500", x.gross(), 0);
        }
    }

    private static void readingsOfTick(Check check) {
        check.sentence("tick: `reading`: -1000 to 100000");
        BatchDoser x = new BatchDoser();
        check.same("tick(-1000)", x.tick(-1000), 0);
        check.same("gross()", x.gross(), -1000);
        check.same("tick(100000)", x.tick(100000), 0);
        check.same("gross()", x.gross(), 100000);
        for (int reading : new int[] {-1001, 100001, Integer.MIN_VALUE, Integer.MAX_VALUE}) {
            check.noArgument("tick(" + reading + ")", () -> x.tick(reading));
        }
    }

    private static void readingsOfTicks(Check check) {
        check.sentence("ticks: `reading`: -1000 to 100000");
        BatchDoser x = new BatchDoser();
        check.same("ticks(-1000, 1)", x.ticks(-1000, 1), 0);
        check.same("gross()", x.gross(), -1000);
        check.same("ticks(100000, 1)", x.ticks(100000, 1), 0);
        check.same("gross()", x.gross(), 100000);
        for (int reading : new int[] {-1001, 100001, Integer.MIN_VALUE, Integer.MAX_VALUE}) {
            check.noArgument("ticks(" + reading + ", 1)", () -> x.ticks(reading, 1));
            check.noArgument("ticks(" + reading + ", 0)", () -> x.ticks(reading, 0));
        }
    }

    private static void countOfTicks(Check check) {
        check.sentence("`ticks`: 1 to 50");
        BatchDoser x = new BatchDoser();
        check.same("ticks(5, 1)", x.ticks(5, 1), 0);
        check.same("ticks(5, 50)", x.ticks(5, 50), 0);
        for (int ticks : new int[] {0, -1, 51, Integer.MIN_VALUE, Integer.MAX_VALUE}) {
            check.noArgument("ticks(5, " + ticks + ")", () -> x.ticks(5, ticks));
        }
    }

    private static void ticksBringAsMany(Check check) {
        check.sentence("Brings the same reading several times");
        BatchDoser x = settledAt(100);
        x.zero();
        x.ticks(110, 3);
        x.ticks(110, 1);
        check.same("1 tick of tracking", x.gross(), 9);
        BatchDoser y = settledAt(499);
        y.zero();
        y.tick(496);
        y.ticks(490, 3);
        y.ticks(490, 5);
        check.same("5 ticks of tracking", y.gross(), -3);
        BatchDoser z = Given.tared(100, 0);
        check.same("ticks(0, 50)", z.ticks(0, 50), 6);
        check.same("alarm()", z.alarm(), 3);
        z.resume();
        check.same("ticks(0, 19)", z.ticks(0, 19), 2);
        check.same("ticks(0, 1)", z.ticks(0, 1), 6);
    }

    private static void fiftyTicks(Check check) {
        check.sentence("Brings the same reading several times (50 times)");
        for (int ticks = 49; ticks <= 50; ticks++) {
            BatchDoser x = new BatchDoser();
            x.addStep(0, 1, 1);
            x.addStep(0, 1, 1);
            x.addStep(0, 1, 0);
            x.tick(7000);
            x.start();
            x.tick(0);
            // Taring at the third tick, two steps of 6 ticks, and one with 5 jogs: 2 + 6 + 6 + 36.
            check.same("ticks(0, " + ticks + ")", x.ticks(0, ticks), ticks == 50 ? 6 : 4);
            check.same("alarm()", x.alarm(), ticks == 50 ? 1 : 0);
        }
    }

    private static void zeroInStateZero(Check check) {
        check.sentence("zero() throws if the state is not 0");
        for (int state = 1; state <= 6; state++) {
            BatchDoser x = Given.inState(state);
            int gross = x.gross();
            check.yes("isSettled()", x.isSettled());
            check.noState("zero() in state " + state, x::zero);
            check.same("gross()", x.gross(), gross);
            x.abort();
            check.same("zero() in state 0", x.zero(), 0);
        }
    }

    private static void zeroWhenSettled(Check check) {
        check.sentence("zero() throws if the scale is not settled");
        BatchDoser x = new BatchDoser();
        check.noState("no reading", x::zero);
        x.ticks(100, 3);
        check.noState("3 readings", x::zero);
        x.tick(104);
        check.noState("4 apart", x::zero);
        check.same("gross()", x.gross(), 104);
        x.tick(103);
        x.tick(101);
        x.tick(102);
        check.same("3 apart", x.zero(), 0);
        check.same("by the latest reading", x.gross(), 0);
    }

    private static void zeroWithinBounds(Check check) {
        check.sentence("zero() throws if the reading is not from -500 to 500");
        check.same("500", settledAt(500).zero(), 0);
        check.same("-500", settledAt(-500).zero(), 0);
        BatchDoser x = settledAt(501);
        check.noState("501", x::zero);
        check.same("gross()", x.gross(), 501);
        BatchDoser y = settledAt(-501);
        check.noState("-501", y::zero);
        check.same("gross()", y.gross(), -501);
        BatchDoser z = settledAt(400);
        z.zero();
        z.ticks(501, 4);
        check.same("gross()", z.gross(), 101);
        check.noState("the reading, not the gross", z::zero);
        z.ticks(-200, 4);
        check.same("gross()", z.gross(), -600);
        check.same("the gross may be beyond", z.zero(), 400);
    }

    private static void zeroBefore(Check check) {
        check.sentence("Returns the zero before");
        BatchDoser x = settledAt(500);
        check.same("at first", x.zero(), 0);
        x.ticks(-500, 4);
        check.same("500", x.zero(), 500);
        check.same("-500", x.zero(), -500);
        x.tick(-498);
        check.same("by tracking", x.zero(), -499);
    }

    private static void bandWithinBounds(Check check) {
        check.sentence("`band`: 0 to 50");
        BatchDoser x = new BatchDoser();
        x.ticks(200, 3);
        x.tick(250);
        x.setBand(50);
        check.yes("50 apart with the band 50", x.isSettled());
        x.tick(251);
        check.no("51 apart", x.isSettled());
        x.setBand(0);
        x.ticks(251, 2);
        check.no("1 apart with the band 0", x.isSettled());
        x.tick(251);
        check.yes("0 apart", x.isSettled());
        for (int band : new int[] {-1, 51, Integer.MIN_VALUE, Integer.MAX_VALUE}) {
            check.noArgument("setBand(" + band + ")", () -> x.setBand(band));
        }
        check.yes("isSettled()", x.isSettled());
        x.tick(252);
        check.no("the band is 0 still", x.isSettled());
    }

    private static void bandBefore(Check check) {
        check.sentence("Returns the band before");
        BatchDoser x = new BatchDoser();
        check.same("setBand(50)", x.setBand(50), 3);
        check.noArgument("setBand(51)", () -> x.setBand(51));
        check.same("setBand(0)", x.setBand(0), 50);
        check.noArgument("setBand(-1)", () -> x.setBand(-1));
        check.same("setBand(0)", x.setBand(0), 0);
        check.same("setBand(7)", x.setBand(7), 0);
    }

    private static void grossWithoutReading(Check check) {
        check.sentence("less the zero, if there was none");
        BatchDoser x = new BatchDoser();
        check.same("gross()", x.gross(), 0);
        check.same("net()", x.net(), 0);
        x.addStep(0, 100, 0);
        x.start();
        check.same("abort() without a reading", x.abort(), 0);
        check.same("gross()", x.gross(), 0);
    }

    private static void grossAndNetFarOut(Check check) {
        check.sentence("Returns the net by the latest reading");
        BatchDoser x = settledAt(500);
        x.zero();
        x.addStep(0, 100, 0);
        x.ticks(-1000, 4);
        check.same("the least gross", x.gross(), -1500);
        x.start();
        x.tick(-1000);
        check.same("net()", x.net(), 0);
        x.abort();
        x.ticks(-500, 4);
        x.zero();
        x.tick(100000);
        check.same("the greatest gross", x.gross(), 100500);
        check.same("the greatest net", x.net(), 102000);
    }
}
