/** The boundary cases of the belt, a test for each sentence of promise 31, and of the last call of an object. */
final class BeltBounds {
    static boolean pass() {
        Check check = new Check("bounds of the belt");
        loads(check);
        speeds(check);
        countsOfTicks(check);
        fractionsAreKept(check);
        roundedDown(check);
        timesForEachTick(check);
        beyondThirtyTwoBits(check);
        apartFromTheBatches(check);
        lastCall(check);
        return check.close();
    }

    private static void loads(Check check) {
        check.sentence("`load`: 0 to 10000");
        BatchDoser x = new BatchDoser();
        check.same("belt(0, 1000, 100)", x.belt(0, 1000, 100), 0);
        check.same("belt(10000, 1, 1)", x.belt(10000, 1, 1), 10);
        for (int load : new int[] {-1, 10001, Integer.MIN_VALUE, Integer.MAX_VALUE}) {
            check.noArgument("belt(" + load + ", 1, 1)", () -> x.belt(load, 1, 1));
            check.noArgument("belt(" + load + ", 0, 1)", () -> x.belt(load, 0, 1));
        }
        check.same("nothing was carried", x.belt(0, 0, 1), 10);
    }

    private static void speeds(Check check) {
        check.sentence("`speed`: 0 to 1000");
        BatchDoser x = new BatchDoser();
        check.same("belt(10000, 0, 100)", x.belt(10000, 0, 100), 0);
        check.same("belt(1, 1000, 1)", x.belt(1, 1000, 1), 1);
        for (int speed : new int[] {-1, 1001, Integer.MIN_VALUE, Integer.MAX_VALUE}) {
            check.noArgument("belt(1000, " + speed + ", 1)", () -> x.belt(1000, speed, 1));
            check.noArgument("belt(0, " + speed + ", 1)", () -> x.belt(0, speed, 1));
        }
        check.same("nothing was carried", x.belt(0, 0, 1), 1);
    }

    private static void countsOfTicks(Check check) {
        check.sentence("belt: `ticks`: 1 to 100");
        BatchDoser x = new BatchDoser();
        check.same("belt(1000, 1, 1)", x.belt(1000, 1, 1), 1);
        check.same("belt(1000, 1, 100)", x.belt(1000, 1, 100), 101);
        for (int ticks : new int[] {0, -1, 101, Integer.MIN_VALUE, Integer.MAX_VALUE}) {
            check.noArgument("belt(1000, 1, " + ticks + ")", () -> x.belt(1000, 1, ticks));
            check.noArgument("belt(0, 0, " + ticks + ")", () -> x.belt(0, 0, ticks));
        }
        check.same("nothing was carried", x.belt(0, 0, 1), 101);
    }

    private static void fractionsAreKept(Check check) {
        check.sentence("fractions are kept");
        BatchDoser x = new BatchDoser();
        for (int thousandths = 1; thousandths <= 300; thousandths++) {
            check.same("belt(333, 1, 1)", x.belt(333, 1, 1), 333 * thousandths / 1000);
        }
        BatchDoser y = new BatchDoser();
        check.same("within one call", y.belt(1, 1, 99), 0);
        check.same("a tenth is there", y.belt(9, 100, 1), 0);
        check.same("and one thousandth short", y.belt(1, 1, 1), 1);
    }

    private static void roundedDown(Check check) {
        check.sentence("Returns what the belt has carried so far, rounded down");
        BatchDoser x = new BatchDoser();
        check.same("nothing", x.belt(0, 0, 1), 0);
        check.same("0.999", x.belt(999, 1, 1), 0);
        check.same("1", x.belt(1, 1, 1), 1);
        check.same("1.999", x.belt(111, 9, 1), 1);
        check.same("2", x.belt(1, 1, 1), 2);
        check.same("2.001", x.belt(1, 1, 1), 2);
    }

    private static void timesForEachTick(Check check) {
        check.sentence("the load times the speed, for each tick, in thousandths");
        check.same("belt(7, 11, 13)", new BatchDoser().belt(7, 11, 13), 1);
        check.same("belt(70, 110, 13)", new BatchDoser().belt(70, 110, 13), 100);
        check.same("belt(700, 110, 13)", new BatchDoser().belt(700, 110, 13), 1001);
        check.same("the most", new BatchDoser().belt(10000, 1000, 100), 1000000);
    }

    private static void beyondThirtyTwoBits(Check check) {
        check.sentence("`long belt(int load, int speed, int ticks)`");
        BatchDoser x = new BatchDoser();
        for (int call = 1; call <= 5; call++) {
            check.same("the most in thousandths", x.belt(10000, 1000, 100), call * 1000000L);
        }
    }

    private static void apartFromTheBatches(Check check) {
        check.sentence("Lets a belt run");
        for (int state = 0; state <= 6; state++) {
            BatchDoser x = Given.inState(state);
            int net = x.net();
            check.same("belt in state " + state, x.belt(10000, 1000, 100), 1000000);
            check.same("state()", x.state(), state);
            check.same("net()", x.net(), net);
            check.same("register(2)", x.register(2), 0);
        }
    }

    private static void lastCall(Check check) {
        check.sentence("An object is used for at most 512 calls after it has been made");
        BatchDoser x = new BatchDoser();
        for (int call = 1; call <= 511; call++) {
            x.belt(10000, 1000, 100);
        }
        check.same("the 512th call", x.belt(10000, 1000, 100), 512000000L);
        BatchDoser y = new BatchDoser();
        for (int call = 1; call <= 511; call++) {
            y.ticks(100000 - call % 2, 50);
        }
        check.yes("the 512th call", y.isSettled());
    }
}
