/** The boundary cases of the tick and its states, a test for each sentence of "Terms". */
final class StateBounds {
    static boolean pass() {
        Check check = new Check("bounds of the states");
        gatesInEveryState(check);
        oneStateATick(check);
        taringWhenSettled(check);
        feedAboveTheMargin(check);
        marginOfTheMoment(check);
        coarseEnds(check);
        fineEnds(check);
        fineEndsWithFlightsFarOut(check);
        fourthTick(check);
        countedAnew(check);
        eachTickAfterTheFourth(check);
        errorDividedByFour(check);
        flightWithinBounds(check);
        firstTimeInTheStep(check);
        belowTheTolerance(check);
        fiveJogs(check);
        aboveTheTolerance(check);
        aboveTheToleranceAfterJogs(check);
        secondTickOfAJog(check);
        return check.close();
    }

    private static void gatesInEveryState(Check check) {
        check.sentence("all other gates are closed (0)");
        int[] gates = {0, 0, 2, 1, 0, 1, 0};
        for (int state = 0; state <= 6; state++) {
            BatchDoser x = Given.inState(state);
            for (int bin = 0; bin <= 3; bin++) {
                check.same("gate(" + bin + ") in state " + state, x.gate(bin), bin == 2 ? gates[state] : 0);
            }
        }
        BatchDoser x = new BatchDoser();
        x.addStep(3, 10, 0);
        x.addStep(0, 100, 0);
        x.start();
        x.ticks(0, 4);
        check.same("gate(3)", x.gate(3), 1);
        check.same("gate(0) of the next step", x.gate(0), 0);
        x.ticks(10, 5);
        check.same("gate(3) between steps", x.gate(3), 0);
        check.same("gate(0) between steps", x.gate(0), 0);
        x.tick(10);
        check.same("gate(3) of the step before", x.gate(3), 0);
        check.same("gate(0)", x.gate(0), 2);
    }

    private static void oneStateATick(Check check) {
        check.sentence("by the state at the beginning of the tick");
        BatchDoser x = new BatchDoser();
        x.addStep(0, 100, 0);
        x.ticks(7000, 4);
        x.start();
        check.same("from 1", x.tick(7000), 2);
        check.same("from 2", x.tick(9000), 3);
        check.same("from 3", x.tick(9000), 4);
        check.same("the tick that brought 4 is not one in it", x.ticks(9000, 3), 4);
        check.same("from 4", x.tick(9000), 6);
        BatchDoser y = Given.inState(5);
        check.same("from 5", y.ticks(90, 2), 4);
        check.same("the tick that brought 4 is not one in it", y.ticks(90, 3), 4);
        check.same("from 4", y.tick(90), 5);
    }

    private static void taringWhenSettled(Check check) {
        check.sentence("if the scale is settled, the tare becomes the gross");
        BatchDoser x = new BatchDoser();
        x.addStep(0, 100, 0);
        x.start();
        check.same("3 readings", x.ticks(30, 3), 1);
        check.same("net()", x.net(), 30);
        check.same("4 apart", x.tick(34), 1);
        check.same("net()", x.net(), 34);
        check.same("34 apart", x.ticks(0, 3), 1);
        check.same("3 apart", x.tick(3), 2);
        check.same("by this reading", x.net(), 0);
        BatchDoser y = new BatchDoser();
        y.addStep(0, 100, 0);
        y.start();
        for (int tick = 0; tick < 50; tick++) {
            check.same("never settled", y.tick(tick % 2 * 4), 1);
        }
        BatchDoser z = new BatchDoser();
        z.addStep(0, 100, 0);
        z.ticks(0, 3);
        z.start();
        check.same("readings ahead of the batch count", z.tick(0), 2);
        BatchDoser w = new BatchDoser();
        w.addStep(0, 100, 0);
        w.ticks(-1000, 4);
        w.start();
        w.tick(-1000);
        check.same("a tare far below 0", w.net(), 0);
    }

    private static void feedAboveTheMargin(Check check) {
        check.sentence("the state becomes 2, if the target is above the margin of the bin, otherwise 3");
        check.same("51 and 50", feedOf(51, 50), 2);
        check.same("50 and 50", feedOf(50, 50), 3);
        check.same("49 and 50", feedOf(49, 50), 3);
        check.same("1 and 0", feedOf(1, 0), 2);
        check.same("1 and 1", feedOf(1, 1), 3);
        check.same("1000 and 1000", feedOf(1000, 1000), 3);
        check.same("1001 and 1000", feedOf(1001, 1000), 2);
        check.same("10000 and 1000", feedOf(10000, 1000), 2);
    }

    /** The state after the taring. */
    private static int feedOf(int target, int margin) {
        BatchDoser x = new BatchDoser();
        x.setMargin(1, margin);
        x.addStep(1, target, 0);
        x.start();
        return x.ticks(0, 4);
    }

    private static void marginOfTheMoment(Check check) {
        check.sentence("the margin of the bin");
        BatchDoser x = new BatchDoser();
        x.addStep(1, 100, 0);
        x.start();
        x.ticks(0, 3);
        x.setMargin(1, 100);
        check.same("changed ahead of the taring", x.tick(0), 3);
        x.setMargin(1, 0);
        check.same("changed after it", x.tick(0), 3);
        BatchDoser y = Given.tared(100, 0);
        y.tick(40);
        y.setMargin(1, 1000);
        check.same("of another bin", y.tick(40), 2);
        y.setMargin(0, 60);
        check.same("of this bin", y.tick(40), 3);
    }

    private static void coarseEnds(Check check) {
        check.sentence("if the net is the target less the margin, or more, the state becomes 3");
        check.same("49 of 50", Given.tared(100, 0).tick(49), 2);
        check.same("50 of 50", Given.tared(100, 0).tick(50), 3);
        check.same("51 of 50", Given.tared(100, 0).tick(51), 3);
        BatchDoser x = Given.tared(100, 0);
        x.setMargin(0, 0);
        check.same("99 of 100", x.tick(99), 2);
        check.same("100 of 100", x.tick(100), 3);
        BatchDoser y = new BatchDoser();
        y.setMargin(0, 1000);
        y.addStep(0, 1001, 0);
        y.start();
        y.ticks(0, 4);
        check.same("0 of 1", y.tick(0), 2);
        check.same("1 of 1", y.tick(1), 3);
        BatchDoser z = Given.tared(100, 0);
        z.setMargin(0, 1000);
        check.same("-901 of -900", z.tick(-901), 2);
        check.same("-900 of -900", z.tick(-900), 3);
    }

    private static void fineEnds(Check check) {
        check.sentence("if the net is the target less the flight, or more, the state becomes 4");
        for (int net = 79; net <= 81; net++) {
            BatchDoser x = Given.tared(100, 0);
            x.tick(50);
            check.same(net + " of 80", x.tick(net), net < 80 ? 3 : 4);
        }
        check.same("-11 of -10", Given.tared(10, 0).tick(-11), 3);
        check.same("-10 of -10", Given.tared(10, 0).tick(-10), 4);
    }

    private static void fineEndsWithFlightsFarOut(Check check) {
        check.sentence("the target less the flight (of 0 and of 500)");
        BatchDoser x = Given.weighed(100, 1000, 20);
        check.same("flight(0)", x.flight(0), 0);
        x.start();
        x.ticks(0, 4);
        x.tick(50);
        check.same("99 of 100", x.tick(99), 3);
        check.same("100 of 100", x.tick(100), 4);
        BatchDoser y = Given.weighed(100, 1000, 5000);
        y.resume();
        check.same("flight(0)", y.flight(0), 500);
        y.start();
        y.ticks(0, 4);
        y.tick(50);
        check.same("-401 of -400", y.tick(-401), 3);
        check.same("-400 of -400", y.tick(-400), 4);
    }

    private static void fourthTick(Check check) {
        check.sentence("at the fourth tick in this state");
        BatchDoser x = Given.settling(100, 0, 100);
        x.setBand(0);
        for (int tick = 1; tick <= 3; tick++) {
            check.same("tick " + tick, x.tick(100), 4);
            check.same("flight(0)", x.flight(0), 20);
        }
        check.yes("settled", x.isSettled());
        check.same("tick 4", x.tick(100), 0);
        BatchDoser y = Given.tared(100, 0);
        y.setMargin(0, 1000);
        y.tick(0);
        y.ticks(90, 3);
        check.same("3 ticks in the state, 4 readings of 90", y.ticks(90, 1), 4);
        check.same("the fourth", y.tick(90), 5);
    }

    private static void countedAnew(Check check) {
        check.sentence("counted anew each time it becomes the state");
        BatchDoser x = Given.settling(100, 0, 90);
        check.same("from 3", x.ticks(90, 3), 4);
        check.same("the fourth", x.tick(90), 5);
        x.ticks(90, 2);
        check.same("from 5", x.ticks(90, 3), 4);
        check.same("the fourth", x.tick(90), 5);
        x.ticks(90, 2);
        x.ticks(90, 3);
        x.hold();
        x.ticks(90, 9);
        x.resume();
        check.same("from 6", x.ticks(90, 3), 4);
        check.same("the fourth", x.tick(90), 5);
        check.same("jogs()", x.jogs(), 3);
    }

    private static void eachTickAfterTheFourth(Check check) {
        check.sentence("and at each one after it, if the scale is settled");
        for (int due = 4; due <= 60; due += due < 8 ? 1 : 13) {
            BatchDoser x = Given.settling(100, 10, 100);
            for (int tick = 1; tick < due; tick++) {
                check.same("unsettled at tick " + tick, x.tick(100 + tick % 2 * 10), 4);
            }
            check.same("flight(0)", x.flight(0), 20);
            x.setBand(10);
            check.same("settled at tick " + due, x.tick(100), 0);
        }
    }

    private static void errorDividedByFour(Check check) {
        check.sentence("the flight of the bin grows by the error divided by 4, rounded down");
        int[] grown = {-2, -2, -1, -1, -1, -1, 0, 0, 0, 0, 1, 1, 1, 1, 2};
        for (int error = -6; error <= 8; error++) {
            BatchDoser x = Given.weighed(100, 1000, 100 + error);
            check.same("flight(0) after the error " + error, x.flight(0), 20 + grown[error + 6]);
            check.same("flight(1)", x.flight(1), 20);
        }
    }

    private static void flightWithinBounds(Check check) {
        check.sentence("but stays within 0 and 500");
        check.same("20 + 479", Given.weighed(100, 1000, 100 + 1919).flight(0), 499);
        check.same("20 + 480", Given.weighed(100, 1000, 100 + 1920).flight(0), 500);
        check.same("20 + 481", Given.weighed(100, 1000, 100 + 1924).flight(0), 500);
        check.same("the most", Given.weighed(1, 1000, 100000).flight(0), 500);
        check.same("20 - 19", Given.weighed(100, 1000, 100 - 76).flight(0), 1);
        check.same("20 - 20", Given.weighed(100, 1000, 100 - 77).flight(0), 0);
        check.same("20 - 20", Given.weighed(100, 1000, 100 - 80).flight(0), 0);
        check.same("20 - 21", Given.weighed(100, 1000, 100 - 81).flight(0), 0);
        check.same("the least", Given.weighed(10000, 1000, -1000).flight(0), 0);
        BatchDoser x = Given.weighed(100, 1000, 5000);
        x.resume();
        Given.dose(x, 96);
        check.same("from 500 down by 1", x.flight(0), 499);
        BatchDoser y = Given.weighed(100, 1000, -500);
        Given.dose(y, 104);
        check.same("from 0 up by 1", y.flight(0), 1);
    }

    private static void firstTimeInTheStep(Check check) {
        check.sentence("If it is the first time in this step");
        BatchDoser x = new BatchDoser();
        x.addStep(0, 100, 0);
        x.addStep(0, 100, 1000);
        x.start();
        x.ticks(0, 4);
        Given.settle(x, 92);
        x.ticks(92, 4);
        check.same("the first time", x.flight(0), 18);
        x.ticks(92, 6);
        check.same("jogs()", x.jogs(), 2);
        check.same("the second time", x.flight(0), 18);
        x.ticks(92, 5);
        x.hold();
        x.resume();
        x.ticks(92, 4);
        check.same("jogs()", x.jogs(), 3);
        check.same("the third time, after hold", x.flight(0), 18);
        x.ticks(100, 6);
        check.same("the next step", x.step(), 1);
        x.tick(100);
        Given.settle(x, 208);
        x.ticks(208, 4);
        check.same("the first time in the next step", x.flight(0), 20);
        Given.dose(x, 500);
        check.same("the same step in another batch", x.flight(0), 120);
        BatchDoser y = Given.settling(100, 0, 92);
        y.ticks(92, 3);
        y.hold();
        y.resume();
        y.ticks(92, 4);
        check.same("held ahead of the first time", y.flight(0), 18);
    }

    private static void belowTheTolerance(Check check) {
        check.sentence("if the error is below 0 less the tolerance, the state becomes 5");
        check.same("0 with 0", Given.weighed(100, 0, 100).state(), 0);
        check.same("-1 with 0", Given.weighed(100, 0, 99).state(), 5);
        check.same("-6 with 6", Given.weighed(100, 6, 94).state(), 0);
        check.same("-7 with 6", Given.weighed(100, 6, 93).state(), 5);
        check.same("-1000 with 1000", Given.weighed(10000, 1000, 9000).state(), 0);
        check.same("-1001 with 1000", Given.weighed(10000, 1000, 8999).state(), 5);
        check.same("register(0) when done", Given.weighed(100, 0, 100).register(0), 100);
        check.same("register(0) when jogging", Given.weighed(100, 0, 99).register(0), 0);
    }

    private static void fiveJogs(Check check) {
        check.sentence("if there were fewer than 5 jogs in this step, otherwise 6 with the alarm 1");
        BatchDoser x = Given.settling(100, 0, 90);
        for (int jog = 1; jog <= 5; jog++) {
            check.same("weighing " + jog, x.ticks(90, 4), 5);
            check.same("jogs()", x.jogs(), jog);
            check.same("alarm()", x.alarm(), 0);
            check.same("settling", x.ticks(90, 2), 4);
        }
        check.same("the tick ahead of it", x.ticks(90, 3), 4);
        check.same("weighing 6", x.tick(90), 6);
        check.same("alarm()", x.alarm(), 1);
        check.same("jogs()", x.jogs(), 5);
        check.same("nothing is booked", x.register(0), 0);
    }

    private static void aboveTheTolerance(Check check) {
        check.sentence("if the error is above the tolerance, the state becomes 6 with the alarm 2");
        aboveTolerance(check, 100, 0, 100, 0);
        aboveTolerance(check, 100, 0, 101, 6);
        aboveTolerance(check, 100, 6, 106, 0);
        aboveTolerance(check, 100, 6, 107, 6);
        aboveTolerance(check, 10000, 1000, 11000, 0);
        aboveTolerance(check, 10000, 1000, 11001, 6);
    }

    private static void aboveTolerance(Check check, int target, int tolerance, int net, int state) {
        BatchDoser x = Given.weighed(target, tolerance, net);
        String when = net + " of " + target + " with " + tolerance;
        check.same(when, x.state(), state);
        check.same("alarm() " + when, x.alarm(), state == 6 ? 2 : 0);
        check.same("register(0) " + when, x.register(0), state == 6 ? 0 : net);
        check.same("done() " + when, x.done(), state == 6 ? 0 : 1);
        check.same("jogs() " + when, x.jogs(), 0);
    }

    private static void aboveTheToleranceAfterJogs(Check check) {
        check.sentence("otherwise the step is done");
        for (int net = 94; net <= 106; net += 6) {
            BatchDoser x = Given.settling(100, 5, 90);
            x.ticks(90, 30);
            check.same("5 jogs", x.jogs(), 5);
            x.ticks(net, 4);
            check.same("state()", x.state(), net == 100 ? 0 : 6);
            check.same("alarm()", x.alarm(), net < 100 ? 1 : net > 100 ? 2 : 0);
            check.same("done()", x.done(), net == 100 ? 1 : 0);
        }
    }

    private static void secondTickOfAJog(Check check) {
        check.sentence("at the second tick in this state it becomes 4");
        BatchDoser x = Given.settling(100, 0, 90);
        x.ticks(90, 4);
        for (int jog = 1; jog <= 5; jog++) {
            check.same("the first tick", x.tick(90), 5);
            check.same("the second tick", x.tick(90 + jog % 2 * 500), 4);
            x.ticks(90, 4);
        }
        check.same("alarm()", x.alarm(), 1);
        BatchDoser y = Given.inState(5);
        y.setBand(0);
        check.same("whether settled or not", y.tick(0), 5);
        check.same("and whatever the net", y.tick(9000), 4);
    }
}
