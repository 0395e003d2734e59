/** The boundary cases of idle ticks and of steps that begin and are done, a test for each sentence of "Terms". */
final class StepBounds {
    static boolean pass() {
        Check check = new Check("bounds of the steps");
        netNotAboveTheGreatest(check);
        zeroAheadOfTheFirst(check);
        greatestOfThisStep(check);
        greatestInFeedAlone(check);
        idleInFeedAlone(check);
        twentyIdleTicks(check);
        twentyInFineFeed(check);
        oneBehindTheOther(check);
        idleFromCoarseToFine(check);
        changeToFineInTheLastOne(check);
        changeToSettlingInTheLastOne(check);
        jogsOfABeginningStep(check);
        idleTicksOfABeginningStep(check);
        netBelowZeroIsBookedAsZero(check);
        nextStepOrLastOne(check);
        sixStepsInABatch(check);
        noAlarmUnlessHeld(check);
        return check.close();
    }

    private static void netNotAboveTheGreatest(Check check) {
        check.sentence("a tick at which the net is not above the greatest net is idle");
        for (int last = 29; last <= 31; last++) {
            BatchDoser x = Given.tared(100, 0);
            x.tick(30);
            x.ticks(10, 19);
            check.same("30, 19 times 10, " + last, x.tick(last), last > 30 ? 2 : 6);
        }
    }

    private static void zeroAheadOfTheFirst(Check check) {
        check.sentence("0 ahead of the first");
        for (int first = -1; first <= 1; first++) {
            BatchDoser x = Given.tared(100, 0);
            x.tick(first);
            check.same("18 more", x.ticks(first, 18), 2);
            check.same("the 20th after " + first, x.tick(first), first > 0 ? 2 : 6);
            check.same("the 21st after " + first, x.tick(first), 6);
        }
    }

    private static void greatestOfThisStep(Check check) {
        check.sentence("the greatest net of this step");
        BatchDoser x = new BatchDoser();
        x.addStep(0, 100, 5);
        x.addStep(0, 200, 5);
        x.start();
        x.ticks(0, 4);
        x.ticks(100, 6);
        check.same("the second step is tared", x.tick(100), 2);
        check.same("19 idle ticks", x.ticks(100, 19), 2);
        check.same("1 is above 0", x.tick(101), 2);
        check.same("19 idle ticks", x.ticks(101, 19), 2);
        check.same("the 20th", x.tick(101), 6);
        x.abort();
        x.ticks(0, 4);
        x.start();
        x.tick(0);
        x.ticks(0, 19);
        check.same("1 is above 0 in the next batch", x.tick(1), 2);
    }

    private static void greatestInFeedAlone(Check check) {
        check.sentence("so far in the state 2 or 3");
        BatchDoser x = Given.tared(100, 0);
        x.tick(10);
        x.hold();
        x.ticks(49, 9);
        x.resume();
        x.ticks(10, 19);
        check.same("a net while held is none of them", x.tick(11), 2);
        x.hold();
        x.resume();
        x.ticks(11, 19);
        check.same("a net ahead of the hold is one", x.tick(11), 6);
        x.resume();
        x.ticks(11, 19);
        check.same("and ahead of the alarm too", x.tick(11), 6);
        BatchDoser y = new BatchDoser();
        y.addStep(0, 100, 0);
        y.start();
        y.ticks(60, 3);
        y.ticks(0, 4);
        y.ticks(0, 19);
        check.same("a net ahead of the taring is none", y.tick(1), 2);
        BatchDoser z = Given.tared(100, 0);
        z.tick(60);
        check.same("19 in state 3", z.ticks(60, 19), 3);
        check.same("the net in state 2 is one in state 3", z.tick(60), 6);
    }

    private static void idleInFeedAlone(Check check) {
        check.sentence("In the states 2 and 3");
        BatchDoser x = new BatchDoser();
        x.addStep(0, 100, 0);
        x.start();
        for (int tick = 0; tick < 60; tick++) {
            check.same("no alarm in state 1", x.tick(tick % 2 * 4 - 50), 1);
        }
        BatchDoser y = Given.settling(100, 0, 90);
        for (int tick = 0; tick < 60; tick++) {
            check.same("no alarm in state 4", y.tick(tick % 2 * 4), 4);
        }
        BatchDoser z = Given.tared(100, 0);
        z.hold();
        z.ticks(0, 50);
        check.same("no alarm in state 6", z.alarm(), 0);
    }

    private static void twentyIdleTicks(Check check) {
        check.sentence("if there are 20 idle ticks or more one behind the other");
        BatchDoser x = Given.tared(100, 0);
        for (int tick = 1; tick <= 19; tick++) {
            check.same("idle tick " + tick, x.tick(0), 2);
            check.same("alarm()", x.alarm(), 0);
        }
        check.same("idle tick 20", x.tick(0), 6);
        check.same("alarm()", x.alarm(), 3);
    }

    private static void twentyInFineFeed(Check check) {
        check.sentence("20 idle ticks in the state 3");
        BatchDoser x = Given.tared(50, 0);
        for (int tick = 1; tick <= 19; tick++) {
            check.same("idle tick " + tick, x.tick(0), 3);
        }
        check.same("idle tick 20", x.tick(0), 6);
        check.same("alarm()", x.alarm(), 3);
        check.same("resume()", x.resume(), 3);
    }

    private static void oneBehindTheOther(Check check) {
        check.sentence("one behind the other");
        BatchDoser x = Given.tared(100, 0);
        for (int net = 1; net <= 5; net++) {
            check.same("a rise to " + net, x.tick(net), 2);
            check.same("19 idle ticks", x.ticks(net, 19), 2);
        }
        check.same("the 20th", x.tick(5), 6);
        check.same("alarm()", x.alarm(), 3);
    }

    private static void idleFromCoarseToFine(Check check) {
        check.sentence("20 idle ticks or more one behind the other (from state 2 into 3)");
        BatchDoser x = Given.tared(100, 0);
        x.ticks(40, 16);
        x.setMargin(0, 60);
        check.same("the 16th", x.tick(40), 3);
        check.same("the 19th", x.ticks(40, 3), 3);
        check.same("the 20th", x.tick(40), 6);
        check.same("alarm()", x.alarm(), 3);
    }

    private static void changeToFineInTheLastOne(Check check) {
        check.sentence("and the state did not change in the last one");
        BatchDoser x = Given.tared(100, 0);
        x.ticks(40, 20);
        x.setMargin(0, 60);
        check.same("the 20th changes the state", x.tick(40), 3);
        check.same("alarm()", x.alarm(), 0);
        check.same("the 21st does not", x.tick(40), 6);
        check.same("alarm()", x.alarm(), 3);
        check.same("resume()", x.resume(), 3);
    }

    private static void changeToSettlingInTheLastOne(Check check) {
        check.sentence("the state did not change in the last one (from 3 to 4)");
        for (int idle = 17; idle <= 19; idle++) {
            BatchDoser x = new BatchDoser();
            x.addStep(0, 100, 0);
            Given.dose(x, 260);
            check.same("flight(0)", x.flight(0), 60);
            x.start();
            x.ticks(0, 4);
            x.tick(45);
            check.same("idle ticks: " + idle, x.ticks(45, idle), 2);
            x.setMargin(0, 60);
            check.same("one more", x.tick(45), 3);
            check.same("and one more", x.tick(45), 4);
            check.same("alarm()", x.alarm(), 0);
        }
    }

    private static void jogsOfABeginningStep(Check check) {
        check.sentence("When a step begins, the counts of its jogs are 0");
        BatchDoser x = new BatchDoser();
        x.addStep(0, 100, 0);
        x.addStep(0, 100, 0);
        x.start();
        x.ticks(0, 4);
        Given.settle(x, 90);
        x.ticks(90, 30);
        check.same("jogs()", x.jogs(), 5);
        check.same("the step is done", x.ticks(100, 4), 1);
        check.same("jogs() of the next step", x.jogs(), 0);
        x.tick(100);
        Given.settle(x, 190);
        x.ticks(190, 28);
        check.same("5 jogs again", x.jogs(), 5);
        check.same("state()", x.state(), 5);
        x.abort();
        x.start();
        check.same("jogs() of the next batch", x.jogs(), 0);
    }

    private static void idleTicksOfABeginningStep(Check check) {
        check.sentence("When a step begins, the counts of its idle ticks are 0");
        BatchDoser x = new BatchDoser();
        x.addStep(0, 100, 0);
        Given.dose(x, 260);
        x.addStep(0, 100, 0);
        x.start();
        x.ticks(0, 4);
        // The flight of 60 lets a net of 45 pass from coarse to fine to settling, idle all the time.
        x.ticks(45, 16);
        x.setMargin(0, 60);
        check.same("17 idle ticks", x.ticks(45, 2), 4);
        check.same("the step is done", x.ticks(100, 4), 1);
        check.same("the next one is tared", x.tick(100), 2);
        check.same("19 idle ticks", x.ticks(100, 19), 2);
        x.abort();
        x.start();
        x.tick(100);
        check.same("19 idle ticks in the next batch", x.ticks(100, 19), 2);
        check.same("the 20th", x.tick(100), 6);
    }

    private static void netBelowZeroIsBookedAsZero(Check check) {
        check.sentence("its net, or 0 if that is below 0, is booked from its bin");
        for (int net = -2; net <= 2; net++) {
            BatchDoser x = new BatchDoser();
            x.fill(1, 50);
            x.addStep(1, 5, 1000);
            x.start();
            x.ticks(0, 4);
            x.tick(5);
            check.same("done", x.ticks(net, 4), 0);
            check.same("register(1) at " + net, x.register(1), Math.max(net, 0));
            check.same("registerByLots(1) at " + net, x.registerByLots(1), Math.max(net, 0));
            check.same("leftOf(0) at " + net, x.leftOf(0), 50 - Math.max(net, 0));
            check.same("used(0, 0) at " + net, x.used(0, 0), Math.max(net, 0));
            check.same("firstBatch(0) at " + net, x.firstBatch(0), net > 0 ? 0 : -1);
            check.same("done() at " + net, x.done(), 1);
        }
    }

    private static void nextStepOrLastOne(Check check) {
        check.sentence("then the next step begins in the state 1, or, if it was the last one, the batch is done");
        for (int steps = 1; steps <= 6; steps++) {
            BatchDoser x = new BatchDoser();
            for (int step = 0; step < steps; step++) {
                x.addStep(step % 4, 10, 0);
            }
            x.start();
            x.ticks(0, 4);
            for (int step = 0; step < steps; step++) {
                check.same("step() of " + steps, x.step(), step);
                check.same("done() of " + steps, x.done(), 0);
                int end = step + 1 < steps ? 1 : 0;
                check.same("state() of " + steps, x.ticks(10 * (step + 1), 5), end);
                x.tick(10 * (step + 1));
            }
            check.same("step() of " + steps, x.step(), -1);
            check.same("done() of " + steps, x.done(), 1);
        }
    }

    private static void sixStepsInABatch(Check check) {
        check.sentence("The recipe has up to 6 steps");
        BatchDoser x = new BatchDoser();
        for (int step = 0; step < 6; step++) {
            x.addStep(3 - step % 4, 11 + step, step);
        }
        x.start();
        x.ticks(0, 4);
        int sum = 0;
        for (int step = 0; step < 6; step++) {
            // The most that the step's own target and tolerance let pass.
            sum += 11 + 2 * step;
            check.same("step()", x.step(), step);
            check.same("gate()", x.gate(3 - step % 4), 1);
            check.same("state()", x.ticks(sum, 5), step < 5 ? 1 : 0);
            x.tick(sum);
        }
        check.same("register(3)", x.register(3), 11 + 19);
        check.same("register(2)", x.register(2), 13 + 21);
        check.same("register(1)", x.register(1), 15);
        check.same("register(0)", x.register(0), 17);
    }

    private static void noAlarmUnlessHeld(Check check) {
        check.sentence("There is no alarm (0) unless the state is 6");
        for (int state = 0; state <= 6; state++) {
            check.same("alarm() in state " + state, Given.inState(state).alarm(), 0);
        }
        for (int alarm = 1; alarm <= 3; alarm++) {
            BatchDoser x = Given.withAlarm(alarm);
            check.same("state()", x.state(), 6);
            check.same("alarm()", x.alarm(), alarm);
            x.ticks(0, 50);
            check.same("alarm() after ticks", x.alarm(), alarm);
            x.resume();
            check.same("alarm() after resume()", x.alarm(), 0);
            BatchDoser y = Given.withAlarm(alarm);
            y.abort();
            check.same("alarm() after abort()", y.alarm(), 0);
            y.start();
            y.hold();
            check.same("alarm() held in the next batch", y.alarm(), 0);
        }
    }
}
