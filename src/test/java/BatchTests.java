/** Promises 19 to 30, and the states of the tick. */
final class BatchTests {
    static boolean pass() {
        Check check = new Check("recipes and batches");
        stepsAreAdded(check);
        recipeIsCleared(check);
        batchesAreStarted(check);
        taringWaits(check);
        fineEndsAtTheFlight(check);
        settlingTakesFourTicks(check);
        tolerancesDecide(check);
        joggingTakesTwoTicks(check);
        flightIsLearnedOnceAStep(check);
        fiveJogsAndAnAlarm(check);
        idleTicksAlarm(check);
        idleTicksGoOnIntoFine(check);
        idleTicksThatChangeTheState(check);
        idleTicksBelowZero(check);
        greatestNetOutlivesHold(check);
        stepsBeginAnew(check);
        holdAndResume(check);
        resumeCountsAnew(check);
        resumeAfterAlarmsOneAndTwo(check);
        abortBooks(check);
        stepsFollowOneAnother(check);
        return check.close();
    }

    private static void stepsAreAdded(Check check) {
        BatchDoser x = new BatchDoser();
        check.noIndex("addStep(-1, ..)", () -> x.addStep(-1, 0, 0));
        check.noIndex("addStep(4, ..)", () -> x.addStep(4, 1, 0));
        check.noArgument("target 0", () -> x.addStep(0, 0, 0));
        check.noArgument("target 10001", () -> x.addStep(0, 10001, 0));
        check.noArgument("tolerance -1", () -> x.addStep(0, 1, -1));
        check.noArgument("tolerance 1001", () -> x.addStep(0, 1, 1001));
        check.same("addStep(0, 1, 0)", x.addStep(0, 1, 0), 1);
        check.same("addStep(3, 10000, 1000)", x.addStep(3, 10000, 1000), 2);
        for (int steps = 3; steps <= 6; steps++) {
            check.same("addStep", x.addStep(1, 5, 5), steps);
        }
        check.noState("a 7th step", () -> x.addStep(1, 5, 5));
        check.noIndex("bin first", () -> x.addStep(4, 0, 0));
        check.noArgument("target second", () -> x.addStep(0, 0, 0));
        check.same("clearRecipe()", x.clearRecipe(), 6);
        x.addStep(0, 1, 0);
        x.start();
        check.noState("addStep in a batch", () -> x.addStep(0, 1, 0));
        x.hold();
        check.noState("addStep while held", () -> x.addStep(0, 1, 0));
        x.abort();
        check.same("addStep idle again", x.addStep(0, 1, 0), 2);
    }

    private static void recipeIsCleared(Check check) {
        BatchDoser x = new BatchDoser();
        check.same("an empty recipe", x.clearRecipe(), 0);
        x.addStep(0, 10, 0);
        x.addStep(1, 10, 0);
        x.start();
        check.noState("clearRecipe() in a batch", x::clearRecipe);
        x.abort();
        check.same("clearRecipe()", x.clearRecipe(), 2);
        check.noState("start() after it", x::start);
        check.same("addStep after it", x.addStep(2, 1000, 0), 1);
        x.start();
        check.same("the new step is dosed", x.ticks(0, 4), 2);
        check.same("gate(2)", x.gate(2), 2);
    }

    private static void batchesAreStarted(Check check) {
        BatchDoser x = new BatchDoser();
        check.noState("start() without steps", x::start);
        x.addStep(0, 10, 0);
        for (int batch = 0; batch < 20; batch++) {
            check.same("start()", x.start(), batch);
            check.same("state()", x.state(), 1);
            check.same("step()", x.step(), 0);
            check.same("batches()", x.batches(), batch + 1);
            check.noState("start() in a batch", x::start);
            x.abort();
            check.same("step()", x.step(), -1);
        }
        check.noState("a 21st batch", x::start);
        check.same("batches()", x.batches(), 20);
        check.same("done()", x.done(), 0);
    }

    private static void taringWaits(Check check) {
        BatchDoser x = new BatchDoser();
        x.addStep(0, 100, 0);
        x.ticks(50, 4);
        x.start();
        check.same("no tick, no taring", x.state(), 1);
        check.same("unsettled", x.tick(80), 1);
        check.same("unsettled", x.ticks(80, 2), 1);
        check.same("net()", x.net(), 80);
        check.same("settled", x.tick(80), 2);
        check.same("net()", x.net(), 0);
        check.same("one change a tick", Given.tared(50, 0).state(), 3);
    }

    private static void fineEndsAtTheFlight(Check check) {
        BatchDoser x = Given.tared(100, 0);
        check.same("coarse", x.tick(49), 2);
        check.same("at target less margin", x.tick(50), 3);
        check.same("below target less flight", x.tick(79), 3);
        check.same("at target less flight", x.tick(80), 4);
        BatchDoser y = Given.tared(100, 0);
        check.same("one change a tick", y.tick(500), 3);
        check.same("then the next", y.tick(500), 4);
    }

    private static void settlingTakesFourTicks(Check check) {
        BatchDoser x = Given.settling(100, 0, 100);
        check.same("state()", x.state(), 4);
        check.same("three ticks", x.ticks(100, 3), 4);
        check.same("the fourth", x.tick(100), 0);
        check.same("done()", x.done(), 1);
        BatchDoser y = Given.settling(100, 0, 100);
        y.ticks(100, 2);
        check.same("the scale swings", y.ticks(104, 2), 4);
        check.same("and has to settle", y.ticks(100, 3), 4);
        check.same("then it is weighed", y.tick(100), 0);
        BatchDoser z = Given.settling(100, 5, 100);
        z.ticks(100, 3);
        check.same("a swing within the band", z.tick(103), 0);
        check.same("register(0)", z.register(0), 103);
    }

    private static void tolerancesDecide(Check check) {
        check.same("at the lower tolerance", Given.settling(100, 6, 94).ticks(94, 4), 0);
        check.same("below it", Given.settling(100, 6, 93).ticks(93, 4), 5);
        check.same("at the upper tolerance", Given.settling(100, 6, 106).ticks(106, 4), 0);
        BatchDoser x = Given.settling(100, 6, 107);
        check.same("above it", x.ticks(107, 4), 6);
        check.same("alarm()", x.alarm(), 2);
        check.same("done()", x.done(), 0);
        check.same("nothing booked yet", x.register(0), 0);
    }

    private static void joggingTakesTwoTicks(Check check) {
        BatchDoser x = Given.settling(100, 5, 90);
        check.same("jogs()", x.jogs(), 0);
        check.same("jogging", x.ticks(90, 4), 5);
        check.same("jogs()", x.jogs(), 1);
        check.same("one tick", x.tick(92), 5);
        check.same("the second tick", x.tick(95), 4);
        check.same("settling anew", x.ticks(95, 3), 4);
        check.same("weighed again", x.tick(95), 0);
        check.same("register(0)", x.register(0), 95);
        check.same("jogs() when idle", x.jogs(), 0);
        check.same("alarm()", x.alarm(), 0);
    }

    private static void flightIsLearnedOnceAStep(Check check) {
        BatchDoser x = Given.settling(100, 0, 80);
        x.ticks(80, 4);
        check.same("by the first weighing", x.flight(0), 15);
        x.ticks(80, 2);
        x.ticks(92, 4);
        check.same("jogs()", x.jogs(), 2);
        check.same("not by the second", x.flight(0), 15);
        x.ticks(120, 6);
        check.same("alarm()", x.alarm(), 2);
        check.same("not by the third", x.flight(0), 15);
        x.resume();
        x.ticks(0, 4);
        x.start();
        x.tick(0);
        x.ticks(108, 2);
        x.ticks(108, 4);
        check.same("by the next step", x.flight(0), 17);
    }

    private static void fiveJogsAndAnAlarm(Check check) {
        BatchDoser x = Given.settling(100, 0, 90);
        for (int jog = 1; jog <= 5; jog++) {
            check.same("jogging", x.ticks(90, 4), 5);
            check.same("jogs()", x.jogs(), jog);
            check.same("settling", x.ticks(90, 2), 4);
        }
        check.same("no sixth jog", x.ticks(90, 4), 6);
        check.same("alarm()", x.alarm(), 1);
        check.same("jogs()", x.jogs(), 5);
        check.same("gate(0)", x.gate(0), 0);
        check.same("ticks change nothing", x.ticks(100, 9), 6);
        check.same("resume()", x.resume(), 0);
        check.same("alarm()", x.alarm(), 0);
        check.same("register(0)", x.register(0), 100);
    }

    private static void idleTicksAlarm(Check check) {
        BatchDoser x = Given.tared(100, 0);
        check.same("19 idle ticks", x.ticks(0, 19), 2);
        check.same("a rise", x.tick(1), 2);
        check.same("19 idle ticks", x.ticks(1, 19), 2);
        check.same("the 20th", x.tick(1), 6);
        check.same("alarm()", x.alarm(), 3);
        BatchDoser y = Given.tared(100, 0);
        y.tick(30);
        y.ticks(10, 10);
        check.same("29 is not above 30", y.ticks(29, 9), 2);
        check.same("nor is 30", y.tick(30), 6);
        check.same("resume()", y.resume(), 2);
        check.same("alarm()", y.alarm(), 0);
        check.same("counted from 0 on", y.ticks(30, 19), 2);
        check.same("alarm again", y.tick(30), 6);
    }

    private static void idleTicksGoOnIntoFine(Check check) {
        BatchDoser x = Given.tared(100, 0);
        x.tick(40);
        x.ticks(40, 15);
        x.setMargin(0, 60);
        check.same("the 16th idle tick", x.tick(40), 3);
        check.same("the 19th", x.ticks(40, 3), 3);
        check.same("the 20th", x.tick(40), 6);
        check.same("alarm()", x.alarm(), 3);
        check.same("resume()", x.resume(), 3);
    }

    private static void idleTicksThatChangeTheState(Check check) {
        BatchDoser x = Given.tared(100, 0);
        x.tick(40);
        x.ticks(40, 19);
        x.setMargin(0, 60);
        check.same("the 20th changes the state", x.tick(40), 3);
        check.same("the 21st alarms", x.tick(40), 6);
        check.same("alarm()", x.alarm(), 3);
        BatchDoser y = Given.tared(100, 0);
        y.tick(40);
        y.ticks(40, 19);
        y.setMargin(0, 60);
        y.tick(40);
        check.same("a rise ends it", y.tick(41), 3);
        check.same("19 more", y.ticks(41, 19), 3);
    }

    private static void idleTicksBelowZero(Check check) {
        BatchDoser x = Given.tared(100, 0);
        check.same("as low as ever", x.ticks(-30, 19), 2);
        check.same("the 20th", x.tick(-30), 6);
        BatchDoser y = Given.tared(100, 0);
        y.ticks(-30, 10);
        y.ticks(-20, 9);
        check.same("a rise that stays below 0 is idle", y.tick(-10), 6);
        BatchDoser z = Given.tared(100, 0);
        z.ticks(-30, 19);
        check.same("a rise above 0", z.tick(1), 2);
    }

    private static void greatestNetOutlivesHold(Check check) {
        BatchDoser x = Given.tared(100, 0);
        x.tick(30);
        x.hold();
        x.ticks(45, 9);
        x.resume();
        x.ticks(30, 19);
        check.same("the net while held does not count", x.tick(31), 2);
        x.hold();
        x.resume();
        x.ticks(31, 19);
        check.same("the net ahead of it does", x.tick(31), 6);
    }

    private static void stepsBeginAnew(Check check) {
        BatchDoser x = Given.tared(100, 0);
        x.tick(30);
        x.ticks(30, 15);
        x.abort();
        x.ticks(0, 4);
        x.start();
        x.tick(0);
        check.same("the idle ticks begin at 0", x.ticks(0, 19), 2);
        check.same("the greatest net begins at 0", x.tick(1), 2);
        check.same("and is the one of this step", x.ticks(1, 19), 2);
        check.same("the 20th", x.tick(1), 6);
    }

    private static void holdAndResume(Check check) {
        BatchDoser x = new BatchDoser();
        check.noState("hold() when idle", x::hold);
        check.noState("resume() when idle", x::resume);
        x.addStep(0, 100, 5);
        x.start();
        holdAndGoOn(check, x, 1);
        x.ticks(0, 4);
        holdAndGoOn(check, x, 2);
        x.tick(50);
        holdAndGoOn(check, x, 3);
        x.tick(90);
        holdAndGoOn(check, x, 4);
        x.ticks(90, 4);
        holdAndGoOn(check, x, 5);
    }

    private static void holdAndGoOn(Check check, BatchDoser x, int state) {
        check.noState("resume() unless held", x::resume);
        check.same("hold()", x.hold(), state);
        check.same("state()", x.state(), 6);
        check.same("alarm()", x.alarm(), 0);
        check.same("step()", x.step(), 0);
        check.noState("hold() while held", x::hold);
        check.same("resume()", x.resume(), state);
        check.same("state()", x.state(), state);
    }

    private static void resumeCountsAnew(Check check) {
        BatchDoser x = Given.settling(100, 0, 90);
        x.ticks(90, 3);
        x.hold();
        x.ticks(90, 5);
        x.resume();
        check.same("settling: three more", x.ticks(90, 3), 4);
        check.same("the fourth", x.tick(90), 5);
        x.tick(90);
        x.hold();
        x.resume();
        check.same("jogging: one more", x.tick(90), 5);
        check.same("the second", x.tick(90), 4);
        check.same("jogs()", x.jogs(), 1);
        BatchDoser y = Given.tared(100, 0);
        y.ticks(0, 19);
        y.hold();
        y.resume();
        check.same("coarse: 19 more", y.ticks(0, 19), 2);
        check.same("the 20th", y.tick(0), 6);
    }

    private static void resumeAfterAlarmsOneAndTwo(Check check) {
        BatchDoser x = new BatchDoser();
        x.fill(0, 1000);
        x.addStep(0, 100, 0);
        x.addStep(1, 100, 0);
        x.start();
        x.ticks(0, 4);
        x.ticks(130, 2);
        check.same("too much", x.ticks(130, 4), 6);
        x.tick(125);
        check.same("the next step", x.resume(), 1);
        check.same("step()", x.step(), 1);
        check.same("by the latest reading", x.register(0), 125);
        check.same("used(0, 0)", x.used(0, 0), 125);
        check.same("done()", x.done(), 0);
        x.ticks(125, 4);
        x.ticks(300, 6);
        check.same("too much again", x.alarm(), 2);
        x.tick(100);
        check.same("below the tare", x.resume(), 0);
        check.same("books nothing", x.register(1), 0);
        check.same("done()", x.done(), 1);
    }

    private static void abortBooks(Check check) {
        BatchDoser x = new BatchDoser();
        check.noState("abort() when idle", x::abort);
        x.fill(0, 30);
        x.addStep(0, 100, 0);
        x.addStep(1, 100, 0);
        x.start();
        x.tick(70);
        check.same("ahead of the taring", x.abort(), 0);
        check.same("state()", x.state(), 0);
        check.noState("abort() again", x::abort);
        x.start();
        x.ticks(0, 4);
        x.tick(40);
        check.same("tared", x.abort(), 40);
        check.same("register(0)", x.register(0), 40);
        check.same("used(0, 1)", x.used(0, 1), 30);
        x.ticks(0, 4);
        x.start();
        x.tick(0);
        x.tick(-5);
        check.same("below 0", x.abort(), 0);
        x.ticks(0, 4);
        x.start();
        x.tick(0);
        x.ticks(100, 6);
        check.same("the second step", x.step(), 1);
        x.tick(150);
        check.same("ahead of its taring", x.abort(), 0);
        check.same("register(1)", x.register(1), 0);
        check.same("register(0)", x.register(0), 140);
        check.same("done()", x.done(), 0);
        check.same("batches()", x.batches(), 4);
        x.ticks(0, 4);
        x.start();
        x.tick(0);
        x.tick(20);
        x.hold();
        x.tick(25);
        check.same("held", x.abort(), 25);
        x.ticks(0, 4);
        x.start();
        x.hold();
        x.tick(9);
        check.same("held ahead of the taring", x.abort(), 0);
        check.same("alarm()", x.alarm(), 0);
    }

    private static void stepsFollowOneAnother(Check check) {
        BatchDoser x = new BatchDoser();
        for (int step = 0; step < 6; step++) {
            x.addStep(step % 4, 100 + step, 0);
        }
        for (int batch = 0; batch < 2; batch++) {
            x.ticks(0, 4);
            x.start();
            int tare = 0;
            for (int step = 0; step < 6; step++) {
                check.same("taring", x.state(), 1);
                check.same("step()", x.step(), step);
                check.same("jogs()", x.jogs(), 0);
                check.same("coarse", x.ticks(tare, 4), 2);
                tare += 100 + step - (step == 2 ? 10 : 0);
                x.ticks(tare, 6);
                if (step == 2) {
                    check.same("a jog", x.jogs(), 1);
                    tare += 10;
                    x.ticks(tare, 6);
                }
            }
            check.same("the batch is done", x.state(), 0);
            check.same("done()", x.done(), batch + 1);
        }
        check.same("register(0)", x.register(0), 2 * (100 + 104));
        check.same("register(1)", x.register(1), 2 * (101 + 105));
        check.same("register(2)", x.register(2), 2 * 102);
        check.same("register(3)", x.register(3), 2 * 103);
        check.same("registerByLots(1)", x.registerByLots(1), 2 * (101 + 105));
    }
}
