/** The boundary cases of recipes and batches, a test for each sentence of the promises 19 to 30. */
final class BatchBounds {
    static boolean pass() {
        Check check = new Check("bounds of recipes and batches");
        targets(check);
        tolerances(check);
        targetsThatAreDosed(check);
        addStepInStateZero(check);
        sixSteps(check);
        clearRecipeInStateZero(check);
        clearedRecipes(check);
        startInStateZero(check);
        startWithoutSteps(check);
        twentyBatches(check);
        abortedOnesIncluded(check);
        holdUnlessIdleOrHeld(check);
        holdAgainstAlarms(check);
        resumeWhenHeld(check);
        resumeAfterAlarmsOneAndTwo(check);
        resumeOfLastAndOtherSteps(check);
        resumeCountsTicks(check);
        resumeCountsIdleTicks(check);
        abortUnlessIdle(check);
        abortBelowZero(check);
        abortAheadOfTaring(check);
        statesAnswered(check);
        alarmsAnswered(check);
        stepsAnswered(check);
        jogsAnswered(check);
        batchesAnswered(check);
        doneNotAborted(check);
        return check.close();
    }

    private static void targets(Check check) {
        check.sentence("`target`: 1 to 10000");
        BatchDoser x = new BatchDoser();
        check.same("addStep(0, 1, 0)", x.addStep(0, 1, 0), 1);
        check.same("addStep(0, 10000, 0)", x.addStep(0, 10000, 0), 2);
        for (int target : new int[] {0, -1, 10001, Integer.MIN_VALUE, Integer.MAX_VALUE}) {
            check.noArgument("addStep(0, " + target + ", 0)", () -> x.addStep(0, target, 0));
        }
        check.same("clearRecipe()", x.clearRecipe(), 2);
    }

    private static void tolerances(Check check) {
        check.sentence("`tolerance`: 0 to 1000");
        BatchDoser x = new BatchDoser();
        check.same("addStep(0, 5, 0)", x.addStep(0, 5, 0), 1);
        check.same("addStep(0, 5, 1000)", x.addStep(0, 5, 1000), 2);
        for (int tolerance : new int[] {-1, 1001, Integer.MIN_VALUE, Integer.MAX_VALUE}) {
            check.noArgument("addStep(0, 5, " + tolerance + ")", () -> x.addStep(0, 5, tolerance));
        }
        check.same("clearRecipe()", x.clearRecipe(), 2);
    }

    private static void targetsThatAreDosed(Check check) {
        check.sentence("each with a bin, a target and a tolerance");
        BatchDoser x = Given.weighed(1, 0, 1);
        check.same("the least target", x.state(), 0);
        check.same("register(0)", x.register(0), 1);
        BatchDoser y = Given.weighed(10000, 0, 10000);
        check.same("the most", y.state(), 0);
        check.same("register(0)", y.register(0), 10000);
        check.same("one less", Given.weighed(10000, 0, 9999).state(), 5);
        check.same("one more", Given.weighed(1, 0, 2).alarm(), 2);
    }

    private static void addStepInStateZero(Check check) {
        check.sentence("addStep throws `IllegalStateException` if the state is not 0");
        for (int state = 1; state <= 6; state++) {
            BatchDoser x = Given.inState(state);
            check.noState("addStep in state " + state, () -> x.addStep(0, 100, 0));
            x.abort();
            check.same("no step came", x.addStep(0, 100, 0), 2);
        }
    }

    private static void sixSteps(Check check) {
        check.sentence("or there are 6 steps");
        BatchDoser x = new BatchDoser();
        for (int steps = 1; steps <= 6; steps++) {
            check.same("addStep", x.addStep(steps % 4, 10, 0), steps);
        }
        check.noState("the 7th", () -> x.addStep(0, 10, 0));
        check.noState("the 7th again", () -> x.addStep(3, 10000, 1000));
        check.same("clearRecipe()", x.clearRecipe(), 6);
        for (int steps = 1; steps <= 6; steps++) {
            check.same("addStep to an emptied recipe", x.addStep(0, 10, 0), steps);
        }
        check.noState("the 7th", () -> x.addStep(0, 10, 0));
    }

    private static void clearRecipeInStateZero(Check check) {
        check.sentence("clearRecipe throws `IllegalStateException` if the state is not 0");
        for (int state = 1; state <= 6; state++) {
            BatchDoser x = Given.inState(state);
            check.noState("clearRecipe() in state " + state, x::clearRecipe);
            x.abort();
            check.same("the recipe has its step", x.clearRecipe(), 1);
        }
    }

    private static void clearedRecipes(Check check) {
        check.sentence("Returns how many steps it had");
        BatchDoser x = new BatchDoser();
        for (int steps = 0; steps <= 6; steps++) {
            for (int step = 0; step < steps; step++) {
                x.addStep(0, 10, 0);
            }
            check.same("clearRecipe()", x.clearRecipe(), steps);
            check.same("clearRecipe() again", x.clearRecipe(), 0);
        }
    }

    private static void startInStateZero(Check check) {
        check.sentence("start throws `IllegalStateException` if the state is not 0");
        for (int state = 1; state <= 6; state++) {
            BatchDoser x = Given.inState(state);
            check.noState("start() in state " + state, x::start);
            check.same("state()", x.state(), state);
            check.same("batches()", x.batches(), 1);
            x.abort();
            check.same("start()", x.start(), 1);
        }
    }

    private static void startWithoutSteps(Check check) {
        check.sentence("the recipe has no steps");
        BatchDoser x = new BatchDoser();
        check.noState("a new object", x::start);
        x.addStep(0, 10, 0);
        x.clearRecipe();
        check.noState("an emptied recipe", x::start);
        check.same("batches()", x.batches(), 0);
        check.same("state()", x.state(), 0);
        x.addStep(0, 10, 0);
        check.same("one step", x.start(), 0);
    }

    private static void twentyBatches(Check check) {
        check.sentence("or there were 20 batches");
        BatchDoser x = new BatchDoser();
        x.addStep(0, 10, 0);
        for (int batch = 0; batch <= 19; batch++) {
            check.same("start()", x.start(), batch);
            x.ticks(0, 4);
            x.tick(10);
            check.same("done", x.ticks(10, 4), 0);
        }
        check.noState("the 21st", x::start);
        check.same("batches()", x.batches(), 20);
        check.same("done()", x.done(), 20);
        check.same("state()", x.state(), 0);
        check.same("step()", x.step(), -1);
        x.clearRecipe();
        x.addStep(1, 20, 0);
        check.noState("the 21st by another recipe", x::start);
    }

    private static void abortedOnesIncluded(Check check) {
        check.sentence("from 0, aborted ones included");
        BatchDoser x = new BatchDoser();
        x.addStep(0, 10, 0);
        for (int batch = 0; batch <= 19; batch++) {
            check.same("start()", x.start(), batch);
            if (batch % 3 == 0) {
                x.ticks(0, 4);
                x.tick(10);
                x.ticks(10, 4);
            } else {
                x.abort();
            }
        }
        check.noState("the 21st", x::start);
        check.same("done()", x.done(), 7);
    }

    private static void holdUnlessIdleOrHeld(Check check) {
        check.sentence("hold throws `IllegalStateException` if the state is 0 or 6");
        BatchDoser idle = Given.inState(0);
        check.noState("hold() in state 0", idle::hold);
        check.same("state()", idle.state(), 0);
        for (int state = 1; state <= 5; state++) {
            BatchDoser x = Given.inState(state);
            check.same("hold()", x.hold(), state);
            check.same("state()", x.state(), 6);
            check.same("alarm()", x.alarm(), 0);
            check.noState("hold() in state 6", x::hold);
            check.same("resume() after the refusal", x.resume(), state);
        }
    }

    private static void holdAgainstAlarms(Check check) {
        check.sentence("hold throws if the state is 6 (with an alarm)");
        for (int alarm = 1; alarm <= 3; alarm++) {
            BatchDoser x = Given.withAlarm(alarm);
            check.noState("hold() with alarm " + alarm, x::hold);
            check.same("alarm()", x.alarm(), alarm);
            check.same("resume()", x.resume(), alarm == 3 ? 2 : 0);
        }
    }

    private static void resumeWhenHeld(Check check) {
        check.sentence("resume throws `IllegalStateException` if the state is not 6");
        for (int state = 0; state <= 5; state++) {
            BatchDoser x = Given.inState(state);
            check.noState("resume() in state " + state, x::resume);
            check.same("state()", x.state(), state);
        }
        check.same("resume() in state 6", Given.inState(6).resume(), 2);
    }

    private static void resumeAfterAlarmsOneAndTwo(Check check) {
        check.sentence("With the alarm 1 or 2 the step is done as it is, with the net by the latest reading");
        for (int alarm = 1; alarm <= 2; alarm++) {
            for (int net = -1; net <= 1; net++) {
                BatchDoser x = Given.withAlarm(alarm);
                x.tick(net);
                check.same("resume()", x.resume(), 0);
                check.same("register(0)", x.register(0), Math.max(net, 0));
                check.same("done()", x.done(), 1);
                check.same("alarm()", x.alarm(), 0);
                check.noState("resume() again", x::resume);
            }
        }
        BatchDoser y = Given.withAlarm(2);
        y.resume();
        check.same("the reading of the weighing is the latest", y.register(0), 110);
    }

    private static void resumeOfLastAndOtherSteps(Check check) {
        check.sentence("the step is done as it is (the last one or not)");
        BatchDoser x = new BatchDoser();
        x.addStep(0, 100, 0);
        x.addStep(1, 100, 0);
        x.start();
        x.ticks(0, 4);
        Given.settle(x, 130);
        x.ticks(130, 4);
        check.same("resume() of step 0", x.resume(), 1);
        check.same("step()", x.step(), 1);
        check.same("done()", x.done(), 0);
        x.tick(130);
        Given.settle(x, 260);
        x.ticks(260, 4);
        check.same("alarm()", x.alarm(), 2);
        check.same("resume() of step 1", x.resume(), 0);
        check.same("step()", x.step(), -1);
        check.same("done()", x.done(), 1);
        check.same("register(0)", x.register(0), 130);
        check.same("register(1)", x.register(1), 130);
    }

    private static void resumeCountsTicks(Check check) {
        check.sentence("the ticks in that state are counted from 0 on");
        BatchDoser x = Given.settling(100, 0, 90);
        x.ticks(90, 3);
        x.hold();
        x.resume();
        check.same("3 ticks in state 4", x.ticks(90, 3), 4);
        check.same("the fourth", x.tick(90), 5);
        x.tick(90);
        x.hold();
        x.ticks(90, 9);
        x.resume();
        check.same("1 tick in state 5", x.tick(90), 5);
        check.same("the second", x.tick(90), 4);
        check.same("jogs()", x.jogs(), 1);
    }

    private static void resumeCountsIdleTicks(Check check) {
        check.sentence("and the idle ones, are counted from 0 on");
        for (int target = 50; target <= 100; target += 50) {
            BatchDoser x = Given.tared(target, 0);
            int state = x.state();
            x.ticks(0, 19);
            check.same("hold()", x.hold(), state);
            check.same("resume()", x.resume(), state);
            check.same("19 idle ticks after hold", x.ticks(0, 19), state);
            check.same("the 20th", x.tick(0), 6);
            check.same("alarm()", x.alarm(), 3);
            check.same("resume() with the alarm 3", x.resume(), state);
            check.same("19 idle ticks after the alarm", x.ticks(0, 19), state);
            check.same("the 20th", x.tick(0), 6);
        }
    }

    private static void abortUnlessIdle(Check check) {
        check.sentence("abort throws `IllegalStateException` if the state is 0");
        BatchDoser idle = Given.inState(0);
        check.noState("abort() in state 0", idle::abort);
        int[] booked = {0, 0, 0, 50, 90, 90, 0};
        for (int state = 1; state <= 6; state++) {
            BatchDoser x = Given.inState(state);
            check.same("abort() in state " + state, x.abort(), booked[state]);
            check.same("register(2)", x.register(2), booked[state]);
            check.same("state()", x.state(), 0);
            check.noState("abort() again", x::abort);
            check.same("register(2)", x.register(2), booked[state]);
        }
        for (int alarm = 1; alarm <= 3; alarm++) {
            BatchDoser x = Given.withAlarm(alarm);
            x.tick(77);
            check.same("abort() with alarm " + alarm, x.abort(), 77);
            check.same("done()", x.done(), 0);
        }
    }

    private static void abortBelowZero(Check check) {
        check.sentence("the net by the latest reading, or 0 if it is below 0, is booked");
        for (int net = -2; net <= 2; net++) {
            BatchDoser x = Given.tared(100, 0);
            x.fill(0, 10);
            x.tick(net);
            check.same("abort() at " + net, x.abort(), Math.max(net, 0));
            check.same("register(0) at " + net, x.register(0), Math.max(net, 0));
            check.same("used(0, 0) at " + net, x.used(0, 0), Math.max(net, 0));
            check.same("firstBatch(0) at " + net, x.firstBatch(0), net > 0 ? 0 : -1);
        }
    }

    private static void abortAheadOfTaring(Check check) {
        check.sentence("unless the step has not been tared since it began");
        BatchDoser x = new BatchDoser();
        x.addStep(0, 10, 0);
        x.addStep(1, 10, 0);
        x.start();
        x.ticks(90, 3);
        check.same("ahead of the taring", x.abort(), 0);
        x.start();
        x.tick(90);
        x.tick(95);
        check.same("after it", x.abort(), 5);
        x.start();
        check.same("the tare of the batch before", x.net(), 5);
        check.same("does not count", x.abort(), 0);
        x.ticks(0, 4);
        x.start();
        x.tick(0);
        check.same("the next step", x.ticks(10, 5), 1);
        x.tick(40);
        check.same("the tare of the step before does not count", x.abort(), 0);
        x.start();
        x.hold();
        x.tick(70);
        check.same("held ahead of the taring", x.abort(), 0);
        x.start();
        x.hold();
        x.ticks(70, 4);
        x.resume();
        check.same("gone on ahead of the taring", x.abort(), 0);
        x.start();
        x.tick(70);
        x.hold();
        x.tick(73);
        check.same("held after the taring", x.abort(), 3);
        check.same("register(0)", x.register(0), 5 + 10 + 3);
        check.same("register(1)", x.register(1), 0);
    }

    private static void statesAnswered(Check check) {
        check.sentence("Returns the state, 0 to 6");
        for (int state = 0; state <= 6; state++) {
            check.same("state()", Given.inState(state).state(), state);
        }
    }

    private static void alarmsAnswered(Check check) {
        check.sentence("Returns the alarm, 0 to 3");
        check.same("alarm()", new BatchDoser().alarm(), 0);
        for (int alarm = 1; alarm <= 3; alarm++) {
            check.same("alarm()", Given.withAlarm(alarm).alarm(), alarm);
        }
    }

    private static void stepsAnswered(Check check) {
        check.sentence("the number of the step that is dosed, from 0; -1 in the state 0");
        check.same("a new object", new BatchDoser().step(), -1);
        for (int state = 0; state <= 6; state++) {
            BatchDoser x = Given.inState(state);
            check.same("step() in state " + state, x.step(), state == 0 ? -1 : 0);
            if (state > 0) {
                x.abort();
                check.same("step() after abort()", x.step(), -1);
            }
        }
    }

    private static void jogsAnswered(Check check) {
        check.sentence("how many jogs there were in the step that is dosed; 0 in the state 0");
        check.same("a new object", new BatchDoser().jogs(), 0);
        BatchDoser x = Given.withAlarm(1);
        check.same("held with 5 jogs", x.jogs(), 5);
        x.resume();
        check.same("state()", x.state(), 0);
        check.same("done", x.jogs(), 0);
        BatchDoser y = Given.inState(5);
        check.same("the first jog counts when it begins", y.jogs(), 1);
        y.hold();
        check.same("held", y.jogs(), 1);
        y.resume();
        check.same("going on is no jog", y.jogs(), 1);
        y.abort();
        check.same("aborted", y.jogs(), 0);
    }

    private static void batchesAnswered(Check check) {
        check.sentence("Returns how many batches were started");
        BatchDoser x = new BatchDoser();
        x.addStep(0, 10, 0);
        for (int batches = 0; batches <= 20; batches++) {
            check.same("batches()", x.batches(), batches);
            if (batches < 20) {
                x.start();
                x.abort();
            }
        }
        check.noState("the 21st", x::start);
        check.same("batches()", x.batches(), 20);
    }

    private static void doneNotAborted(Check check) {
        check.sentence("Returns how many batches were done, not aborted");
        BatchDoser x = new BatchDoser();
        check.same("a new object", x.done(), 0);
        x.addStep(0, 100, 0);
        Given.dose(x, 100);
        check.same("done", x.done(), 1);
        Given.dose(x, 130);
        check.same("done with an alarm", x.done(), 2);
        x.start();
        x.ticks(0, 4);
        Given.settle(x, 100);
        x.ticks(100, 3);
        x.abort();
        check.same("aborted a tick ahead", x.done(), 2);
        check.same("batches()", x.batches(), 3);
    }
}
