/** Objects that stand where a test begins, and the runs that bring them on. */
final class Given {
    /** Whole numbers that are no bin. */
    static final int[] NO_BINS = {Integer.MIN_VALUE, -1, 4, Integer.MAX_VALUE};

    private Given() { }

    /** A batch of one step from bin 0, tared at 0, in which no tick has been fed yet. */
    static BatchDoser tared(int target, int tolerance) {
        BatchDoser x = new BatchDoser();
        x.addStep(0, target, tolerance);
        x.start();
        x.ticks(0, 4);
        return x;
    }

    /** The same just come into the state 4, with the reading as the latest one. */
    static BatchDoser settling(int target, int tolerance, int reading) {
        BatchDoser x = tared(target, tolerance);
        settle(x, reading);
        return x;
    }

    /** The same after its first weighing, at the given net. */
    static BatchDoser weighed(int target, int tolerance, int net) {
        BatchDoser x = settling(target, tolerance, Math.max(target, net));
        x.ticks(net, 4);
        return x;
    }

    /** Brings the reading until the state is 4, which takes one tick for each state of feed. */
    static void settle(BatchDoser x, int reading) {
        for (int tick = 0; tick < 2 && x.state() != 4; tick++) {
            x.tick(reading);
        }
    }

    /** A batch of one step (bin 2, target 100, tolerance 0), tared at the base, with a settled scale. */
    static BatchDoser inState(int state, int base) {
        BatchDoser x = new BatchDoser();
        x.addStep(2, 100, 0);
        x.ticks(base, 4);
        if (state >= 1) {
            x.start();
        }
        if (state >= 2) {
            x.tick(base);
        }
        if (state == 6) {
            x.hold();
        } else if (state == 3) {
            x.ticks(base + 50, 4);
        } else if (state >= 4) {
            x.ticks(base + 90, state == 4 ? 4 : 6);
        }
        return x;
    }

    static BatchDoser inState(int state) {
        return inState(state, 0);
    }

    /** A batch of one step (bin 0, target 100, tolerance 0) that is held with the alarm. */
    static BatchDoser withAlarm(int alarm) {
        if (alarm == 3) {
            BatchDoser x = tared(100, 0);
            x.ticks(0, 20);
            return x;
        }
        BatchDoser x = settling(100, 0, alarm == 1 ? 90 : 110);
        x.ticks(x.gross(), 34);
        return x;
    }

    /** Starts a batch of one step and has it weighed at the net; it is done then, by resume if need be. */
    static void dose(BatchDoser x, int net) {
        x.start();
        x.ticks(0, 4);
        settle(x, net);
        x.ticks(net, 4);
        if (x.state() == 6) {
            x.resume();
        }
    }
}
