/**
 * A doser of bulk goods: a scale, four bins with lots, a recipe that is dosed step by step, and a
 * belt scale. This class is the face: it tests what it is given and leaves the work to its parts.
 */
public final class BatchDoser {
    private static final int BINS = 4;
    private static final int MOST_LOTS = 30;
    private static final int MOST_STEPS = 6;
    private static final int MOST_BATCHES = 20;
    private static final int MOST_JOGS = 5;

    private static final int IDLE = 0;
    private static final int TARING = 1;
    private static final int COARSE = 2;
    private static final int FINE = 3;
    private static final int SETTLING = 4;
    private static final int JOGGING = 5;
    private static final int HELD = 6;

    private static final int NO_ALARM = 0;
    private static final int ALARM_TOO_LITTLE = 1;
    private static final int ALARM_TOO_MUCH = 2;
    private static final int ALARM_NO_FLOW = 3;

    private static final int LEAST_READING = -1000;
    private static final int MOST_READING = 100000;
    private static final int MOST_ZERO = 500;
    private static final int MOST_TRACKED = 10;
    private static final int SETTLED_READINGS = 4;
    private static final int FIRST_BAND = 3;
    private static final int FIRST_MARGIN = 50;
    private static final int FIRST_FLIGHT = 20;
    private static final int MOST_FLIGHT = 500;
    private static final int FLIGHT_SHARE = 4;
    private static final int SETTLING_TICKS = 4;
    private static final int JOGGING_TICKS = 2;
    private static final int MOST_IDLE_TICKS = 20;
    private static final int THOUSANDTHS = 1000;

    private final Dosing dosing;
    private final Scale scale;
    private final Bins bins;
    private final Lots lots;
    private final Recipe recipe;
    private long carriedThousandths;

    public BatchDoser() {
        dosing = new Dosing();
        scale = dosing.scale;
        bins = dosing.bins;
        lots = dosing.lots;
        recipe = dosing.recipe;
    }

    // ---- the scale

    public int tick(int reading) throws IllegalArgumentException {
        needReading(reading);
        dosing.bring(reading);
        return dosing.state;
    }

    public int ticks(int reading, int ticks) throws IllegalArgumentException {
        needReading(reading);
        needArgument(isWithin(ticks, 1, 50));
        for (int i = 0; i < ticks; i++) {
            dosing.bring(reading);
        }
        return dosing.state;
    }

    public int zero() throws IllegalStateException {
        needState(dosing.state == IDLE && scale.isCalm());
        needState(isWithin(scale.latest, -MOST_ZERO, MOST_ZERO));
        int before = scale.zeroPoint;
        scale.zeroPoint = scale.latest;
        return before;
    }

    public int setBand(int band) throws IllegalArgumentException {
        needArgument(isWithin(band, 0, 50));
        int before = scale.width;
        scale.width = band;
        return before;
    }

    public int gross() {
        return scale.grossNow();
    }

    public int net() {
        return scale.netNow();
    }

    public boolean isSettled() {
        return scale.isCalm();
    }

    // ---- bins and lots

    public int fill(int bin, int amount)
            throws IndexOutOfBoundsException, IllegalArgumentException, IllegalStateException {
        needBin(bin);
        needArgument(isWithin(amount, 1, 100000));
        needState(lots.count < MOST_LOTS);
        return lots.store(bin, amount);
    }

    public int setMargin(int bin, int margin)
            throws IndexOutOfBoundsException, IllegalArgumentException {
        needBin(bin);
        needArgument(isWithin(margin, 0, 1000));
        int before = at(bins.margins, bin);
        put(bins.margins, bin, margin);
        return before;
    }

    public int flight(int bin) throws IndexOutOfBoundsException {
        needBin(bin);
        return at(bins.flights, bin);
    }

    public int gate(int bin) throws IndexOutOfBoundsException {
        needBin(bin);
        return dosing.gateOf(bin);
    }

    public int stock(int bin) throws IndexOutOfBoundsException {
        needBin(bin);
        return lots.leftIn(bin);
    }

    public int register(int bin) throws IndexOutOfBoundsException {
        needBin(bin);
        return at(bins.registers, bin);
    }

    public int registerByLots(int bin) throws IndexOutOfBoundsException {
        needBin(bin);
        return lots.goneFrom(bin) + at(bins.untraced, bin);
    }

    public int leftOf(int lot) throws IndexOutOfBoundsException {
        needLot(lot);
        return at(lots.left, lot);
    }

    public int firstBatch(int lot) throws IndexOutOfBoundsException {
        needLot(lot);
        return lots.firstBatchOf(lot, dosing.started);
    }

    public int used(int lot, int batch) throws IndexOutOfBoundsException {
        needLot(lot);
        needBatch(batch);
        return lots.usedFor(lot, batch);
    }

    // ---- recipes and batches

    public int addStep(int bin, int target, int tolerance)
            throws IndexOutOfBoundsException, IllegalArgumentException, IllegalStateException {
        needBin(bin);
        needArgument(isWithin(target, 1, 10000) && isWithin(tolerance, 0, 1000));
        needState(dosing.state == IDLE && recipe.count < MOST_STEPS);
        recipe.append(bin, target, tolerance);
        return recipe.count;
    }

    public int clearRecipe() throws IllegalStateException {
        needState(dosing.state == IDLE);
        int before = recipe.count;
        recipe.count = 0;
        return before;
    }

    public int start() throws IllegalStateException {
        needState(dosing.state == IDLE && recipe.count > 0 && dosing.started < MOST_BATCHES);
        return dosing.startBatch();
    }

    public int hold() throws IllegalStateException {
        needState(dosing.state != IDLE && dosing.state != HELD);
        dosing.halt(NO_ALARM);
        return dosing.heldState;
    }

    public int resume() throws IllegalStateException {
        needState(dosing.state == HELD);
        dosing.goOn();
        return dosing.state;
    }

    public int abort() throws IllegalStateException {
        needState(dosing.state != IDLE);
        return dosing.breakOff();
    }

    public int state() {
        return dosing.state;
    }

    public int alarm() {
        return dosing.alarm;
    }

    public int step() {
        return dosing.state == IDLE ? -1 : dosing.step;
    }

    public int jogs() {
        return dosing.state == IDLE ? 0 : dosing.jogs;
    }

    public int batches() {
        return dosing.started;
    }

    public int done() {
        return dosing.finished;
    }

    // ---- the belt

    public long belt(int load, int speed, int ticks) throws IllegalArgumentException {
        needArgument(isWithin(load, 0, 10000) && isWithin(speed, 0, 1000));
        needArgument(isWithin(ticks, 1, 100));
        carriedThousandths += (long) load * speed * ticks;
        return carriedThousandths / THOUSANDTHS;
    }

    // ---- tests of what a call is given

    private void needLot(int lot) {
        if (!isWithin(lot, 0, lots.count - 1)) {
            throw new IndexOutOfBoundsException("no such lot");
        }
    }

    private void needBatch(int batch) {
        if (!isWithin(batch, 0, dosing.started - 1)) {
            throw new IndexOutOfBoundsException("no such batch");
        }
    }

    private static void needBin(int bin) {
        if (!isWithin(bin, 0, BINS - 1)) {
            throw new IndexOutOfBoundsException("no such bin");
        }
    }

    private static void needReading(int reading) {
        needArgument(isWithin(reading, LEAST_READING, MOST_READING));
    }

    private static void needArgument(boolean isInRange) {
        if (!isInRange) {
            throw new IllegalArgumentException("out of range");
        }
    }

    private static void needState(boolean isFit) {
        if (!isFit) {
            throw new IllegalStateException("not now");
        }
    }

    private static boolean isWithin(int value, int least, int most) {
        return value >= least && value <= most;
    }

    // Every index goes through these three, so that the machine never throws at one.

    private static int at(int[] row, int index) {
        return index >= 0 && index < row.length ? row[index] : 0;
    }

    private static void put(int[] row, int index, int value) {
        if (index >= 0 && index < row.length) {
            row[index] = value;
        }
    }

    private static void increase(int[] row, int index, int amount) {
        if (index >= 0 && index < row.length) {
            row[index] += amount;
        }
    }

    /** The readings, and the zero and the tare that they are weighed against. */
    private static final class Scale {
        private int zeroPoint;
        private int tare;
        private int width = FIRST_BAND;
        private int arrived;
        private int latest;
        private int second;
        private int third;
        private int fourth;

        void take(int reading) {
            fourth = third;
            third = second;
            second = latest;
            latest = reading;
            if (arrived < SETTLED_READINGS) {
                arrived++;
            }
        }

        boolean isCalm() {
            int greatest = Math.max(Math.max(latest, second), Math.max(third, fourth));
            int least = Math.min(Math.min(latest, second), Math.min(third, fourth));
            return arrived >= SETTLED_READINGS && greatest - least <= width;
        }

        int grossNow() {
            return latest - zeroPoint;
        }

        int netNow() {
            return grossNow() - tare;
        }

        void trackZero() {
            int gross = grossNow();
            if (gross == 0 || !isWithin(gross, -MOST_TRACKED, MOST_TRACKED) || !isCalm()) {
                return;
            }
            int moved = zeroPoint + (gross > 0 ? 1 : -1);
            if (isWithin(moved, -MOST_ZERO, MOST_ZERO)) {
                zeroPoint = moved;
            }
        }
    }

    /** What each bin has of its own: its feed values and its registers. */
    private static final class Bins {
        private final int[] margins = new int[BINS];
        private final int[] flights = new int[BINS];
        private final int[] registers = new int[BINS];
        private final int[] untraced = new int[BINS];

        Bins() {
            for (int bin = 0; bin < BINS; bin++) {
                margins[bin] = FIRST_MARGIN;
                flights[bin] = FIRST_FLIGHT;
            }
        }

        void learn(int bin, int error) {
            int flight = at(flights, bin) + Math.floorDiv(error, FLIGHT_SHARE);
            put(flights, bin, Math.max(0, Math.min(MOST_FLIGHT, flight)));
        }
    }

    /** The lots of all bins in the order of their filling, and for which batch they were used. */
    private static final class Lots {
        private final int[] binOf = new int[MOST_LOTS];
        private final int[] filled = new int[MOST_LOTS];
        private final int[] left = new int[MOST_LOTS];
        private final int[] usage = new int[MOST_LOTS * MOST_BATCHES];
        private int count;

        int store(int bin, int amount) {
            int lot = count;
            put(binOf, lot, bin);
            put(filled, lot, amount);
            put(left, lot, amount);
            count++;
            return lot;
        }

        /** Returns how much of the amount the lots of the bin had. */
        int takeOut(int bin, int amount, int batch) {
            int rest = amount;
            for (int lot = 0; lot < count; lot++) {
                if (at(binOf, lot) == bin) {
                    int part = Math.min(rest, at(left, lot));
                    increase(left, lot, -part);
                    increase(usage, place(lot, batch), part);
                    rest -= part;
                }
            }
            return amount - rest;
        }

        int leftIn(int bin) {
            int sum = 0;
            for (int lot = 0; lot < count; lot++) {
                sum += at(binOf, lot) == bin ? at(left, lot) : 0;
            }
            return sum;
        }

        int goneFrom(int bin) {
            int sum = 0;
            for (int lot = 0; lot < count; lot++) {
                sum += at(binOf, lot) == bin ? at(filled, lot) - at(left, lot) : 0;
            }
            return sum;
        }

        int usedFor(int lot, int batch) {
            return at(usage, place(lot, batch));
        }

        int firstBatchOf(int lot, int batches) {
            for (int batch = 0; batch < batches; batch++) {
                if (usedFor(lot, batch) > 0) {
                    return batch;
                }
            }
            return -1;
        }

        private static int place(int lot, int batch) {
            return lot * MOST_BATCHES + batch;
        }
    }

    /** The steps that every batch goes through. */
    private static final class Recipe {
        private final int[] stepBins = new int[MOST_STEPS];
        private final int[] targets = new int[MOST_STEPS];
        private final int[] tolerances = new int[MOST_STEPS];
        private int count;

        void append(int bin, int target, int tolerance) {
            put(stepBins, count, bin);
            put(targets, count, target);
            put(tolerances, count, tolerance);
            count++;
        }
    }

    /** The batch that is dosed: which step it is at, and in which state. */
    private static final class Dosing {
        private final Scale scale = new Scale();
        private final Bins bins = new Bins();
        private final Lots lots = new Lots();
        private final Recipe recipe = new Recipe();
        private int state = IDLE;
        private int alarm = NO_ALARM;
        private int heldState = IDLE;
        private int stateTicks;
        private int idleTicks;
        private int step;
        private int jogs;
        private int greatestNet;
        private boolean isTared;
        private boolean isWeighed;
        private int started;
        private int finished;

        void bring(int reading) {
            scale.take(reading);
            stateTicks++;
            switch (state) {
                case IDLE:
                    scale.trackZero();
                    break;
                case TARING:
                    tareStep();
                    break;
                case COARSE:
                case FINE:
                    feed();
                    break;
                case SETTLING:
                    if (stateTicks >= SETTLING_TICKS && scale.isCalm()) {
                        weigh();
                    }
                    break;
                case JOGGING:
                    if (stateTicks >= JOGGING_TICKS) {
                        enter(SETTLING);
                    }
                    break;
                default:
                    break;
            }
        }

        int gateOf(int bin) {
            if (stepBin() != bin) {
                return 0;
            }
            if (state == COARSE) {
                return 2;
            }
            return state == FINE || state == JOGGING ? 1 : 0;
        }

        int startBatch() {
            int batch = started;
            started++;
            beginStep(0);
            return batch;
        }

        void halt(int reason) {
            heldState = state;
            enter(HELD);
            alarm = reason;
        }

        void goOn() {
            if (alarm == ALARM_TOO_LITTLE || alarm == ALARM_TOO_MUCH) {
                finishStep();
            } else {
                idleTicks = 0;
                enter(heldState);
            }
        }

        int breakOff() {
            // Ahead of the taring, the net still has the tare of another step.
            int booked = isTared ? bookNet() : 0;
            enter(IDLE);
            return booked;
        }

        private void tareStep() {
            if (scale.isCalm()) {
                scale.tare = scale.grossNow();
                isTared = true;
                enter(target() > at(bins.margins, stepBin()) ? COARSE : FINE);
            }
        }

        private void feed() {
            int net = scale.netNow();
            if (net > greatestNet) {
                greatestNet = net;
                idleTicks = 0;
            } else {
                idleTicks++;
            }
            int[] ahead = state == COARSE ? bins.margins : bins.flights;
            if (net >= target() - at(ahead, stepBin())) {
                // The idle ticks go on being counted from coarse into fine feed.
                enter(state == COARSE ? FINE : SETTLING);
            } else if (idleTicks >= MOST_IDLE_TICKS) {
                halt(ALARM_NO_FLOW);
            }
        }

        private void weigh() {
            int error = scale.netNow() - target();
            int tolerance = at(recipe.tolerances, step);
            if (!isWeighed) {
                // What jogs add later tells nothing of the flight.
                isWeighed = true;
                bins.learn(stepBin(), error);
            }
            if (error < -tolerance) {
                jog();
            } else if (error > tolerance) {
                halt(ALARM_TOO_MUCH);
            } else {
                finishStep();
            }
        }

        private void jog() {
            if (jogs < MOST_JOGS) {
                jogs++;
                enter(JOGGING);
            } else {
                halt(ALARM_TOO_LITTLE);
            }
        }

        private void finishStep() {
            bookNet();
            if (step + 1 < recipe.count) {
                beginStep(step + 1);
            } else {
                finished++;
                enter(IDLE);
            }
        }

        private void beginStep(int number) {
            step = number;
            jogs = 0;
            idleTicks = 0;
            // A net below the tare is no flow: it has to rise above 0 to count.
            greatestNet = 0;
            isTared = false;
            isWeighed = false;
            enter(TARING);
        }

        private void enter(int next) {
            state = next;
            stateTicks = 0;
            alarm = NO_ALARM;
        }

        private int bookNet() {
            int amount = Math.max(0, scale.netNow());
            int bin = stepBin();
            int traced = lots.takeOut(bin, amount, started - 1);
            increase(bins.registers, bin, amount);
            increase(bins.untraced, bin, amount - traced);
            return amount;
        }

        private int stepBin() {
            return at(recipe.stepBins, step);
        }

        private int target() {
            return at(recipe.targets, step);
        }
    }
}
