import java.util.ArrayList;
import java.util.List;

/**
 * The document told a second time, from whole histories instead of counters: every reading, every
 * booking and every filling is kept, and each answer is worked out of them anew.
 */
final class Model {
    record Booking(int bin, int amount, int batch, int lotsThen) { }

    record Lot(int bin, int amount) { }

    record Step(int bin, int target, int tolerance) { }

    final List<Integer> readings = new ArrayList<>();
    final List<Lot> lots = new ArrayList<>();
    final List<Booking> bookings = new ArrayList<>();
    final List<Step> recipe = new ArrayList<>();
    final int[] margin = {50, 50, 50, 50};
    final int[] flight = {20, 20, 20, 20};
    int zero;
    int tare;
    int band = 3;
    int state;
    int alarm;
    int before;
    int at;
    int batches;
    int done;
    long belt;

    /** Of the step: its nets in feed, the idle ticks one behind the other, its weighings and jogs. */
    final List<Integer> fed = new ArrayList<>();
    int idle;
    int weighings;
    int jogs;
    boolean hasTare;
    int ticksHere;

    int reading() {
        return readings.isEmpty() ? 0 : readings.get(readings.size() - 1);
    }

    int gross() {
        return reading() - zero;
    }

    int net() {
        return gross() - tare;
    }

    boolean settled() {
        if (readings.size() < 4) {
            return false;
        }
        List<Integer> last = readings.subList(readings.size() - 4, readings.size());
        int greatest = last.stream().max(Integer::compare).get();
        int least = last.stream().min(Integer::compare).get();
        return greatest <= least + band;
    }

    void tick(int reading) {
        readings.add(reading);
        ticksHere++;
        if (state == 0) {
            track();
        } else if (state == 1 && settled()) {
            tare = gross();
            hasTare = true;
            become(step().target > margin[step().bin] ? 2 : 3);
        } else if (state == 2 || state == 3) {
            feed();
        } else if (state == 4 && ticksHere >= 4 && settled()) {
            weigh();
        } else if (state == 5 && ticksHere == 2) {
            become(4);
        }
    }

    private void track() {
        int g = gross();
        int moved = zero + Integer.signum(g);
        if (settled() && g != 0 && Math.abs(g) <= 10 && Math.abs(moved) <= 500) {
            zero = moved;
        }
    }

    private void feed() {
        int greatest = 0;
        for (int net : fed) {
            greatest = Math.max(greatest, net);
        }
        fed.add(net());
        idle = net() > greatest ? 0 : idle + 1;
        int early = state == 2 ? margin[step().bin] : flight[step().bin];
        if (net() + early >= step().target) {
            become(state + 1);
        } else if (idle >= 20) {
            stop(3);
        }
    }

    private void weigh() {
        double error = net() - step().target;
        weighings++;
        if (weighings == 1) {
            int grown = flight[step().bin] + (int) Math.floor(error / 4);
            flight[step().bin] = Math.min(500, Math.max(0, grown));
        }
        if (error + step().tolerance < 0) {
            if (jogs == 5) {
                stop(1);
            } else {
                jogs++;
                become(5);
            }
        } else if (error > step().tolerance) {
            stop(2);
        } else {
            stepDone();
        }
    }

    Step step() {
        return recipe.get(at);
    }

    void become(int next) {
        state = next;
        ticksHere = 0;
        alarm = 0;
    }

    void stop(int reason) {
        before = state;
        become(6);
        alarm = reason;
    }

    void begin(int number) {
        at = number;
        fed.clear();
        idle = 0;
        weighings = 0;
        jogs = 0;
        hasTare = false;
        become(1);
    }

    void stepDone() {
        book();
        if (at == recipe.size() - 1) {
            done++;
            become(0);
        } else {
            begin(at + 1);
        }
    }

    int book() {
        int amount = Math.max(0, net());
        bookings.add(new Booking(step().bin, amount, batches - 1, lots.size()));
        return amount;
    }

    void resume() {
        if (alarm == 1 || alarm == 2) {
            stepDone();
        } else {
            idle = 0;
            become(before);
        }
    }

    int abort() {
        int booked = hasTare ? book() : 0;
        become(0);
        return booked;
    }

    int gate(int bin) {
        boolean open = state == 2 || state == 3 || state == 5;
        return !open || step().bin != bin ? 0 : state == 2 ? 2 : 1;
    }

    int register(int bin) {
        return bookings.stream().filter(b -> b.bin == bin).mapToInt(b -> b.amount).sum();
    }

    /** Returns what of the lot went to each batch, by going through all bookings again. */
    int[] usage(int lot) {
        int[] left = lots.stream().mapToInt(l -> l.amount).toArray();
        int[] usage = new int[20];
        for (Booking b : bookings) {
            int rest = b.amount;
            for (int i = 0; i < b.lotsThen; i++) {
                if (lots.get(i).bin == b.bin) {
                    int part = Math.min(rest, left[i]);
                    left[i] -= part;
                    rest -= part;
                    usage[b.batch] += i == lot ? part : 0;
                }
            }
        }
        return usage;
    }

    int gone(int lot) {
        int sum = 0;
        for (int part : usage(lot)) {
            sum += part;
        }
        return sum;
    }

    int stock(int bin) {
        int sum = 0;
        for (int lot = 0; lot < lots.size(); lot++) {
            sum += lots.get(lot).bin == bin ? lots.get(lot).amount - gone(lot) : 0;
        }
        return sum;
    }
}
