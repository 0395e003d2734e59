/** The boundary cases of bins and lots, a test for each sentence: "Terms" and the promises 9 to 18. */
final class BinBounds {
    static boolean pass() {
        Check check = new Check("bounds of bins and lots");
        fourBins(check);
        marginsAtFirst(check);
        flightsAtFirst(check);
        noSuchBin(check);
        amounts(check);
        thirtyLots(check);
        thirtyLotsThatWere(check);
        margins(check);
        firstFilledFirstUsed(check);
        untilNothingIsLeft(check);
        whatLotsDoNotHave(check);
        emptyBin(check);
        registerFarUp(check);
        stockOfAllLots(check);
        registerTwice(check);
        noSuchLot(check);
        firstBatchOfNone(check);
        noSuchBatch(check);
        lastLotAndBatch(check);
        return check.close();
    }

    private static void fourBins(Check check) {
        check.sentence("There are four bins, 0 to 3");
        BatchDoser x = new BatchDoser();
        for (int bin = 0; bin <= 3; bin++) {
            check.same("fill", x.fill(bin, bin + 1), bin);
            check.same("addStep", x.addStep(bin, 100, 0), bin + 1);
            check.same("gate", x.gate(bin), 0);
            check.same("register", x.register(bin), 0);
            check.same("registerByLots", x.registerByLots(bin), 0);
        }
        for (int bin = 0; bin <= 3; bin++) {
            check.same("stock", x.stock(bin), bin + 1);
        }
    }

    private static void marginsAtFirst(Check check) {
        check.sentence("a margin for coarse feed, 50 at first");
        for (int bin = 0; bin <= 3; bin++) {
            BatchDoser x = new BatchDoser();
            x.addStep(bin, 100, 0);
            x.start();
            x.ticks(0, 4);
            check.same("tick(49)", x.tick(49), 2);
            check.same("tick(50)", x.tick(50), 3);
            check.same("setMargin", x.setMargin(bin, 0), 50);
        }
    }

    private static void flightsAtFirst(Check check) {
        check.sentence("a flight, 20 at first");
        for (int bin = 0; bin <= 3; bin++) {
            BatchDoser x = new BatchDoser();
            check.same("flight", x.flight(bin), 20);
            x.addStep(bin, 100, 0);
            x.start();
            x.ticks(0, 4);
            x.tick(50);
            check.same("tick(79)", x.tick(79), 3);
            check.same("tick(80)", x.tick(80), 4);
        }
    }

    private static void noSuchBin(Check check) {
        check.sentence("Throws `IndexOutOfBoundsException` if there is no such bin");
        BatchDoser x = new BatchDoser();
        for (int bin : Given.NO_BINS) {
            check.noIndex("fill", () -> x.fill(bin, 1));
            check.noIndex("setMargin", () -> x.setMargin(bin, 1));
            check.noIndex("flight", () -> x.flight(bin));
            check.noIndex("gate", () -> x.gate(bin));
            check.noIndex("stock", () -> x.stock(bin));
            check.noIndex("register", () -> x.register(bin));
            check.noIndex("registerByLots", () -> x.registerByLots(bin));
            check.noIndex("addStep", () -> x.addStep(bin, 1, 0));
        }
        check.same("no lot came", x.fill(0, 1), 0);
        check.same("no step came", x.addStep(0, 1, 0), 1);
    }

    private static void amounts(Check check) {
        check.sentence("`amount`: 1 to 100000");
        BatchDoser x = new BatchDoser();
        check.same("fill(2, 1)", x.fill(2, 1), 0);
        check.same("fill(2, 100000)", x.fill(2, 100000), 1);
        check.same("leftOf(0)", x.leftOf(0), 1);
        check.same("leftOf(1)", x.leftOf(1), 100000);
        for (int amount : new int[] {0, -1, 100001, Integer.MIN_VALUE, Integer.MAX_VALUE}) {
            check.noArgument("fill(2, " + amount + ")", () -> x.fill(2, amount));
        }
        check.same("stock(2)", x.stock(2), 100001);
        check.same("the next lot", x.fill(2, 5), 2);
    }

    private static void thirtyLots(Check check) {
        check.sentence("fill throws `IllegalStateException` if there were 30 lots");
        for (int bin = 0; bin <= 3; bin++) {
            BatchDoser x = new BatchDoser();
            for (int lot = 0; lot <= 29; lot++) {
                check.same("lots of all bins together", x.fill(bin == 3 ? lot % 4 : bin, 7), lot);
            }
            for (int other = 0; other <= 3; other++) {
                int full = other;
                check.noState("the 31st", () -> x.fill(full, 1));
            }
            check.noIndex("leftOf(30)", () -> x.leftOf(30));
            check.same("leftOf(29)", x.leftOf(29), 7);
            check.same("stock", x.stock(bin), bin == 3 ? 7 * 7 : 30 * 7);
        }
    }

    private static void thirtyLotsThatWere(Check check) {
        check.sentence("there were 30 lots (used up)");
        BatchDoser x = new BatchDoser();
        for (int lot = 0; lot < 30; lot++) {
            x.fill(1, 3);
        }
        x.addStep(1, 100, 0);
        Given.dose(x, 100);
        check.same("stock(1)", x.stock(1), 0);
        check.same("leftOf(29)", x.leftOf(29), 0);
        check.same("used(29, 0)", x.used(29, 0), 3);
        check.same("register(1)", x.register(1), 100);
        check.same("registerByLots(1)", x.registerByLots(1), 100);
        check.noState("lots that are used up are lots", () -> x.fill(1, 1));
    }

    private static void margins(Check check) {
        check.sentence("`margin`: 0 to 1000");
        BatchDoser x = new BatchDoser();
        check.same("setMargin(0, 0)", x.setMargin(0, 0), 50);
        check.same("setMargin(0, 1000)", x.setMargin(0, 1000), 0);
        for (int margin : new int[] {-1, 1001, Integer.MIN_VALUE, Integer.MAX_VALUE}) {
            check.noArgument("setMargin(0, " + margin + ")", () -> x.setMargin(0, margin));
        }
        check.same("setMargin(0, 5)", x.setMargin(0, 5), 1000);
        for (int bin = 1; bin <= 3; bin++) {
            check.same("another bin", x.setMargin(bin, 5), 50);
        }
    }

    private static void firstFilledFirstUsed(Check check) {
        check.sentence("the first one filled being the first one used");
        BatchDoser x = new BatchDoser();
        x.fill(3, 10);
        x.fill(2, 70);
        x.fill(1, 10);
        x.fill(2, 40);
        x.addStep(2, 100, 0);
        Given.dose(x, 100);
        check.same("leftOf(1)", x.leftOf(1), 0);
        check.same("leftOf(3)", x.leftOf(3), 10);
        check.same("another bin", x.leftOf(0), 10);
        check.same("another bin", x.leftOf(2), 10);
        x.fill(2, 200);
        Given.dose(x, 100);
        check.same("a lot that was begun comes first", x.used(3, 1), 10);
        check.same("then the one filled later", x.used(4, 1), 90);
    }

    private static void untilNothingIsLeft(Check check) {
        check.sentence("the first one until nothing of it is left, then the next one");
        lotsOf100(check, 99, 1, 100, -1);
        lotsOf100(check, 100, 0, 100, -1);
        lotsOf100(check, 101, 0, 99, 0);
        lotsOf100(check, 200, 0, 0, 0);
        BatchDoser x = new BatchDoser();
        x.fill(0, 100);
        x.fill(0, 100);
        x.addStep(0, 100, 0);
        Given.dose(x, 100);
        check.same("firstBatch(1)", x.firstBatch(1), -1);
        Given.dose(x, 100);
        check.same("an empty lot gives nothing", x.used(0, 1), 0);
        check.same("the next one gives it all", x.used(1, 1), 100);
        check.same("firstBatch(0)", x.firstBatch(0), 0);
        check.same("firstBatch(1)", x.firstBatch(1), 1);
    }

    /** Two lots of 100, and a booking of the net: what is left of each, and the batch of the second. */
    private static void lotsOf100(Check check, int net, int first, int second, int batch) {
        BatchDoser x = new BatchDoser();
        x.fill(0, 100);
        x.fill(0, 100);
        x.addStep(0, net, 0);
        Given.dose(x, net);
        check.same("leftOf(0) after " + net, x.leftOf(0), first);
        check.same("leftOf(1) after " + net, x.leftOf(1), second);
        check.same("used(0, 0) after " + net, x.used(0, 0), 100 - first);
        check.same("used(1, 0) after " + net, x.used(1, 0), 100 - second);
        check.same("firstBatch(1) after " + net, x.firstBatch(1), batch);
        check.same("stock(0) after " + net, x.stock(0), 200 - net);
    }

    private static void whatLotsDoNotHave(Check check) {
        check.sentence("what the lots do not have is untraced");
        for (int over = 0; over <= 1; over++) {
            BatchDoser x = new BatchDoser();
            x.fill(0, 60);
            x.fill(0, 40);
            x.addStep(0, 100 + over, 0);
            Given.dose(x, 100 + over);
            check.same("stock(0)", x.stock(0), 0);
            check.same("register(0)", x.register(0), 100 + over);
            check.same("registerByLots(0)", x.registerByLots(0), 100 + over);
            check.same("used by lots", x.used(0, 0) + x.used(1, 0), 100);
            x.fill(0, 5);
            check.same("a lot filled later stays whole", x.stock(0), 5);
            check.same("firstBatch(2)", x.firstBatch(2), -1);
            check.same("registerByLots(0)", x.registerByLots(0), 100 + over);
        }
    }

    private static void emptyBin(Check check) {
        check.sentence("what the lots do not have is untraced (an empty bin)");
        BatchDoser x = new BatchDoser();
        x.fill(1, 500);
        x.addStep(0, 100, 0);
        Given.dose(x, 100);
        check.same("register(0)", x.register(0), 100);
        check.same("registerByLots(0)", x.registerByLots(0), 100);
        check.same("stock(0)", x.stock(0), 0);
        check.same("another bin gives nothing", x.stock(1), 500);
        check.same("register(1)", x.register(1), 0);
        check.same("registerByLots(1)", x.registerByLots(1), 0);
        check.same("used(0, 0)", x.used(0, 0), 0);
    }

    private static void registerFarUp(Check check) {
        check.sentence("all that was booked from it");
        BatchDoser x = new BatchDoser();
        x.fill(0, 100000);
        x.fill(0, 100000);
        x.addStep(0, 10000, 1000);
        for (int batch = 0; batch < 20; batch++) {
            x.ticks(-1000, 4);
            x.start();
            x.tick(-1000);
            x.tick(100000);
            check.same("abort()", x.abort(), 101000);
        }
        check.same("register(0)", x.register(0), 20 * 101000);
        check.same("registerByLots(0)", x.registerByLots(0), 20 * 101000);
        check.same("used(0, 0)", x.used(0, 0), 100000);
        check.same("used(1, 0)", x.used(1, 0), 1000);
        check.same("used(1, 1)", x.used(1, 1), 99000);
        check.same("used(1, 2)", x.used(1, 2), 0);
    }

    private static void stockOfAllLots(Check check) {
        check.sentence("Returns what is left of all lots of a bin");
        BatchDoser x = new BatchDoser();
        check.same("no lot", x.stock(0), 0);
        for (int lot = 0; lot < 30; lot++) {
            x.fill(0, 100000);
        }
        check.same("30 lots of the most", x.stock(0), 3000000);
        check.same("another bin", x.stock(1), 0);
        x.addStep(0, 1, 0);
        Given.dose(x, 1);
        check.same("less 1", x.stock(0), 2999999);
    }

    private static void registerTwice(Check check) {
        check.sentence("what is gone of the lots of the bin, and what is untraced");
        BatchDoser x = new BatchDoser();
        x.addStep(1, 100, 0);
        check.same("nothing booked", x.registerByLots(1), 0);
        Given.dose(x, 100);
        check.same("all untraced", x.registerByLots(1), 100);
        x.fill(1, 100);
        check.same("a lot with nothing gone", x.registerByLots(1), 100);
        Given.dose(x, 100);
        check.same("a lot that is gone", x.registerByLots(1), 200);
        Given.dose(x, 100);
        check.same("untraced again", x.registerByLots(1), 300);
        check.same("register(1)", x.register(1), 300);
    }

    private static void noSuchLot(Check check) {
        check.sentence("Throws `IndexOutOfBoundsException` if there is no such lot");
        BatchDoser x = new BatchDoser();
        x.addStep(0, 10, 0);
        x.start();
        noLot(check, x, 0);
        for (int lots = 1; lots <= 30; lots++) {
            x.fill(lots % 4, lots);
            check.same("leftOf", x.leftOf(lots - 1), lots);
            check.same("firstBatch", x.firstBatch(lots - 1), -1);
            check.same("used", x.used(lots - 1, 0), 0);
            noLot(check, x, lots);
        }
        noLot(check, x, -1);
        noLot(check, x, Integer.MIN_VALUE);
        noLot(check, x, Integer.MAX_VALUE);
    }

    private static void noLot(Check check, BatchDoser x, int lot) {
        check.noIndex("leftOf(" + lot + ")", () -> x.leftOf(lot));
        check.noIndex("firstBatch(" + lot + ")", () -> x.firstBatch(lot));
        check.noIndex("used(" + lot + ", 0)", () -> x.used(lot, 0));
    }

    private static void firstBatchOfNone(Check check) {
        check.sentence("-1 if there is none");
        BatchDoser x = new BatchDoser();
        x.fill(0, 100);
        check.same("no batch", x.firstBatch(0), -1);
        x.addStep(0, 100, 0);
        x.start();
        check.same("a batch that has booked nothing", x.firstBatch(0), -1);
        x.ticks(0, 4);
        x.abort();
        check.same("a batch that has booked 0", x.firstBatch(0), -1);
        x.start();
        x.tick(0);
        x.tick(1);
        x.abort();
        check.same("a batch that has booked 1", x.firstBatch(0), 1);
        Given.dose(x, 100);
        check.same("the first one stays", x.firstBatch(0), 1);
        BatchDoser y = new BatchDoser();
        y.fill(0, 100);
        y.addStep(0, 100, 0);
        Given.dose(y, 100);
        check.same("the batch 0", y.firstBatch(0), 0);
    }

    private static void noSuchBatch(Check check) {
        check.sentence("no such lot, or no such batch");
        BatchDoser x = new BatchDoser();
        x.fill(0, 10);
        x.addStep(0, 10, 0);
        for (int batches = 0; batches <= 20; batches++) {
            int next = batches;
            check.noIndex("used of the next batch", () -> x.used(0, next));
            check.noIndex("neither lot nor batch", () -> x.used(1, next));
            if (batches < 20) {
                x.start();
                check.same("used of the batch that runs", x.used(0, batches), 0);
                x.abort();
                check.same("used of the batch that was aborted", x.used(0, batches), 0);
            }
        }
        for (int batch : new int[] {-1, Integer.MIN_VALUE, Integer.MAX_VALUE}) {
            check.noIndex("used(0, " + batch + ")", () -> x.used(0, batch));
        }
    }

    private static void lastLotAndBatch(Check check) {
        check.sentence("Returns how much of a lot was booked for a batch");
        BatchDoser x = new BatchDoser();
        for (int lot = 0; lot < 30; lot++) {
            x.fill(0, 100);
        }
        // 19 batches of 150 leave 150 to the last one, of which it takes what is asked.
        x.addStep(0, 150, 0);
        for (int batch = 0; batch < 19; batch++) {
            Given.dose(x, 150);
        }
        x.clearRecipe();
        x.addStep(0, 149, 0);
        Given.dose(x, 149);
        check.same("used(29, 19)", x.used(29, 19), 99);
        check.same("used(28, 19)", x.used(28, 19), 50);
        check.same("used(28, 18)", x.used(28, 18), 50);
        check.same("used(27, 18)", x.used(27, 18), 100);
        check.same("used(0, 0)", x.used(0, 0), 100);
        check.same("used(1, 0)", x.used(1, 0), 50);
        check.same("used(1, 1)", x.used(1, 1), 50);
        check.same("used(29, 18)", x.used(29, 18), 0);
        check.same("used(0, 19)", x.used(0, 19), 0);
        check.same("used(0, 1)", x.used(0, 1), 0);
        check.same("firstBatch(29)", x.firstBatch(29), 19);
        check.same("leftOf(29)", x.leftOf(29), 1);
        for (int lot = 0; lot < 30; lot++) {
            int sum = 0;
            for (int batch = 0; batch < 4; batch++) {
                sum += x.used(lot, batch);
            }
            check.same("of the lot " + lot + " to the batches 0 to 3", sum, lot < 6 ? 100 : 0);
        }
    }
}
