/** Promise 31. */
final class BeltTests {
    static boolean pass() {
        Check check = new Check("belt");
        carriesThousandths(check);
        refuses(check);
        return check.close();
    }

    private static void carriesThousandths(Check check) {
        BatchDoser x = new BatchDoser();
        check.same("belt(0, 0, 1)", x.belt(0, 0, 1), 0);
        check.same("belt(999, 1, 1)", x.belt(999, 1, 1), 0);
        check.same("belt(1, 1, 1) keeps the fraction", x.belt(1, 1, 1), 1);
        check.same("belt(333, 1, 2)", x.belt(333, 1, 2), 1);
        check.same("belt(2, 1, 100)", x.belt(2, 1, 100), 1);
        check.same("belt(134, 1, 1)", x.belt(134, 1, 1), 2);
        check.same("belt(7, 50, 3)", x.belt(7, 50, 3), 3);
        check.same("belt(10000, 1000, 100)", x.belt(10000, 1000, 100), 1000003);
        for (int i = 0; i < 399; i++) {
            x.belt(10000, 1000, 100);
        }
        check.same("belt beyond 32 bits", x.belt(0, 1000, 100), 400000003L);
    }

    private static void refuses(Check check) {
        BatchDoser x = new BatchDoser();
        check.noArgument("belt(-1, 1, 1)", () -> x.belt(-1, 1, 1));
        check.noArgument("belt(10001, 1, 1)", () -> x.belt(10001, 1, 1));
        check.noArgument("belt(1, -1, 1)", () -> x.belt(1, -1, 1));
        check.noArgument("belt(1, 1001, 1)", () -> x.belt(1, 1001, 1));
        check.noArgument("belt(1000, 1, 0)", () -> x.belt(1000, 1, 0));
        check.noArgument("belt(1000, 1, 101)", () -> x.belt(1000, 1, 101));
        check.same("belt after refusals", x.belt(0, 0, 100), 0);
    }
}
