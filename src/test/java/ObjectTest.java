import java.util.Random;

/** What the document says of an object as a whole: a call changes what it names and nothing else, for 512 calls. */
public final class ObjectTest {
    private static final int MOST_CALLS = 512;

    private static final Check CHECK = new Check();

    public static void main(String[] args) {
        bodyAndFieldChangeOneNumber();
        springsChangeOnlySprings();
        stepChangesOnlyPlacesAndSpeeds();
        storesChangeOnlyStores();
        othersChangeNothing();
        refusedCallsLeaveNoTrace();
        objectsGoTheirOwnWays();
        lastCallsAreAsGoodAsTheFirst();
        CHECK.end();
    }

    private static Bench filled() {
        Bench bench = new Bench(CHECK);
        bench.fill();
        return bench;
    }

    private static void bodyAndFieldChangeOneNumber() {
        CHECK.sentence("body: WHAT of a body becomes the double with these BITS; field: A number of the field, likewise");
        for (int n = 0; n < Bench.STORES_AT; n++) {
            Bench bench = filled();
            long[] before = bench.state();
            if (n < Bench.FIELD_AT) {
                bench.set(n / Bench.BODY_NUMBERS, n % Bench.BODY_NUMBERS, -77);
            } else {
                bench.setField(n - Bench.FIELD_AT, -77);
            }
            bench.unchanged("number " + n + " for those before", before, 0, n);
            bench.unchanged("number " + n + " for those behind", before, n + 1, Bench.ENERGY_AT);
        }
    }

    private static void springsChangeOnlySprings() {
        CHECK.sentence("spring: A spring between two bodies: its number; cut: The latest spring goes");
        Bench bench = filled();
        long[] before = bench.state();
        for (int n = 2; n < 10; n++) {
            CHECK.due("spring " + n, bench.addSpring(n % 8, (n + 3) % 8, 0.5f * n, 1, 2), n);
        }
        bench.unchanged("spring", before, 0, Bench.ENERGY_AT);
        Bench cut = filled();
        cut.addSpring(1, 2, 9, 9, 9);
        cut.lab.cut();
        cut.unchanged("cut() of a new spring", before);
        cut.lab.cut();
        cut.unchanged("cut() of an old one", before, 0, Bench.ENERGY_AT);
    }

    private static void stepChangesOnlyPlacesAndSpeeds() {
        CHECK.sentence("A STEP: u = .., v = .., x = .., y = ..");
        Bench bench = filled();
        long[] before = bench.state();
        bench.step(20);
        long[] after = bench.state();
        for (int n = 0; n < Bench.FIELD_AT; n++) {
            boolean isMoved = n % Bench.BODY_NUMBERS < Bench.M;
            CHECK.isTrue("number " + n + (isMoved ? " is another one" : " is the same"), isMoved != (before[n] == after[n]));
        }
        bench.unchanged("step(20), of the field and the stores", before, Bench.FIELD_AT, Bench.ENERGY_AT);
        CHECK.due("cut() after step(20)", bench.lab.cut(), 1);
    }

    private static void storesChangeOnlyStores() {
        CHECK.sentence("keep, reckon, whole, fromSingle: Store k becomes ..");
        for (int k = 0; k < Bench.STORES; k++) {
            for (int call = 0; call < 4; call++) {
                Bench bench = filled();
                long[] before = bench.state();
                double want = changeStore(bench, call, k);
                bench.storeDue(k, want);
                int at = Bench.STORES_AT + k;
                bench.unchanged("a change of store " + k + " for all before", before, 0, at);
                bench.unchanged("a change of store " + k + " for all behind", before, at + 1, before.length);
            }
        }
    }

    private static double changeStore(Bench bench, int call, int k) {
        switch (call) {
            case 0:
                bench.keep(k, 100);
                return 100;
            case 1:
                CHECK.due("reckon", bench.lab.reckon(Bench.MULTIPLY, k, 0, 7), -3.75 * 3.25);
                return -3.75 * 3.25;
            case 2:
                CHECK.due("whole", bench.lab.whole(k, 0, 300), 300.0);
                return 300;
            default:
                CHECK.due("fromSingle", bench.lab.fromSingle(k, Check.bits(400f)), 400.0);
                return 400;
        }
    }

    // The forces can't be told, so a STEP of a twin that was left alone has to tell that nothing changed.
    private static void othersChangeNothing() {
        CHECK.sentence("tell, about, cast, compare, energy, mean, horner and single answer, and change nothing");
        Bench twin = filled();
        Bench bench = filled();
        long[] before = bench.state();
        for (int n = 0; n < 6; n++) {
            bench.lab.tell(n, n);
            bench.lab.about(n);
            bench.lab.cast(n, n);
            bench.lab.compare(n, n + 1);
            bench.lab.energy();
            bench.lab.mean(n, n % 2);
            bench.lab.horner(n);
            bench.lab.single(n);
        }
        bench.unchanged("a call that only answers", before);
        bench.step(3);
        twin.step(3);
        bench.unchanged("a call that only answers, for later STEPS", twin.state());
        CHECK.due("cut()", bench.lab.cut(), 1);
    }

    private static void refusedCallsLeaveNoTrace() {
        CHECK.sentence("REFUSED; 1 for other numbers; 2^62 for other numbers: for later STEPS, too");
        Bench twin = filled();
        Bench bench = filled();
        long five = Check.bits(5.0);
        CHECK.due("body", bench.lab.body(8, 0, five), MotionLab.REFUSED);
        CHECK.due("field", bench.lab.field(6, five), MotionLab.REFUSED);
        CHECK.due("spring", bench.addSpring(1, 1, 5, 5, 5), MotionLab.REFUSED);
        CHECK.due("step", bench.lab.step(21), MotionLab.REFUSED);
        CHECK.due("keep", bench.lab.keep(8, five), MotionLab.REFUSED);
        CHECK.due("compare", bench.lab.compare(8, 0), MotionLab.REFUSED);
        CHECK.due("tell", bench.lab.tell(0, 6), 1);
        CHECK.due("about", bench.lab.about(6), 1);
        CHECK.due("reckon", bench.lab.reckon(15, 0, 0, 0), 1);
        CHECK.due("whole", bench.lab.whole(0, 2, 5), 1);
        CHECK.due("cast", bench.lab.cast(0, 5), 1L << 62);
        CHECK.due("mean", bench.lab.mean(0, 2), 1);
        CHECK.due("horner", bench.lab.horner(8), 1);
        CHECK.due("single", bench.lab.single(8), 1);
        CHECK.due("fromSingle", bench.lab.fromSingle(8, 5), 1);
        bench.step(2);
        twin.step(2);
        bench.unchanged("a refused call", twin.state());
        CHECK.due("cut()", bench.lab.cut(), 1);
    }

    private static void objectsGoTheirOwnWays() {
        CHECK.sentence("A new object: makes an object in the state that the terms give; calls on it are its own");
        Bench alone = filled();
        alone.step(5);
        Bench one = filled();
        Bench other = filled();
        for (int n = 0; n < 5; n++) {
            one.step(1);
            other.set(n, Bench.U, 1000);
            other.setField(Bench.GX, n);
            other.keep(n, n);
            other.lab.cut();
            other.step(n);
        }
        one.unchanged("what is called on another object", alone.state());
        CHECK.due("cut()", one.lab.cut(), 1);
    }

    private static void lastCallsAreAsGoodAsTheFirst() {
        CHECK.sentence("An object is used for at most 512 calls after it has been made");
        for (int run = 0; run < 12; run++) {
            MotionLab lab = new MotionLab();
            Reference reference = new Reference();
            Random random = new Random(run);
            for (int call = 1; call <= MOST_CALLS; call++) {
                anyCall("call " + call + " of run " + run, random, lab, reference);
            }
        }
    }

    private static void anyCall(String call, Random random, MotionLab lab, Reference reference) {
        int a = random.nextInt(8);
        int b = random.nextInt(6);
        int c = random.nextInt(8);
        double d = random.nextInt(33) / 8.0 - 2;
        long bits = Check.bits(d);
        int single = Check.bits((float) d);
        switch (random.nextInt(17)) {
            case 0 -> CHECK.due(call, lab.body(a, b, bits), reference.body(a, b, bits));
            case 1 -> CHECK.due(call, lab.field(b, bits), reference.field(b, bits));
            case 2 -> CHECK.due(call, lab.spring(a, c, single, single, single), reference.spring(a, c, single, single, single));
            case 3 -> CHECK.due(call, lab.cut(), reference.cut());
            case 4 -> CHECK.due(call, lab.step(a), reference.step(a));
            case 5 -> CHECK.due(call, lab.tell(a, b), reference.tell(a, b));
            case 6 -> CHECK.due(call, lab.about(b), reference.about(b));
            case 7 -> CHECK.due(call, lab.keep(a, bits), reference.keep(a, bits));
            case 8 -> CHECK.due(call, lab.reckon(a + b, a, b, c), reference.reckon(a + b, a, b, c));
            case 9 -> CHECK.due(call, lab.whole(a, c % 2, bits), reference.whole(a, c % 2, bits));
            case 10 -> CHECK.due(call, lab.cast(a, b), reference.cast(a, b));
            case 11 -> CHECK.due(call, lab.compare(a, c), reference.compare(a, c));
            case 12 -> CHECK.due(call, lab.energy(), reference.energy());
            case 13 -> CHECK.due(call, lab.mean(b, c % 2), reference.mean(b, c % 2));
            case 14 -> CHECK.due(call, lab.horner(a), reference.horner(a));
            case 15 -> CHECK.due(call, lab.single(a), reference.single(a));
            default -> CHECK.due(call, lab.fromSingle(a, single), reference.fromSingle(a, single));
        }
    }
}
