import java.util.Random;

/** Runs of calls by chance: HoundLicence and PlainLicence must give the same answers. */
public final class PlainTest {
    private static final int RUNS = Integer.getInteger("runs", 250);
    // A call may bring two more with it: none comes behind an object's 512th.
    private static final int CALLS = 510;
    private static final int KINDS = 28;

    private final Random random;
    private final HoundLicence x = new HoundLicence();
    private final PlainLicence y = new PlainLicence();
    private final int run;
    private int calls = 0;

    private PlainTest(int run) {
        this.run = run;
        random = new Random(run);
    }

    public static void main(String[] args) {
        for (int run = 0; run < RUNS; run++) {
            new PlainTest(run).play();
        }
        Due.end();
    }

    private void play() {
        for (int i = random.nextInt(8); i > 0; i--) {
            call(random.nextInt(KINDS));
        }
        while (calls < CALLS) {
            tellLaw();
            int more = 100 + random.nextInt(400);
            for (int i = 0; i < more && calls < CALLS; i++) {
                call(random.nextInt(3) == 0 ? 7 + random.nextInt(5) : random.nextInt(KINDS));
            }
        }
    }

    private void tellLaw() {
        same("wipe()", x.wipe(), y.wipe());
        String law = law();
        for (int i = 0; i < law.length() && calls < CALLS; i++) {
            int letter = law.charAt(i);
            same("write(" + letter + ")", x.write(letter), y.write(letter));
        }
        same("fault() of " + law, x.fault(), y.fault());
        same("ordain() of " + law, x.ordain(), y.ordain());
    }

    /** Mostly a law; now and then one with a byte that is wrong, or cut off. */
    private String law() {
        StringBuilder law = new StringBuilder();
        law.append(String.format("L%02d", random.nextInt(3) == 0 ? 12 : random.nextInt(13)));
        for (int i = 0; i < 4; i++) {
            law.append(random.nextInt(5));
        }
        int[] streets = new int[6];
        int dogs = 0;
        for (int parts = 3 + random.nextInt(10); parts > 0; parts--) {
            int kind = random.nextInt(10);
            if (kind < 4 && dogs < 4) {
                streets[dogs] = random.nextInt(random.nextBoolean() ? 5 : 2);
                law.append('D').append(streets[dogs]).append(random.nextInt(random.nextBoolean() ? 10 : 3))
                    .append(1 + random.nextInt(3));
                dogs++;
            } else if (kind < 8) {
                int dog = random.nextInt(dogs + 1);
                boolean bachelor = dog == dogs;
                law.append('M').append(bachelor ? "-" : String.valueOf(dog))
                    .append(bachelor ? random.nextInt(5) : streets[dog]).append(random.nextInt(2));
            } else if (dogs > 1) {
                law.append('P').append(random.nextInt(dogs)).append(random.nextInt(dogs));
            }
        }
        int blur = random.nextInt(12);
        if (blur == 0) {
            law.setCharAt(random.nextInt(law.length()), "LDMP-0123456789:/\u00ff".charAt(random.nextInt(18)));
        } else if (blur == 1) {
            law.setLength(random.nextInt(law.length()));
        }
        // A law with a fault is told up to that fault, so that most of them stand.
        HoundLicence probe = new HoundLicence();
        Due.write(probe, law.toString());
        int fault = probe.fault();
        if (blur > 1 && fault >= 0 && fault < law.length()) {
            law.setLength(fault);
            probe.wipe();
            Due.write(probe, law.toString());
            while (probe.fault() >= 0) {
                law.setLength(law.length() - 1);
                probe.wipe();
                Due.write(probe, law.toString());
            }
        }
        return law.toString();
    }

    private void same(String call, long got, long want) {
        calls++;
        Due.is("run " + run + ", call " + calls + ": " + call, got, want);
    }

    /** A number of 0 .. most, seldom one beside them, or one far off. */
    private int upTo(int most) {
        switch (random.nextInt(50)) {
            case 0: return -1;
            case 1: return most + 1;
            case 2: return random.nextBoolean() ? Integer.MIN_VALUE : Integer.MAX_VALUE;
            default: return random.nextInt(most + 1);
        }
    }

    private int upTo(int least, int most) {
        return least + upTo(most - least);
    }

    private void call(int kind) {
        if (calls >= CALLS) {
            return;
        }
        int dog = upTo(random.nextInt(4) == 0 ? 3 : Math.max(0, y.about(0) - 1));
        int man = upTo(random.nextInt(4) == 0 ? 4 : Math.max(0, y.about(1) - 1));
        int street = upTo(4);
        if (kind < 7) {
            ofTheLaw(kind, dog, man);
        } else if (kind < 12) {
            acts(kind, dog, man);
        } else if (kind < 18) {
            ahead(kind, dog, street);
        } else if (kind < 24) {
            seen(kind, man, street);
        } else {
            chances(kind, man);
        }
    }

    private void ofTheLaw(int kind, int dog, int man) {
        int what = upTo(10);
        int part = upTo(5);
        int letter = upTo(255);
        switch (kind) {
            case 0 -> same("about(" + what + ")", x.about(what), y.about(what));
            case 1, 2 -> same("dog(" + dog + ", " + part + ")", x.dog(dog, part), y.dog(dog, part));
            case 3, 4 -> same("man(" + man + ", " + part + ")", x.man(man, part), y.man(man, part));
            case 5 -> same("write(" + letter + ")", x.write(letter), y.write(letter));
            default -> {
                if (random.nextInt(30) == 0) {
                    same("ordain()", x.ordain(), y.ordain());
                } else {
                    same("fault()", x.fault(), y.fault());
                }
            }
        }
    }

    private void acts(int kind, int dog, int man) {
        int way = upTo(1, 2);
        switch (kind) {
            case 7 -> same("lead(" + dog + ", " + way + ")", x.lead(dog, way), y.lead(dog, way));
            case 8 -> same("leash(" + man + ")", x.leash(man), y.leash(man));
            case 9 -> same("give(" + man + ", " + dog + ")", x.give(man, dog), y.give(man, dog));
            case 10 -> same("hour()", x.hour(), y.hour());
            default -> {
                for (int i = random.nextInt(3); i >= 0; i--) {
                    if (random.nextBoolean()) {
                        same("undo()", x.undo(), y.undo());
                    } else {
                        same("hour()", x.hour(), y.hour());
                    }
                }
            }
        }
    }

    private void ahead(int kind, int dog, int street) {
        int n = upTo(24);
        int steps = upTo(1, random.nextInt(4) == 0 ? 7 : 4);
        int what = upTo(1);
        int h = upTo(12);
        int a = upTo(1, 9);
        int b = upTo(1, 9);
        int t = upTo(99);
        switch (kind) {
            case 12 -> same("caught(" + n + ")", x.caught(n), y.caught(n));
            case 13 -> same("routes(" + dog + ", " + steps + ", " + street + ", " + what + ")",
                x.routes(dog, steps, street, what), y.routes(dog, steps, street, what));
            case 14 -> same("aired(" + dog + ")", x.aired(dog), y.aired(dog));
            case 15 -> same("heir(" + dog + ")", x.heir(dog), y.heir(dog));
            case 16 -> same("pays(" + h + ", " + n + ")", x.pays(h, n), y.pays(h, n));
            default -> same("spans(" + a + ", " + b + ", " + t + ")", x.spans(a, b, t), y.spans(a, b, t));
        }
    }

    private void seen(int kind, int man, int street) {
        int t = upTo(11);
        switch (kind) {
            case 18, 19 -> same("see(" + man + ", " + street + ", " + t + ")", x.see(man, street, t),
                y.see(man, street, t));
            case 20 -> same("unsee()", x.unsee(), y.unsee());
            case 21 -> same("walks()", x.walks(), y.walks());
            default -> same("sure(" + man + ")", x.sure(man), y.sure(man));
        }
    }

    private void chances(int kind, int man) {
        int row = random.nextInt(4) == 0 ? upTo(99999) : random.nextInt(2) * (int) Math.pow(10, random.nextInt(5));
        int what = upTo(1);
        int n = upTo(24);
        int slot = upTo(1);
        long v = random.nextLong();
        switch (kind) {
            case 24 -> same("rests(" + row + ", " + what + ")", x.rests(row, what), y.rests(row, what));
            case 25 -> same("chance(" + man + ", " + n + ", " + (what == 1) + ")",
                x.chance(man, n, what == 1), y.chance(man, n, what == 1));
            case 26 -> {
                int m = upTo(1, 30);
                same("days(" + m + ")", x.days(m), y.days(m));
                if (what == 0) {
                    same("seed(" + v + ")", x.seed(v), y.seed(v));
                }
            }
            default -> {
                if (what == 0) {
                    same("keep(" + slot + ")", x.keep(slot), y.keep(slot));
                } else {
                    same("again(" + slot + ")", x.again(slot), y.again(slot));
                }
            }
        }
    }
}
