/** What can be told of an object by its answers, in one text, so that two objects can be compared. */
final class State {
    private State() {
    }

    /** All that can be asked without changing anything but THE SEED, which is put back. */
    static String all(HoundLicence x) {
        StringBuilder out = new StringBuilder();
        for (int what = 0; what <= 10; what++) {
            out.append(x.about(what)).append(' ');
        }
        for (int dog = 0; dog < 4; dog++) {
            for (int what = 0; what <= 5; what++) {
                out.append(x.dog(dog, what)).append(' ');
            }
        }
        for (int man = 0; man < 5; man++) {
            for (int what = 0; what <= 4; what++) {
                out.append(x.man(man, what)).append(' ');
            }
            out.append(x.sure(man)).append(' ');
        }
        long seed = x.seed(0);
        x.seed(seed);
        return out.append(x.fault()).append(' ').append(x.walks()).append(' ').append(seed).toString();
    }

    /** What is told of the time to come. */
    static String ahead(HoundLicence x) {
        StringBuilder out = new StringBuilder();
        for (int n = 1; n <= 24; n++) {
            out.append(x.caught(n)).append(' ').append(x.pays(0, n)).append(' ').append(x.pays(12, n)).append(' ');
        }
        for (int dog = 0; dog < 4; dog++) {
            for (int street = 0; street < 5; street++) {
                out.append(x.routes(dog, 3, street, 0)).append(' ');
            }
            out.append(x.aired(dog)).append(' ').append(x.heir(dog)).append(' ');
        }
        for (int man = 0; man < 5; man++) {
            out.append(x.chance(man, 9, true)).append(' ');
        }
        return out.append(x.days(30)).append(' ').append(x.seed(0)).toString();
    }

    /** All that ACTS change. */
    static String acted(HoundLicence x) {
        StringBuilder out = new StringBuilder();
        for (int what : new int[] {3, 5, 6, 7}) {
            out.append(x.about(what)).append(' ');
        }
        for (int dog = 0; x.dog(dog, 0) >= 0; dog++) {
            out.append(x.dog(dog, 0)).append(' ').append(x.dog(dog, 4)).append(' ');
        }
        for (int man = 0; x.man(man, 1) >= 0; man++) {
            out.append(x.man(man, 0)).append(' ').append(x.man(man, 1)).append(' ').append(x.man(man, 4)).append(' ');
        }
        return out.toString();
    }

    /** All that ACTS change, as it is now and behind each undo() as long as there is one. */
    static String undone(HoundLicence x) {
        StringBuilder out = new StringBuilder();
        for (int left = x.about(8); left >= 0; left--) {
            out.append(acted(x)).append(x.undo()).append(' ');
        }
        return out.toString();
    }

    static String keptIn(HoundLicence x, int slot) {
        return x.again(slot) + " " + all(x);
    }

    static String ordained(HoundLicence x) {
        return x.ordain() + " " + all(x);
    }
}
