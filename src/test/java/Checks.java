/** What all tests share: answers that are due, calls that are refused, and objects in known states. */
abstract class Checks {
    static final Class<?> INDEX = IndexOutOfBoundsException.class;
    static final Class<?> ARGUMENT = IllegalArgumentException.class;
    static final Class<?> STATE = IllegalStateException.class;

    /** Answers a new object in the same state each time. */
    interface Maker {
        SiloPads make();
    }

    interface Call {
        long answer(SiloPads x);
    }

    interface Answer {
        long get();
    }

    private static int wrong = 0;
    private static int compared = 0;
    private static String place = "";

    /** Says which sentence of the document the next lines hold to. */
    static void sentence(String words) {
        place = words;
    }

    static void end(String test) {
        System.out.println(test + ": " + compared + " answers, " + (wrong == 0 ? "all as promised" : wrong + " of them wrong"));
        if (wrong != 0) {
            System.exit(1);
        }
    }

    static void due(String call, long got, long want) {
        compare(call, got == want, "" + got, "" + want);
    }

    static void dueText(String call, String got, String want) {
        compare(call, got.equals(want), got, want);
    }

    static void dueDouble(String call, double got, double want) {
        compare(call, got == want, "" + got, "" + want);
    }

    private static void compare(String call, boolean right, String got, String want) {
        compared++;
        if (!right) {
            wrong++;
            System.out.println("\"" + place + "\": " + call + " answered " + got + ", due is " + want);
        }
    }

    /** The call throws just this exception, and the object's hash stays. */
    static void dueThrow(SiloPads x, String call, Class<?> want, Answer made) {
        long before = x.digest();
        dueText(call, thrownBy(made), nameOf(want));
        due(call + " changes nothing", x.digest(), before);
    }

    /** The call throws just this exception, and leaves all as on an object on which it was never made. */
    static void refused(String call, Class<?> want, Maker maker, Call made) {
        SiloPads x = maker.make();
        dueText(call, thrownBy(() -> made.answer(x)), nameOf(want));
        dueSame(call + ", refused", x, maker.make());
    }

    /** The call answers so, and leaves all as on an object on which it was never made. */
    static void looked(String call, long want, Maker maker, Call made) {
        SiloPads x = maker.make();
        due(call, made.answer(x), want);
        dueSame(call + ", looked at", x, maker.make());
    }

    /** The call answers so, saves one state, and undo then shows all that was there before but the buffer. */
    static void undoable(String call, long want, Maker maker, Call made) {
        SiloPads x = maker.make();
        int before = x.count(14);
        due(call, made.answer(x), want);
        int after = Math.min(6, before + 1);
        due(call + " saves one state of six at most", x.count(14), after);
        due(call + " is undone", x.undo(), after - 1);
        dueText(call + " was there before", view(x), view(maker.make()));
        if (before < 6) {
            SiloPads twin = maker.make();
            x.clearBuffer();
            twin.clearBuffer();
            dueSame(call + ", undone", x, twin);
        }
    }

    static String thrownBy(Answer made) {
        try {
            made.get();
            return "nothing";
        } catch (RuntimeException e) {
            return nameOf(e.getClass());
        }
    }

    static String nameOf(Class<?> thrown) {
        return thrown == null ? "nothing" : thrown.getSimpleName();
    }

    /** Both show the same, down to the last saved state; they are used up by it. */
    static void dueSame(String call, SiloPads x, SiloPads twin) {
        due(call + ", now", x.digest(), twin.digest());
        int states = Math.min(x.count(14), twin.count(14));
        for (int k = 1; k <= states; k++) {
            due(call + ", states left", x.undo(), twin.undo());
            due(call + ", " + k + " undone", x.digest(), twin.digest());
        }
        due(call + ", length", x.clearBuffer(), twin.clearBuffer());
        due(call + ", nothing left of it", x.count(14), 0);
        due(call + ", nothing left of the other", twin.count(14), 0);
    }

    /** All that can be seen but the number of saved states, which undo changes, and the buffer. */
    static String view(SiloPads x) {
        StringBuilder seen = new StringBuilder();
        for (int what = 0; what < 14; what++) {
            seen.append(x.count(what)).append(' ');
        }
        for (int silo = 0; silo < 4; silo++) {
            seen.append("| ");
            for (int what = 0; what < 6; what++) {
                seen.append(x.silo(silo, what)).append(' ');
            }
            for (int layer = 0; layer < x.silo(silo, 1); layer++) {
                seen.append(x.layer(silo, layer, 0)).append('/').append(x.layer(silo, layer, 1)).append(' ');
            }
            for (int ship = 0; ship < 6; ship++) {
                seen.append(x.whyNot(silo, ship));
            }
            seen.append(' ').append(x.shakesNeeded(silo)).append(' ').append(x.ifFlowed(silo, 0, 24, 4)).append(' ');
        }
        for (int ship = 0; ship < 6; ship++) {
            seen.append(x.shipOf(ship, 0)).append('/').append(x.shipOf(ship, 1)).append(' ');
        }
        return seen.append(x.urgent()).append(' ').append(x.nextArch()).append(' ').append(x.softness()).toString();
    }

    static long hashOf(SiloPads x, String buffer) {
        long hash = 3533;
        for (int what = 0; what < 15; what++) {
            hash = 31 * hash + x.count(what);
        }
        for (int silo = 0; silo < 4; silo++) {
            for (int what = 0; what < 6; what++) {
                hash = 31 * hash + x.silo(silo, what);
            }
            for (int layer = 0; layer < x.silo(silo, 1); layer++) {
                for (int what = 0; what < 3; what++) {
                    hash = 31 * hash + x.layer(silo, layer, what);
                }
            }
            hash = 31 * hash + x.shakesNeeded(silo);
            hash = 31 * hash + x.whyNot(silo, 0);
            hash = 31 * hash + x.ifFlowed(silo, 0, 4, 4);
        }
        for (int ship = 0; ship < 6; ship++) {
            hash = 31 * hash + x.shipOf(ship, 0);
            hash = 31 * hash + x.shipOf(ship, 1);
        }
        hash = 31 * hash + x.urgent();
        hash = 31 * hash + x.nextArch();
        hash = 31 * hash + Double.doubleToLongBits(x.softness());
        hash = 31 * hash + buffer.length();
        for (int k = 0; k < buffer.length(); k++) {
            hash = 31 * hash + buffer.charAt(k);
        }
        return hash;
    }

    /** Puts layers into a silo, a day between two, so the top one has the age 0; ship 0 goes empty. */
    static void fill(SiloPads x, int silo, int... tonnes) {
        int softDays = x.count(11);
        x.set(1, 20);
        for (int k = 0; k < tonnes.length; k++) {
            if (k > 0) {
                due("no arch meanwhile", x.pass(1), 0);
            }
            x.ship(0, 900, tonnes[k]);
            due("fills", x.unload(silo, 0, tonnes[k]), tonnes[k]);
        }
        x.set(1, softDays);
    }

    static SiloPads filled(int... tonnes) {
        SiloPads x = new SiloPads();
        fill(x, 0, tonnes);
        return x;
    }

    /** Silo 0 with one layer of this age. */
    static SiloPads aged(int tonnes, int age) {
        SiloPads x = filled(tonnes);
        for (int left = age; left > 0; left -= 30) {
            x.pass(Math.min(30, left));
        }
        return x;
    }

    /** Silo 0 with these layers, the top one of 3 days and each one below a day older, and an arch. */
    static SiloPads archedSilo(int... tonnes) {
        SiloPads x = filled(tonnes);
        due("an arch forms", x.pass(3), 1);
        return x;
    }

    /** Silo 0 with an arch above nothing, and above it these layers; ship 5 took what was below. */
    static SiloPads hollowSilo(int... tonnes) {
        int[] all = new int[tonnes.length + 1];
        all[0] = 10;
        System.arraycopy(tonnes, 0, all, 1, tonnes.length);
        SiloPads x = filled(all);
        due("an arch forms", x.pass(3), 1);
        x.set(1, 20);
        x.pads(0, 4);
        due("the lowest layer goes", x.flow(0, 5, 1), 10);
        x.pads(0, 0);
        x.set(1, 3);
        due("the arch is above nothing", x.whyNot(0, 5), 2);
        return x;
    }

    /** An arch above a layer, one above nothing, a silo of ten layers, a full ship, all pads that the blower bears,
     * a buffer, and six saved states. */
    static SiloPads busy() {
        SiloPads x = new SiloPads();
        x.set(1, 20);
        for (int day = 0; day < 10; day++) {
            if (day > 0) {
                x.pass(1);
            }
            x.ship(0, 900, 200);
            x.unload(2, 0, 10 + day);
            if (day == 3 || day == 7) {
                x.unload(0, 0, 60);
                x.unload(1, 0, 50);
            }
        }
        x.set(1, 5);
        due("three arches", x.pass(1), 3);
        x.pads(1, 4);
        x.flow(1, 3, 1);
        x.shake(0);
        x.pads(0, 2);
        x.ship(1, 40, 40);
        x.set(2, 19);
        type(x, "0<1:");
        return x;
    }

    static void type(SiloPads x, String text) {
        for (int k = 0; k < text.length(); k++) {
            x.append(text.charAt(k));
        }
    }

    static SiloPads typed(String text) {
        SiloPads x = new SiloPads();
        type(x, text);
        return x;
    }

    static void siloIs(SiloPads x, int silo, int... numbers) {
        for (int what = 0; what < 6; what++) {
            due("silo " + silo + ", " + what, x.silo(silo, what), numbers[what]);
        }
    }

    static void layerIs(SiloPads x, int silo, int layer, int... numbers) {
        for (int what = 0; what < 3; what++) {
            due("layer " + silo + ", " + layer + ", " + what, x.layer(silo, layer, what), numbers[what]);
        }
    }

    /** The tonnes of the silo's layers, from the bottom. */
    static void layersAre(SiloPads x, int silo, int... tonnes) {
        due("layers of silo " + silo, x.silo(silo, 1), tonnes.length);
        for (int k = 0; k < tonnes.length && k < x.silo(silo, 1); k++) {
            due("tonnes of layer " + silo + ", " + k, x.layer(silo, k, 0), tonnes[k]);
        }
    }

    static void countsAre(SiloPads x, int... counts) {
        for (int what = 0; what < 15; what++) {
            due("count " + what, x.count(what), counts[what]);
        }
    }
}
