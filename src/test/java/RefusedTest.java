/**
 * "A call that throws an exception changes nothing. If several exceptions apply, the one that is named first in the
 * throws clause is thrown": each method with arguments at the edges, just inside and just outside, and far off, in
 * all their pairings, on a new object and on one in which much is going on. What is not refused must not throw;
 * what only looks must change nothing; what is undoable must save one state.
 */
public final class RefusedTest extends Checks {
    private static final int MIN = Integer.MIN_VALUE;
    private static final int MAX = Integer.MAX_VALUE;
    private static final int[] SILOS = {MIN, -1, 0, 1, 2, 3, 4, MAX};
    private static final int[] SHIPS = {MIN, -1, 0, 1, 4, 5, 6, MAX};
    private static final int[] PADS = {MIN, -1, 0, 1, 2, 3, 4, 5, MAX};
    private static final int[] HOURS = {MIN, -1, 0, 1, 2, 23, 24, 25, MAX};

    /** In this order the throws clauses name them. */
    private static Class<?> first(boolean index, boolean argument, boolean state) {
        return index ? INDEX : argument ? ARGUMENT : state ? STATE : null;
    }

    private static boolean out(int value, int least, int most) {
        return value < least || value > most;
    }

    public static void main(String[] args) {
        Maker[] makers = {SiloPads::new, Checks::busy, RefusedTest::full, RefusedTest::halfSaved};
        for (Maker maker : makers) {
            ship(maker);
            unload(maker);
            flow(maker);
            pads(maker);
            shake(maker);
            pass(maker);
            set(maker);
            append(maker);
            firstError(maker);
            play(maker);
            undo(maker);
            silo(maker);
            layer(maker);
            shipOf(maker);
            count(maker);
            whyNot(maker);
            ifFlowed(maker);
            lookWithoutArguments(maker);
            shakesNeeded(maker);
        }
        end("RefusedTest");
    }

    /** Ten full layers' worth of tonnes, and a buffer that is a complete text of 60 characters. */
    private static SiloPads full() {
        SiloPads x = new SiloPads();
        fill(x, 0, 500, 500, 199, 1);
        fill(x, 3, 1, 1, 1, 1, 1, 1, 1, 1, 1, 1);
        x.set(0, 16);
        for (int silo = 0; silo < 4; silo++) {
            x.pads(silo, 4);
        }
        for (int k = 0; k < 19; k++) {
            type(x, "+1;");
        }
        type(x, "+30");
        return x;
    }

    /** Three saved states, a complete text in the buffer, and the blower as small as the pads allow. */
    private static SiloPads halfSaved() {
        SiloPads x = filled(30, 20);
        x.pads(3, 1);
        while (x.count(14) > 0) {
            x.undo();
        }
        x.pads(2, 2);
        x.set(0, 2);
        x.pass(1);
        type(x, "0>2:24");
        return x;
    }

    /** A method that is undoable, or is refused. */
    private static void does(String call, Class<?> want, Maker maker, Call made) {
        if (want != null) {
            refused(call, want, maker, made);
        } else {
            undoable(call, made.answer(maker.make()), maker, made);
        }
    }

    /** A method that only looks, or is refused. */
    private static void looks(String call, Class<?> want, Maker maker, Call made) {
        if (want != null) {
            refused(call, want, maker, made);
        } else {
            looked(call, made.answer(maker.make()), maker, made);
        }
    }

    private static String text(String name, int... arguments) {
        StringBuilder call = new StringBuilder(name).append('(');
        for (int k = 0; k < arguments.length; k++) {
            call.append(k == 0 ? "" : ", ").append(arguments[k]);
        }
        return call.append(')').toString();
    }

    private static void ship(Maker maker) {
        sentence("ship: 0 to 5, hold: 0 to 900, tonnes: 0 to hold");
        for (int ship : SHIPS) {
            for (int hold : new int[] {MIN, -1, 0, 1, 899, 900, 901, MAX}) {
                for (int tonnes : new int[] {MIN, -1, 0, 1, hold - 1, hold, hold + 1, 900, 901, MAX}) {
                    Class<?> want = first(out(ship, 0, 5), out(hold, 0, 900) || out(tonnes, 0, hold), false);
                    does(text("ship", ship, hold, tonnes), want, maker, x -> x.ship(ship, hold, tonnes));
                }
            }
        }
    }

    private static void unload(Maker maker) {
        sentence("unload: silo 0 to 3, ship 0 to 5, tonnes 1 to 500");
        for (int silo : SILOS) {
            for (int ship : SHIPS) {
                for (int tonnes : new int[] {MIN, -1, 0, 1, 2, 499, 500, 501, MAX}) {
                    Class<?> want = first(out(silo, 0, 3) || out(ship, 0, 5), out(tonnes, 1, 500), false);
                    does(text("unload", silo, ship, tonnes), want, maker, x -> x.unload(silo, ship, tonnes));
                }
            }
        }
    }

    private static void flow(Maker maker) {
        sentence("flow: silo 0 to 3, ship 0 to 5, hours 1 to 24");
        for (int silo : SILOS) {
            for (int ship : SHIPS) {
                for (int hours : HOURS) {
                    Class<?> want = first(out(silo, 0, 3) || out(ship, 0, 5), out(hours, 1, 24), false);
                    does(text("flow", silo, ship, hours), want, maker, x -> x.flow(silo, ship, hours));
                }
            }
        }
    }

    private static void pads(Maker maker) {
        sentence("pads: silo 0 to 3, pads 0 to 4, and the blower must bear them");
        SiloPads seen = maker.make();
        for (int silo : SILOS) {
            for (int pads : PADS) {
                boolean bad = out(silo, 0, 3);
                boolean tooMany = !bad && (long) seen.count(6) - seen.silo(silo, 2) + pads > seen.count(10);
                Class<?> want = first(bad, out(pads, 0, 4), tooMany);
                does(text("pads", silo, pads), want, maker, x -> x.pads(silo, pads));
            }
        }
    }

    private static void shake(Maker maker) {
        sentence("shake: silo 0 to 3, with layers");
        SiloPads seen = maker.make();
        for (int silo : SILOS) {
            boolean bad = out(silo, 0, 3);
            Class<?> want = first(bad, false, !bad && seen.silo(silo, 1) == 0);
            does(text("shake", silo), want, maker, x -> x.shake(silo));
        }
    }

    private static void pass(Maker maker) {
        sentence("pass: days 1 to 30");
        for (int days : new int[] {MIN, -1, 0, 1, 2, 29, 30, 31, MAX}) {
            does(text("pass", days), first(false, out(days, 1, 30), false), maker, x -> x.pass(days));
        }
    }

    private static void set(Maker maker) {
        sentence("set: setting 0 to 3, 0 to 16 pads, 1 to 20 days, 5 to 100 tonnes, 0 to 900 tonnes, not below the pads on");
        int[] least = {0, 1, 5, 0};
        int[] most = {16, 20, 100, 900};
        int on = maker.make().count(6);
        for (int setting : SILOS) {
            boolean bad = out(setting, 0, 3);
            int low = bad ? 0 : least[setting];
            int high = bad ? 0 : most[setting];
            for (int value : new int[] {MIN, -1, 0, low - 1, low, low + 1, on - 1, on, on + 1, high - 1, high, high + 1, MAX}) {
                Class<?> want = first(bad, out(value, low, high), setting == 0 && on > value);
                does(text("set", setting, value), want, maker, x -> x.set(setting, value));
            }
        }
    }

    private static void append(Maker maker) {
        sentence("append: code 33 to 126, unless the buffer has 60 characters");
        int length = maker.make().clearBuffer();
        for (int code : new int[] {MIN, -1, 0, 10, 32, 33, 34, '0', 125, 126, 127, 128, 255, 256 + '0', 65536 + '0', MAX}) {
            Class<?> want = first(false, out(code, 33, 126), length >= 60);
            if (want != null) {
                refused(text("append", code), want, maker, x -> x.append(code));
            } else {
                SiloPads x = maker.make();
                due(text("append", code), x.append(code), length + 1);
                due("not undoable", x.count(14), maker.make().count(14));
                due("one character more", x.clearBuffer(), length + 1);
            }
        }
        SiloPads x = maker.make();
        due("clearBuffer is not undoable", x.clearBuffer(), length);
        SiloPads twin = maker.make();
        twin.clearBuffer();
        dueSame("clearBuffer", x, twin);
    }

    private static void firstError(Maker maker) {
        sentence("firstError changes nothing");
        looks("firstError()", null, maker, SiloPads::firstError);
    }

    private static void play(Maker maker) {
        sentence("play: the buffer must be complete loads as a text (the buffer stays)");
        SiloPads seen = maker.make();
        int length = seen.clearBuffer();
        boolean complete = length == 60 || length == 6;
        does("play()", complete ? null : ARGUMENT, maker, SiloPads::play);
        for (String text : new String[] {"", "0", "0<5", "+", "+1;", "x", "+1x", "+31", "+1;;", "0<5:501", "0>5:25"}) {
            Maker typing = () -> {
                SiloPads x = maker.make();
                x.clearBuffer();
                type(x, text);
                return x;
            };
            refused("play() of " + text, ARGUMENT, typing, SiloPads::play);
            SiloPads x = typing.make();
            thrownBy(x::play);
            due("the buffer stays", x.clearBuffer(), text.length());
        }
    }

    private static void undo(Maker maker) {
        sentence("undo: unless there is no saved state");
        Maker without = () -> {
            SiloPads x = maker.make();
            for (int left = x.count(14); left > 0; left--) {
                x.undo();
            }
            return x;
        };
        refused("undo()", STATE, without, SiloPads::undo);
    }

    private static void silo(Maker maker) {
        sentence("silo: silo 0 to 3, what 0 to 5");
        for (int silo : SILOS) {
            for (int what : new int[] {MIN, -1, 0, 1, 4, 5, 6, MAX}) {
                Class<?> want = first(out(silo, 0, 3), out(what, 0, 5), false);
                looks(text("silo", silo, what), want, maker, x -> x.silo(silo, what));
            }
        }
    }

    private static void layer(Maker maker) {
        sentence("layer: silo 0 to 3, one of its layers, what 0 to 2");
        SiloPads seen = maker.make();
        for (int silo : SILOS) {
            int layers = out(silo, 0, 3) ? 1 : seen.silo(silo, 1);
            for (int layer : new int[] {MIN, -1, 0, 1, layers - 1, layers, layers + 1, 9, 10, 11, MAX}) {
                for (int what : new int[] {MIN, -1, 0, 1, 2, 3, MAX}) {
                    Class<?> want = first(out(silo, 0, 3) || out(layer, 0, layers - 1), out(what, 0, 2), false);
                    looks(text("layer", silo, layer, what), want, maker, x -> x.layer(silo, layer, what));
                }
            }
        }
    }

    private static void shipOf(Maker maker) {
        sentence("shipOf: ship 0 to 5, what 0 or 1");
        for (int ship : SHIPS) {
            for (int what : new int[] {MIN, -1, 0, 1, 2, MAX}) {
                looks(text("shipOf", ship, what), first(out(ship, 0, 5), out(what, 0, 1), false), maker, x -> x.shipOf(ship, what));
            }
        }
    }

    private static void count(Maker maker) {
        sentence("count: what 0 to 14");
        for (int what : new int[] {MIN, -1, 0, 1, 9, 10, 11, 12, 13, 14, 15, MAX}) {
            looks(text("count", what), first(false, out(what, 0, 14), false), maker, x -> x.count(what));
        }
    }

    private static void whyNot(Maker maker) {
        sentence("whyNot: silo 0 to 3, ship 0 to 5");
        for (int silo : SILOS) {
            for (int ship : SHIPS) {
                Class<?> want = first(out(silo, 0, 3) || out(ship, 0, 5), false, false);
                looks(text("whyNot", silo, ship), want, maker, x -> x.whyNot(silo, ship));
            }
        }
    }

    private static void ifFlowed(Maker maker) {
        sentence("ifFlowed: silo 0 to 3, ship 0 to 5, hours 1 to 24, pads 0 to 4");
        for (int silo : new int[] {-1, 0, 1, 3, 4}) {
            for (int ship : new int[] {-1, 0, 5, 6}) {
                for (int hours : HOURS) {
                    for (int pads : PADS) {
                        Class<?> want = first(out(silo, 0, 3) || out(ship, 0, 5), out(hours, 1, 24) || out(pads, 0, 4), false);
                        looks(text("ifFlowed", silo, ship, hours, pads), want, maker, x -> x.ifFlowed(silo, ship, hours, pads));
                    }
                }
            }
        }
        refused(text("ifFlowed", MIN, MAX, MIN, MAX), INDEX, maker, x -> x.ifFlowed(MIN, MAX, MIN, MAX));
    }

    private static void lookWithoutArguments(Maker maker) {
        sentence("looks, what would be; nothing is changed");
        looks("urgent()", null, maker, SiloPads::urgent);
        looks("nextArch()", null, maker, SiloPads::nextArch);
        looks("softness()", null, maker, x -> Double.doubleToLongBits(x.softness()));
        looks("digest()", null, maker, SiloPads::digest);
    }

    private static void shakesNeeded(Maker maker) {
        sentence("shakesNeeded: silo 0 to 3");
        for (int silo : SILOS) {
            looks(text("shakesNeeded", silo), first(out(silo, 0, 3), false, false), maker, x -> x.shakesNeeded(silo));
        }
    }
}
