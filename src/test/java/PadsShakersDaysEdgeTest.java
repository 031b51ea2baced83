/** A test for each sentence of "Days, shaking", "Settings" and promises 5 to 8 that names a boundary. RefusedTest has the refused calls. */
public final class PadsShakersDaysEdgeTest extends Checks {
    public static void main(String[] args) {
        padsFrom0To4();
        padsReturnsHowManyWereOn();
        padsThatTheBlowerDoesNotBear();
        fewerPadsAreAlwaysBorne();
        aDayMakesEachLayerOlder();
        thenArchesForm();
        dayWithoutLayers();
        daysFrom1To30();
        passReturnsHowManyArchesForm();
        archFormedInTheMiddleOfDays();
        passIsUndoneAsOneCall();
        breaksByTonnesAboveTheLowest();
        breaksByTonnesOfAllAboveNothing();
        settingZeroBreaksAtOnce();
        setting900BreaksBy900();
        tonnesAreLookedAtNow();
        thirdShakeSinceTheArchFormed();
        thirdShakeSinceANewLayer();
        addedCementIsNoNewLayer();
        restThatMakesALayerCounts();
        nothingThatCameIsNoNewLayer();
        newLayerElsewhereCountsNot();
        shakesBeforeTheArchCountNot();
        otherCallsLeaveTheShakes();
        shakeMakesTheLowestYounger();
        notBelowAgeZero();
        shakeAboveNothing();
        shakeWithoutArch();
        shakeReturns1OnlyIfBroken();
        shakeWithoutLayers();
        settingsAtFirst();
        settingsHaveTheirRanges();
        setReturnsThePreviousValue();
        setToTheSameValue();
        setBlowerBelowThePadsOn();
        otherSettingsBelowThePadsOn();
        settingsAreLookedAtNow();
        end("PadsShakersDaysEdgeTest");
    }

    private static void padsFrom0To4() {
        sentence("promise 5: pads: 0 to 4; and the others off");
        SiloPads x = new SiloPads();
        int before = 0;
        for (int pads : new int[] {0, 1, 3, 4, 2, 0}) {
            due("were on", x.pads(1, pads), before);
            due("are on", x.silo(1, 2), pads);
            due("in all", x.count(6), pads);
            before = pads;
        }
        dueThrow(x, "5", ARGUMENT, () -> x.pads(1, 5));
        dueThrow(x, "-1", ARGUMENT, () -> x.pads(1, -1));
        due("of an empty silo, too", x.silo(1, 1), 0);
    }

    private static void padsReturnsHowManyWereOn() {
        sentence("promise 5: Returns how many of it were on");
        SiloPads x = new SiloPads();
        x.pads(0, 4);
        due("of it, not of another one", x.pads(3, 2), 0);
        due("the same number", x.pads(3, 2), 2);
        due("of it", x.pads(0, 0), 4);
        undoable("pads as they are", 0, SiloPads::new, y -> y.pads(2, 0));
    }

    private static void padsThatTheBlowerDoesNotBear() {
        sentence("promise 5: IllegalStateException if the blower does not bear them");
        SiloPads x = new SiloPads();
        x.pads(0, 3);
        x.pads(1, 2);
        due("the sixth", x.pads(2, 1), 0);
        dueThrow(x, "a seventh there", STATE, () -> x.pads(2, 2));
        dueThrow(x, "a seventh in another one", STATE, () -> x.pads(3, 1));
        dueThrow(x, "a seventh in the first", STATE, () -> x.pads(0, 4));
        due("as they were", x.count(6), 6);
        due("saved by three", x.count(14), 3);
        due("none is always borne", x.pads(3, 0), 0);
        due("its own ones do not count twice", x.pads(0, 3), 3);
        x.pads(1, 1);
        due("now", x.pads(0, 4), 3);
        Maker none = () -> {
            SiloPads y = new SiloPads();
            y.set(0, 0);
            return y;
        };
        refused("one pad on a blower that bears none", STATE, none, y -> y.pads(0, 1));
        undoable("no pad on a blower that bears none", 0, none, y -> y.pads(0, 0));
    }

    private static void fewerPadsAreAlwaysBorne() {
        sentence("promise 5: fewer pads, with the blower at its limit");
        SiloPads x = new SiloPads();
        x.set(0, 16);
        for (int silo = 0; silo < 4; silo++) {
            due("all 16", x.pads(silo, 4), 0);
        }
        for (int silo = 0; silo < 4; silo++) {
            due("one less", x.pads(silo, 3), 4);
        }
        due("12", x.count(6), 12);
    }

    private static void aDayMakesEachLayerOlder() {
        sentence("When a day passes: each layer is a day older");
        SiloPads x = filled(1, 2, 3, 4, 5, 6, 7, 8, 9, 10);
        fill(x, 3, 11);
        x.pass(1);
        for (int layer = 0; layer < 10; layer++) {
            layerIs(x, 0, layer, layer + 1, 10 - layer, x.layer(0, layer, 2));
        }
        layerIs(x, 3, 0, 11, 1, 0);
        due("days", x.count(0), 10);
    }

    private static void thenArchesForm() {
        sentence("each layer is a day older; then arches form");
        SiloPads x = filled(10, 10);
        due("age 2 of 3 soft days", x.pass(1), 0);
        due("age 3 of 3 soft days", x.pass(1), 0);
        due("it is 4 when the arch is looked for", x.pass(1), 1);
    }

    private static void dayWithoutLayers() {
        sentence("promise 7: days pass without layers, too");
        SiloPads x = new SiloPads();
        due("none", x.pass(30), 0);
        due("days", x.count(0), 30);
        due("formed", x.count(9), 0);
    }

    private static void daysFrom1To30() {
        sentence("promise 7: days: 1 to 30");
        SiloPads x = filled(10);
        int sum = 0;
        for (int days : new int[] {1, 2, 29, 30}) {
            due("no arch", x.pass(days), 0);
            sum += days;
            due("days", x.count(0), sum);
            due("age", x.layer(0, 0, 1), sum);
        }
        dueThrow(x, "31", ARGUMENT, () -> x.pass(31));
        dueThrow(x, "0", ARGUMENT, () -> x.pass(0));
        dueThrow(x, "-1", ARGUMENT, () -> x.pass(-1));
        due("age", x.layer(0, 0, 1), 62);
    }

    private static void passReturnsHowManyArchesForm() {
        sentence("promise 7: Returns how many arches form in them");
        for (int days = 1; days <= 5; days++) {
            SiloPads x = new SiloPads();
            x.set(1, 20);
            for (int layer = 0; layer < 3; layer++) {
                x.ship(0, 900, 900);
                x.unload(layer, 0, 10);
                x.pass(1);
                x.unload(layer, 0, 10);
            }
            x.set(1, 2);
            due("lowest ages are 3, 2 and 1: in " + days, x.pass(days), Math.min(3, days + 1));
            due("arches", x.count(7), Math.min(3, days + 1));
            due("formed", x.count(9), Math.min(3, days + 1));
        }
    }

    private static void archFormedInTheMiddleOfDays() {
        sentence("promise 7: an arch that is there forms once");
        SiloPads x = filled(10, 10);
        x.shake(0);
        due("once in 30 days", x.pass(30), 1);
        due("formed", x.count(9), 1);
        due("shakes since then", x.silo(0, 4), 0);
        due("not again", x.pass(30), 0);
        x.shake(0);
        x.pass(30);
        due("a shake stays", x.silo(0, 4), 1);
    }

    private static void passIsUndoneAsOneCall() {
        sentence("promise 7: Undoable, as one call");
        undoable("thirty days", 1, () -> filled(10, 10), x -> x.pass(30));
        SiloPads x = new SiloPads();
        x.pass(30);
        due("one state", x.count(14), 1);
        x.undo();
        due("all days", x.count(0), 0);
    }

    private static void breaksByTonnesAboveTheLowest() {
        sentence("an arch is broken, if the layers above the lowest one have at least setting 3 tonnes together");
        for (int above = 198; above <= 202; above++) {
            SiloPads x = archedSilo(500, above - 100, 100);
            due("needs with " + above, x.shakesNeeded(0), above >= 200 ? 1 : 3);
            due("broken by " + above, x.shake(0), above >= 200 ? 1 : 0);
            due("there", x.silo(0, 3), above >= 200 ? 0 : 1);
        }
        for (int needs = 149; needs <= 151; needs++) {
            SiloPads x = archedSilo(300, 150);
            x.set(3, needs);
            due("150 for " + needs, x.shake(0), needs <= 150 ? 1 : 0);
        }
    }

    private static void breaksByTonnesOfAllAboveNothing() {
        sentence("(all layers, if the arch is above nothing)");
        for (int above = 199; above <= 201; above++) {
            SiloPads x = hollowSilo(above);
            due("needs with " + above, x.shakesNeeded(0), above >= 200 ? 1 : 3);
            due("one layer of " + above, x.shake(0), above >= 200 ? 1 : 0);
            SiloPads y = hollowSilo(120, above - 120);
            due("two layers of " + above, y.shake(0), above >= 200 ? 1 : 0);
        }
    }

    private static void settingZeroBreaksAtOnce() {
        sentence("setting 3: 0 tonnes");
        SiloPads x = archedSilo(100, 1);
        x.set(3, 1);
        due("1 of 1", x.shakesNeeded(0), 1);
        x.set(3, 2);
        due("1 of 2", x.shakesNeeded(0), 3);
        x.set(3, 0);
        due("1 of 0", x.shakesNeeded(0), 1);
        due("broken", x.shake(0), 1);
        due("but no arch that is not there", x.shake(0), 0);
    }

    private static void setting900BreaksBy900() {
        sentence("setting 3: 900 tonnes");
        for (int top = 399; top <= 401; top++) {
            SiloPads x = archedSilo(200, 500, top);
            x.set(3, 900);
            due("500 and " + top, x.shake(0), top >= 400 ? 1 : 0);
        }
    }

    private static void tonnesAreLookedAtNow() {
        sentence("have at least setting 3 tonnes together: those that lie there when it is shaken");
        SiloPads x = archedSilo(100, 199);
        x.ship(0, 900, 900);
        due("199", x.shakesNeeded(0), 3);
        x.unload(0, 0, 1);
        due("200, by a layer that came on top", x.shake(0), 1);
        SiloPads y = archedSilo(500, 100);
        y.ship(0, 900, 900);
        y.unload(0, 0, 99);
        due("the lowest counts not", y.shake(0), 0);
        y.unload(0, 0, 1);
        due("200 above it", y.shake(0), 1);
    }

    private static void thirdShakeSinceTheArchFormed() {
        sentence("or the shake is the third one since the arch formed");
        SiloPads x = archedSilo(100, 10);
        due("first", x.shake(0), 0);
        due("counted", x.silo(0, 4), 1);
        due("second", x.shake(0), 0);
        due("counted", x.silo(0, 4), 2);
        due("third", x.shake(0), 1);
        due("counted", x.silo(0, 4), 3);
        due("no arch", x.silo(0, 3), 0);
        due("a fourth has nothing to break", x.shake(0), 0);
        due("counted", x.silo(0, 4), 4);
    }

    private static void thirdShakeSinceANewLayer() {
        sentence("or since a new layer was made, whichever was later");
        for (int before = 0; before <= 2; before++) {
            SiloPads x = archedSilo(100, 10);
            x.ship(0, 900, 900);
            for (int k = 0; k < before; k++) {
                due("before", x.shake(0), 0);
            }
            due("a new layer", x.unload(0, 0, 1), 1);
            due("anew", x.silo(0, 4), 0);
            due("first", x.shake(0), 0);
            due("second", x.shake(0), 0);
            due("third", x.shake(0), 1);
        }
    }

    private static void addedCementIsNoNewLayer() {
        sentence("since a new layer was made: what is added to a layer makes none");
        SiloPads x = archedSilo(100, 10);
        x.ship(0, 900, 900);
        x.unload(0, 0, 1);
        x.shake(0);
        x.unload(0, 0, 1);
        due("goes on", x.silo(0, 4), 1);
        x.shake(0);
        x.unload(0, 0, 1);
        due("third", x.shake(0), 1);
    }

    private static void restThatMakesALayerCounts() {
        sentence("since a new layer was made: the rest that did not go on top makes one");
        SiloPads x = archedSilo(100, 10);
        x.set(3, 900);
        x.ship(0, 900, 900);
        x.unload(0, 0, 498);
        x.shake(0);
        x.shake(0);
        due("to the brim", x.unload(0, 0, 2), 2);
        due("no new one", x.shakesNeeded(0), 1);
        due("one over the brim", x.unload(0, 0, 1), 1);
        due("a new one", x.shakesNeeded(0), 3);
    }

    private static void nothingThatCameIsNoNewLayer() {
        sentence("since a new layer was made: none is, if nothing comes");
        SiloPads x = archedSilo(100, 10);
        x.shake(0);
        x.shake(0);
        due("of an empty ship", x.unload(0, 0, 500), 0);
        due("third", x.shakesNeeded(0), 1);
        SiloPads y = filled(1, 1, 1, 1, 1, 1, 1, 1, 1, 1);
        y.ship(0, 900, 900);
        due("an arch", y.pass(1), 1);
        y.shake(0);
        y.shake(0);
        due("an eleventh", y.unload(0, 0, 500), 0);
        due("third", y.shake(0), 1);
    }

    private static void newLayerElsewhereCountsNot() {
        sentence("since the arch formed, or a new layer was made, in this silo");
        SiloPads x = archedSilo(100, 10);
        x.shake(0);
        x.shake(0);
        fill(x, 1, 10, 10);
        x.shake(1);
        due("a shake elsewhere", x.silo(0, 4), 2);
        due("an arch elsewhere", x.pass(30), 1);
        due("both", x.count(7), 2);
        due("goes on", x.silo(0, 4), 2);
        due("anew", x.silo(1, 4), 0);
        due("third", x.shake(0), 1);
        due("the other one stays", x.silo(1, 3), 1);
    }

    private static void shakesBeforeTheArchCountNot() {
        sentence("the third one since the arch formed, not before it");
        SiloPads x = filled(100, 10);
        for (int k = 0; k < 4; k++) {
            due("no arch", x.shake(0), 0);
        }
        due("shakes since the layer", x.silo(0, 4), 4);
        due("an arch", x.pass(4), 1);
        due("anew", x.silo(0, 4), 0);
        due("first", x.shake(0), 0);
        due("second", x.shake(0), 0);
        due("third", x.shake(0), 1);
        due("in all", x.count(8), 7);
    }

    private static void otherCallsLeaveTheShakes() {
        sentence("shakes since then: by nothing else");
        SiloPads x = archedSilo(100, 10);
        x.shake(0);
        x.ship(0, 900, 900);
        x.pads(0, 4);
        x.set(3, 900);
        x.pass(3);
        x.flow(0, 1, 24);
        due("one", x.silo(0, 4), 1);
        due("above nothing", x.whyNot(0, 1), 2);
        due("two more", x.shakesNeeded(0), 2);
    }

    private static void shakeMakesTheLowestYounger() {
        sentence("Each shake makes the lowest layer younger by 1 day");
        SiloPads x = archedSilo(100, 10, 20);
        for (int shake = 1; shake <= 5; shake++) {
            x.shake(0);
            due("lowest", x.layer(0, 0, 1), 5 - shake);
            due("the next one", x.layer(0, 1, 1), 4);
            due("the top one", x.layer(0, 2, 1), 3);
        }
        SiloPads y = archedSilo(100, 300);
        due("also the one that breaks", y.shake(0), 1);
        due("lowest", y.layer(0, 0, 1), 3);
    }

    private static void notBelowAgeZero() {
        sentence("younger by 1 day, but not below 0");
        SiloPads x = aged(10, 2);
        int[] ages = {1, 0, 0, 0};
        for (int age : ages) {
            x.shake(0);
            due("age", x.layer(0, 0, 1), age);
        }
        due("each counts", x.silo(0, 4), 4);
        x.pass(1);
        due("a day behind it", x.layer(0, 0, 1), 1);
    }

    private static void shakeAboveNothing() {
        sentence("Each shake makes the lowest layer younger: also one above an arch above nothing");
        SiloPads x = hollowSilo(30, 40);
        due("age", x.layer(0, 0, 1), 4);
        due("first", x.shake(0), 0);
        due("younger", x.layer(0, 0, 1), 3);
        due("not the upper one", x.layer(0, 1, 1), 3);
        due("second", x.shake(0), 0);
        due("third", x.shake(0), 1);
        due("younger", x.layer(0, 0, 1), 1);
    }

    private static void shakeWithoutArch() {
        sentence("A silo without an arch can be shaken, too");
        SiloPads x = filled(500, 500);
        for (int k = 1; k <= 5; k++) {
            due("nothing breaks", x.shake(0), 0);
            due("shakes", x.silo(0, 4), k);
            due("shakes in all", x.count(8), k);
        }
        undoable("shake that makes nothing younger", 0, () -> filled(1), y -> y.shake(0));
    }

    private static void shakeReturns1OnlyIfBroken() {
        sentence("promise 6: Returns 1 if an arch is broken by it, otherwise 0");
        SiloPads x = archedSilo(100, 200);
        due("broken", x.shake(0), 1);
        due("not again", x.shake(0), 0);
        due("not by a third", x.shake(0), 0);
        undoable("shake that breaks", 1, () -> archedSilo(100, 200), y -> y.shake(0));
        undoable("shake that does not", 0, () -> archedSilo(100, 199), y -> y.shake(0));
    }

    private static void shakeWithoutLayers() {
        sentence("promise 6: IllegalStateException if it has no layers");
        refused("shake of a new silo", STATE, SiloPads::new, x -> x.shake(3));
        refused("shake of a silo that ran empty", STATE, () -> {
            SiloPads x = filled(5);
            x.flow(0, 1, 1);
            return x;
        }, x -> x.shake(0));
        refused("shake of the wrong silo", STATE, () -> filled(5), x -> x.shake(1));
        SiloPads x = filled(1);
        due("one tonne is enough", x.shake(0), 0);
        due("refused shakes count not", x.count(8), 1);
    }

    private static void settingsAtFirst() {
        sentence("Settings: at first 6, 3, 20 and 200");
        SiloPads x = new SiloPads();
        int[] first = {6, 3, 20, 200};
        for (int setting = 0; setting < 4; setting++) {
            due("seen", x.count(10 + setting), first[setting]);
            due("previous", x.set(setting, first[setting] - 1), first[setting]);
            due("now", x.count(10 + setting), first[setting] - 1);
        }
    }

    private static void settingsHaveTheirRanges() {
        sentence("Settings: 0 to 16, 1 to 20, 5 to 100, 0 to 900");
        int[] least = {0, 1, 5, 0};
        int[] most = {16, 20, 100, 900};
        for (int setting = 0; setting < 4; setting++) {
            int s = setting;
            SiloPads x = new SiloPads();
            for (int value : new int[] {least[s], least[s] + 1, most[s] - 1, most[s]}) {
                x.set(s, value);
                due("value", x.count(10 + s), value);
            }
            dueThrow(x, "below", ARGUMENT, () -> x.set(s, least[s] - 1));
            dueThrow(x, "above", ARGUMENT, () -> x.set(s, most[s] + 1));
            due("as it was", x.count(10 + s), most[s]);
        }
    }

    private static void setReturnsThePreviousValue() {
        sentence("promise 8: Returns the previous value");
        SiloPads x = new SiloPads();
        due("at first", x.set(3, 900), 200);
        due("then", x.set(3, 0), 900);
        due("then", x.set(3, 5), 0);
        due("of this setting", x.set(2, 99), 20);
        x.undo();
        due("undone", x.set(2, 7), 20);
    }

    private static void setToTheSameValue() {
        sentence("promise 8: Undoable, also if it changes nothing");
        undoable("set to what it is", 200, SiloPads::new, x -> x.set(3, 200));
        undoable("set to another value", 200, SiloPads::new, x -> x.set(3, 201));
    }

    private static void setBlowerBelowThePadsOn() {
        sentence("promise 8: IllegalStateException if it is setting 0, and more pads are on");
        Maker five = () -> {
            SiloPads x = new SiloPads();
            x.pads(0, 4);
            x.pads(3, 1);
            return x;
        };
        undoable("6 for 5", 6, five, x -> x.set(0, 6));
        undoable("5 for 5", 6, five, x -> x.set(0, 5));
        refused("4 for 5", STATE, five, x -> x.set(0, 4));
        refused("0 for 5", STATE, five, x -> x.set(0, 0));
        refused("-1 for 5", ARGUMENT, five, x -> x.set(0, -1));
        SiloPads x = five.make();
        x.pads(3, 0);
        x.pads(0, 0);
        due("0 for none", x.set(0, 0), 6);
    }

    private static void otherSettingsBelowThePadsOn() {
        sentence("promise 8: if it is setting 0, not another one");
        SiloPads x = new SiloPads();
        x.pads(0, 4);
        x.pads(1, 2);
        due("days", x.set(1, 1), 3);
        due("dust", x.set(2, 5), 20);
        due("tonnes", x.set(3, 0), 200);
    }

    private static void settingsAreLookedAtNow() {
        sentence("promise 8: a setting holds from then on");
        SiloPads x = filled(100);
        x.pads(0, 1);
        due("dust by 20", x.flow(0, 1, 1), 38);
        x.set(2, 40);
        due("dust by 40", x.flow(0, 1, 1), 39);
        SiloPads y = aged(100, 2);
        y.set(1, 1);
        due("stiff", y.layer(0, 0, 2), 1);
        y.set(1, 2);
        due("soft", y.layer(0, 0, 2), 0);
        due("tonnes so far stay", x.count(3), 3);
    }
}
