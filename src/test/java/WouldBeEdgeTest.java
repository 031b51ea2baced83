/** A test for each sentence of promises 18 to 24 that names a boundary. RefusedTest has the refused calls. */
public final class WouldBeEdgeTest extends Checks {
    public static void main(String[] args) {
        noLayersFirst();
        archAboveNothingSecond();
        fullShipThird();
        nothingCanFlowFourth();
        zeroIfSomethingFlows();
        whyNotTellsWhatFlowDoes();
        ifFlowedHours();
        ifFlowedPads();
        ifFlowedWhateverTheBlowerBears();
        ifFlowedPadsOfNow();
        ifFlowedIntoThatShip();
        ifFlowedIsWhatFlowBrings();
        urgentWithoutLayers();
        urgentByTheOldestLowestLayer();
        urgentByMostTonnes();
        urgentTheLowestSilo();
        nextArchWithoutOne();
        nextArchByTheDay();
        nextArchIsTheSoonest();
        nextArchIsWhatDaysBring();
        nextArchOfSettingsAtTheirEnds();
        shakesNeededWithoutArch();
        shakesNeededFrom1To3();
        shakesNeededByTonnes();
        shakesNeededIsWhatShakesBring();
        softnessOfEmptySilos();
        softnessShares();
        softnessBySettings();
        softnessNoneAndAll();
        digestOfANewObject();
        digestOfEachState();
        digestOfEachSoftness();
        digestOfTheBuffer();
        digestSeesEachChange();
        end("WouldBeEdgeTest");
    }

    private static void noLayersFirst() {
        sentence("promise 18: 1: there are no layers");
        SiloPads x = new SiloPads();
        for (int silo = 0; silo < 4; silo++) {
            due("with room", x.whyNot(silo, 0), 1);
        }
        x.ship(1, 0, 0);
        due("before a full ship", x.whyNot(0, 1), 1);
        x.pads(0, 4);
        due("with pads", x.whyNot(0, 0), 1);
        SiloPads y = filled(5);
        due("a layer", y.whyNot(0, 1), 0);
        due("none elsewhere", y.whyNot(1, 1), 1);
        y.flow(0, 1, 1);
        due("gone", y.whyNot(0, 1), 1);
    }

    private static void archAboveNothingSecond() {
        sentence("promise 18: 2: the arch is above nothing");
        SiloPads x = hollowSilo(100);
        x.ship(2, 9, 9);
        due("above nothing", x.whyNot(0, 1), 2);
        due("before a full ship", x.whyNot(0, 2), 2);
        x.pass(30);
        due("before a hard layer", x.whyNot(0, 1), 2);
        due("before both", x.whyNot(0, 2), 2);
        due("no other silo", x.whyNot(1, 1), 1);
        SiloPads y = archedSilo(100, 100);
        y.pads(0, 4);
        due("an arch above a layer is none", y.whyNot(0, 1), 0);
        SiloPads z = hollowSilo(200);
        z.shake(0);
        due("broken", z.whyNot(0, 1), 0);
        z.undo();
        due("undone", z.whyNot(0, 1), 2);
    }

    private static void fullShipThird() {
        sentence("promise 18: 3: the ship is full");
        for (int room = 0; room <= 2; room++) {
            SiloPads x = filled(10);
            x.ship(3, 100, 100 - room);
            due("room for " + room, x.whyNot(0, 3), room == 0 ? 3 : 0);
            x.pass(30);
            due("before a hard layer, room for " + room, x.whyNot(0, 3), room == 0 ? 3 : 4);
        }
        SiloPads y = filled(10);
        y.ship(3, 0, 0);
        due("a hold of 0 is full", y.whyNot(0, 3), 3);
        y.ship(3, 900, 900);
        due("900 is full", y.whyNot(0, 3), 3);
        due("another ship", y.whyNot(0, 4), 0);
        due("under an arch", archedFullShip().whyNot(0, 3), 3);
    }

    private static SiloPads archedFullShip() {
        SiloPads x = archedSilo(10, 10);
        x.ship(3, 7, 7);
        return x;
    }

    private static void nothingCanFlowFourth() {
        sentence("promise 18: 4: nothing can flow out of the lowest layer");
        int[] leastPads = {0, 0, 0, 0, 2, 2, 2, 4, 4, 4};
        for (int age = 0; age <= 9; age++) {
            for (int pads = 0; pads <= 4; pads++) {
                SiloPads x = aged(10, age);
                x.pads(0, pads);
                due("age " + age + ", pads " + pads, x.whyNot(0, 1), pads >= leastPads[age] ? 0 : 4);
            }
        }
    }

    private static void zeroIfSomethingFlows() {
        sentence("promise 18: 0 if something flows");
        for (int ship = 0; ship < 6; ship++) {
            SiloPads x = filled(1);
            due("one tonne", x.whyNot(0, ship), 0);
            x.ship(ship, 1, 0);
            due("room for one", x.whyNot(0, ship), 0);
            due("it flows", x.flow(0, ship, 1), 1);
        }
    }

    private static void whyNotTellsWhatFlowDoes() {
        sentence("promise 18: Tells why nothing flows out of a silo");
        Maker[] makers = {SiloPads::new, Checks::busy, () -> filled(10), () -> aged(10, 9), () -> hollowSilo(10), () -> archedSilo(9, 9),
            WouldBeEdgeTest::archedFullShip};
        for (Maker maker : makers) {
            for (int silo = 0; silo < 4; silo++) {
                for (int ship = 0; ship < 6; ship++) {
                    SiloPads x = maker.make();
                    int why = x.whyNot(silo, ship);
                    due("flows", x.flow(silo, ship, 1) > 0 ? 1 : 0, why == 0 ? 1 : 0);
                }
            }
        }
    }

    private static void ifFlowedHours() {
        sentence("promise 19: hours: 1 to 24");
        SiloPads x = filled(500);
        for (int hours = 1; hours <= 24; hours++) {
            due("hours " + hours, x.ifFlowed(0, 1, hours, 0), 5 * hours);
        }
        dueThrow(x, "0", ARGUMENT, () -> x.ifFlowed(0, 1, 0, 0));
        dueThrow(x, "25", ARGUMENT, () -> x.ifFlowed(0, 1, 25, 0));
    }

    private static void ifFlowedPads() {
        sentence("promise 19: pads: 0 to 4");
        SiloPads x = filled(500);
        int[] rates = {5, 38, 76, 114, 152};
        for (int pads = 0; pads <= 4; pads++) {
            due("pads " + pads, x.ifFlowed(0, 1, 1, pads), rates[pads]);
        }
        dueThrow(x, "-1", ARGUMENT, () -> x.ifFlowed(0, 1, 1, -1));
        dueThrow(x, "5", ARGUMENT, () -> x.ifFlowed(0, 1, 1, 5));
        due("no pad was put on", x.silo(0, 2), 0);
    }

    private static void ifFlowedWhateverTheBlowerBears() {
        sentence("promise 19: with so many pads on, whatever the blower bears");
        SiloPads x = filled(500);
        x.set(0, 0);
        due("a blower that bears none", x.ifFlowed(0, 1, 1, 4), 152);
        x.set(0, 6);
        x.pads(1, 4);
        x.pads(2, 2);
        due("a blower that bears no more", x.ifFlowed(0, 1, 1, 4), 152);
        due("as many on as before", x.count(6), 6);
    }

    private static void ifFlowedPadsOfNow() {
        sentence("promise 19: with so many pads on: not with those that are on");
        SiloPads x = filled(500);
        x.pads(0, 4);
        due("none", x.ifFlowed(0, 1, 1, 0), 5);
        due("one", x.ifFlowed(0, 1, 1, 1), 38);
        due("still on", x.silo(0, 2), 4);
        due("as they are", x.flow(0, 1, 1), 152);
    }

    private static void ifFlowedIntoThatShip() {
        sentence("promise 19: Returns how much would come into the ship");
        for (int room = 0; room <= 6; room++) {
            SiloPads x = filled(500);
            x.ship(4, 300, 300 - room);
            due("room for " + room, x.ifFlowed(0, 4, 1, 0), Math.min(5, room));
            due("in 24 hours", x.ifFlowed(0, 4, 24, 0), room);
            due("another one", x.ifFlowed(0, 1, 1, 0), 5);
        }
        SiloPads y = filled(30, 30);
        due("an hour for each layer", y.ifFlowed(0, 1, 1, 1), 29);
        due("two hours for two layers", y.ifFlowed(0, 1, 2, 1), 58);
        due("then nothing more", y.ifFlowed(0, 1, 24, 1), 58);
        layersAre(y, 0, 30, 30);
        due("out of nothing", y.ifFlowed(1, 1, 24, 4), 0);
    }

    private static void ifFlowedIsWhatFlowBrings() {
        sentence("promise 19: Tells what flowing would bring");
        Maker[] makers = {SiloPads::new, Checks::busy, () -> filled(33, 44, 55, 66), () -> archedSilo(130, 50), () -> hollowSilo(70, 30),
            () -> aged(100, 7)};
        for (Maker maker : makers) {
            for (int pads = 0; pads <= 4; pads++) {
                for (int hours : new int[] {1, 2, 3, 5, 23, 24}) {
                    SiloPads x = maker.make();
                    x.set(0, 16);
                    int would = x.ifFlowed(0, 2, hours, pads);
                    x.pads(0, pads);
                    due("pads " + pads + ", hours " + hours, x.flow(0, 2, hours), would);
                }
            }
        }
    }

    private static void urgentWithoutLayers() {
        sentence("promise 20: NONE without layers");
        SiloPads x = new SiloPads();
        due("none", x.urgent(), SiloPads.NONE);
        x.ship(0, 900, 1);
        x.unload(3, 0, 1);
        due("one tonne of age 0", x.urgent(), 3);
        x.flow(3, 1, 1);
        due("none again", x.urgent(), SiloPads.NONE);
    }

    private static void urgentByTheOldestLowestLayer() {
        sentence("promise 20: the silo with layers whose lowest layer is oldest");
        for (int older = 0; older < 4; older++) {
            for (int other = 0; other < 4; other++) {
                if (older != other) {
                    SiloPads x = new SiloPads();
                    x.ship(0, 900, 900);
                    x.unload(older, 0, 1);
                    x.pass(1);
                    x.unload(other, 0, 500);
                    due("older by a day, with less tonnes", x.urgent(), older);
                    x.shake(older);
                    due("as old", x.urgent(), other);
                }
            }
        }
        SiloPads y = filled(10, 10);
        y.shake(0);
        fill(y, 2, 1);
        y.pass(1);
        y.shake(0);
        due("an older upper layer counts not", y.layer(0, 1, 1), 1);
        due("the lowest layers' ages", y.urgent(), 2);
        SiloPads z = hollowSilo(5);
        fill(z, 3, 400);
        due("above an arch, too", z.urgent(), 0);
    }

    private static void urgentByMostTonnes() {
        sentence("promise 20: of several that with most tonnes");
        for (int more = 0; more < 4; more++) {
            SiloPads x = new SiloPads();
            x.ship(0, 900, 900);
            for (int silo = 0; silo < 4; silo++) {
                x.unload(silo, 0, silo == more ? 101 : 100);
            }
            due("one tonne more", x.urgent(), more);
            int last = more == 3 ? 2 : 3;
            x.pass(1);
            x.unload(last, 0, 2);
            due("of all its layers", x.urgent(), last);
        }
    }

    private static void urgentTheLowestSilo() {
        sentence("promise 20: of several of those the lowest");
        for (int lowest = 0; lowest < 4; lowest++) {
            SiloPads x = new SiloPads();
            x.ship(0, 900, 900);
            for (int silo = 3; silo >= lowest; silo--) {
                x.unload(silo, 0, 50);
            }
            due("of silos from " + lowest, x.urgent(), lowest);
        }
        SiloPads y = new SiloPads();
        y.ship(0, 900, 900);
        y.unload(0, 0, 49);
        for (int silo = 1; silo < 4; silo++) {
            y.unload(silo, 0, 50);
        }
        due("of those with most", y.urgent(), 1);
    }

    private static void nextArchWithoutOne() {
        sentence("promise 21: NONE if not in 60");
        SiloPads x = new SiloPads();
        due("no layers", x.nextArch(), SiloPads.NONE);
        x.ship(0, 900, 900);
        x.unload(0, 0, 10);
        due("one layer", x.nextArch(), SiloPads.NONE);
        x.pass(30);
        due("one hard layer", x.nextArch(), SiloPads.NONE);
        x.unload(0, 0, 10);
        due("two", x.nextArch(), 1);
        due("an arch is there", archedSilo(10, 10).nextArch(), SiloPads.NONE);
        due("an arch is above nothing", hollowSilo(10, 10).nextArch(), SiloPads.NONE);
        SiloPads y = filled(10, 10);
        y.flow(0, 1, 2);
        due("one is left", y.nextArch(), SiloPads.NONE);
    }

    private static void nextArchByTheDay() {
        sentence("promise 21: Returns behind how many days, 1 to 60");
        for (int days = 1; days <= 20; days++) {
            SiloPads x = new SiloPads();
            x.ship(0, 900, 900);
            x.set(1, days);
            x.unload(0, 0, 500);
            x.unload(0, 0, 1);
            for (int left = days + 1; left >= 1; left--) {
                due("soft for " + days, x.nextArch(), left);
                due("forms", x.pass(1), left == 1 ? 1 : 0);
            }
            due("formed", x.nextArch(), SiloPads.NONE);
        }
    }

    private static void nextArchIsTheSoonest() {
        sentence("promise 21: Tells when the next arch forms");
        for (int older = 0; older < 4; older++) {
            SiloPads x = new SiloPads();
            x.set(1, 20);
            fill(x, older, 10, 10);
            for (int silo = 0; silo < 4; silo++) {
                if (silo != older) {
                    x.ship(0, 900, 501);
                    x.unload(silo, 0, 500);
                    x.unload(silo, 0, 1);
                }
            }
            due("the oldest one", x.nextArch(), 20);
            due("it forms", x.pass(20), 1);
            due("the others", x.nextArch(), 1);
            due("they form", x.pass(1), 3);
        }
    }

    private static void nextArchIsWhatDaysBring() {
        sentence("promise 21: if only days pass");
        for (int days = 1; days <= 20; days++) {
            for (int age = 1; age <= 20; age++) {
                SiloPads x = filled(10, 10);
                x.set(1, 20);
                if (age > 1) {
                    x.pass(age - 1);
                }
                x.set(1, days);
                int told = x.nextArch();
                int passed = 1;
                while (passed < 60 && x.pass(1) == 0) {
                    passed++;
                }
                due("age " + age + ", soft for " + days, told, passed);
            }
        }
    }

    private static void nextArchOfSettingsAtTheirEnds() {
        sentence("promise 21: by the setting of now, and as the lowest is shaken");
        SiloPads x = filled(10, 10);
        x.set(1, 20);
        due("20 days soft, a day old", x.nextArch(), 20);
        x.set(1, 1);
        due("1 day soft, a day old", x.nextArch(), 1);
        x.shake(0);
        due("1 day soft, shaken to 0", x.nextArch(), 2);
        x.set(1, 20);
        due("the most", x.nextArch(), 21);
        SiloPads y = archedSilo(10, 200);
        y.shake(0);
        due("broken, soft at its last day", y.nextArch(), 1);
        y.shake(0);
        due("a day younger", y.nextArch(), 2);
    }

    private static void shakesNeededWithoutArch() {
        sentence("promise 22: 0 if there is none");
        SiloPads x = new SiloPads();
        for (int silo = 0; silo < 4; silo++) {
            due("empty", x.shakesNeeded(silo), 0);
        }
        SiloPads y = filled(10, 500);
        due("no arch, though enough tonnes", y.shakesNeeded(0), 0);
        y.shake(0);
        y.shake(0);
        due("no arch, though two shakes", y.shakesNeeded(0), 0);
        SiloPads z = archedSilo(10, 200);
        z.shake(0);
        due("broken", z.shakesNeeded(0), 0);
    }

    private static void shakesNeededFrom1To3() {
        sentence("promise 22: Returns how many, 1 to 3");
        SiloPads x = archedSilo(10, 10);
        for (int needed = 3; needed >= 1; needed--) {
            due("needed", x.shakesNeeded(0), needed);
            due("broken", x.shake(0), needed == 1 ? 1 : 0);
        }
        due("none", x.shakesNeeded(0), 0);
        SiloPads y = archedSilo(10, 10);
        y.ship(0, 900, 900);
        y.shake(0);
        y.shake(0);
        due("one", y.shakesNeeded(0), 1);
        y.unload(0, 0, 1);
        due("three, behind a new layer", y.shakesNeeded(0), 3);
    }

    private static void shakesNeededByTonnes() {
        sentence("promise 22: by the tonnes above");
        for (int above = 199; above <= 201; above++) {
            due("above the lowest", archedSilo(500, above).shakesNeeded(0), above < 200 ? 3 : 1);
            due("above nothing", hollowSilo(above - 50, 50).shakesNeeded(0), above < 200 ? 3 : 1);
        }
        SiloPads x = archedSilo(40, 199);
        due("the lowest counts not", x.shakesNeeded(0), 3);
        x.set(3, 199);
        due("199 for 199", x.shakesNeeded(0), 1);
    }

    private static void shakesNeededIsWhatShakesBring() {
        sentence("promise 22: how many shakes, one behind the other, would break the arch");
        for (int before = 0; before <= 2; before++) {
            for (int needs : new int[] {0, 10, 11, 900}) {
                SiloPads x = archedSilo(20, 10);
                for (int k = 0; k < before; k++) {
                    x.shake(0);
                }
                x.set(3, needs);
                int needed = x.shakesNeeded(0);
                int shakes = 1;
                while (shakes < 4 && x.shake(0) == 0) {
                    shakes++;
                }
                due("behind " + before + " with " + needs, needed, shakes);
            }
        }
    }

    private static void softnessOfEmptySilos() {
        sentence("promise 23: 1.0 if they are empty");
        SiloPads x = new SiloPads();
        dueDouble("new", x.softness(), 1.0);
        x.ship(0, 900, 900);
        dueDouble("ships count not", x.softness(), 1.0);
        SiloPads y = aged(10, 9);
        dueDouble("hard", y.softness(), 0.0);
        y.pads(0, 4);
        y.flow(0, 1, 1);
        dueDouble("empty again", y.softness(), 1.0);
    }

    private static void softnessShares() {
        sentence("promise 23: the tonnes of soft layers, as a double, divided by all in silos");
        for (int soft = 1; soft <= 100; soft++) {
            SiloPads x = aged(7, 4);
            x.ship(0, 900, soft);
            x.unload(3, 0, soft);
            dueDouble(soft + " of " + (7 + soft), x.softness(), (double) soft / (7 + soft));
        }
        SiloPads y = aged(500, 4);
        y.ship(0, 900, 900);
        y.unload(0, 0, 1);
        dueDouble("in one silo", y.softness(), 1.0 / 501);
    }

    private static void softnessBySettings() {
        sentence("promise 23: soft up to setting 1 days");
        SiloPads x = filled(10, 20, 40, 80);
        int[] soft = {120, 140, 150};
        for (int days = 1; days <= 3; days++) {
            x.set(1, days);
            dueDouble("soft for " + days, x.softness(), (double) soft[days - 1] / 150);
        }
    }

    private static void softnessNoneAndAll() {
        sentence("promise 23: none and all of it");
        SiloPads x = aged(10, 3);
        dueDouble("its last soft day", x.softness(), 1.0);
        x.pass(1);
        dueDouble("its first stiff day", x.softness(), 0.0);
        x.shake(0);
        dueDouble("shaken", x.softness(), 1.0);
    }

    private static void digestOfANewObject() {
        sentence("promise 24: The hash starts at 3533");
        SiloPads x = new SiloPads();
        due("new", x.digest(), hashOf(new SiloPads(), ""));
        due("as the other new one", x.digest(), new SiloPads().digest());
        due("again", x.digest(), x.digest());
    }

    private static void digestOfEachState() {
        sentence("promise 24: for each value v, in order, the hash becomes 31 * hash + v, in long arithmetic with overflow");
        Maker[] makers = {SiloPads::new, () -> filled(1), () -> filled(1, 2, 3, 4, 5, 6, 7, 8, 9, 10), () -> archedSilo(30, 40),
            () -> archedSilo(30, 200), () -> hollowSilo(9), () -> aged(500, 60), WouldBeEdgeTest::archedFullShip};
        for (Maker maker : makers) {
            SiloPads x = maker.make();
            due("hash", x.digest(), hashOf(x, ""));
            x.ship(0, 0, 0);
            due("with a full ship 0", x.digest(), hashOf(x, ""));
            type(x, "+9");
            due("with a buffer", x.digest(), hashOf(x, "+9"));
        }
        for (int undone = 0; undone <= 6; undone++) {
            SiloPads y = busy();
            for (int k = 0; k < undone; k++) {
                y.undo();
            }
            due("busy, undone " + undone, y.digest(), hashOf(y, "0<1:"));
        }
    }

    private static void digestOfEachSoftness() {
        sentence("promise 24: the bits of softness (as Double.doubleToLongBits)");
        int[] hard = {1, 2, 3, 7, 64, 100, 333, 499, 500};
        int[] soft = {0, 1, 2, 3, 5, 31, 64, 100, 167, 499, 500};
        for (int h : hard) {
            for (int s : soft) {
                SiloPads x = aged(h, 4);
                x.ship(1, 900, s);
                x.unload(2, 1, 500);
                due(s + " of " + (s + h), x.digest(), hashOf(x, ""));
            }
        }
        SiloPads all = filled(500, 500, 200);
        due("1.0", all.digest(), hashOf(all, ""));
        SiloPads least = new SiloPads();
        for (int silo = 0; silo < 4; silo++) {
            fill(least, silo, 500, 500, 199);
        }
        least.set(1, 1);
        least.pass(2);
        least.ship(0, 900, 1);
        least.unload(3, 0, 1);
        dueDouble("a small share", least.softness(), 1.0 / 4797);
        due("1 of 4797", least.digest(), hashOf(least, ""));
    }

    private static void digestOfTheBuffer() {
        sentence("promise 24: the length of the buffer and each of its character codes");
        StringBuilder text = new StringBuilder();
        SiloPads x = new SiloPads();
        for (int k = 0; k < 60; k++) {
            char c = (char) (126 - k % 94);
            x.append(c);
            text.append(c);
            due("length " + (k + 1), x.digest(), hashOf(new SiloPads(), text.toString()));
        }
        x.clearBuffer();
        due("cleared", x.digest(), hashOf(new SiloPads(), ""));
    }

    private static void digestSeesEachChange() {
        sentence("promise 24: a hash of the whole state");
        Call[] calls = {y -> y.ship(5, 500, 1), y -> y.ship(5, 501, 0), y -> y.pads(3, 1), y -> y.pass(1), y -> y.set(0, 7),
            y -> y.set(1, 4), y -> y.set(2, 21), y -> y.set(3, 201), y -> y.append('+'), y -> y.flow(0, 0, 1), y -> y.shake(0)};
        long before = filled(20, 30).digest();
        due("no call", filled(20, 30).digest(), before);
        for (int k = 0; k < calls.length; k++) {
            SiloPads x = filled(20, 30);
            calls[k].answer(x);
            due("call " + k + " is seen", x.digest() == before ? 0 : 1, 1);
        }
    }
}
