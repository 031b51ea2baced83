/** A test for each sentence of "Terms" up to "Flowing" that names a boundary: at it, just inside, just outside. */
public final class TermsEdgeTest extends Checks {
    public static void main(String[] args) {
        divisionsAreRoundedDown();
        fourSilos();
        atMostTenLayers();
        layersFromTheBottom();
        layerOfOneTonneAtLeast();
        layerOf500TonnesAtMost();
        ageAtFirstZero();
        ageAtFirstZeroWhereAnOlderLayerWas();
        siloHoldsAtMost1200();
        siloHoldsAtMost1200OnTop();
        topmostOfAgeZero();
        topmostShakenToAgeZero();
        lowestShakenToAgeZeroIsNotTopmost();
        addedAsFarAs500TheRestOnTop();
        allOfItMakesANewLayer();
        noEleventhLayer();
        tenthLayerIsFilledUpOnly();
        whatDoesNotFitDoesNotCome();
        shipsAtFirst();
        padsOffAtFirst();
        blowerBearsOverAllSilos();
        softStiffHardByAge();
        archNeedsTwoLayers();
        archNeedsTheLowestStiff();
        archForHardLowestToo();
        archByADayOnly();
        onlyTheLowestLayersAgeCounts();
        noSecondArch();
        archInSeveralSilosInOneDay();
        archOutlivesItsLowestLayer();
        brokenArchIsGone();
        brokenArchFormsAnew();
        end("TermsEdgeTest");
    }

    private static void divisionsAreRoundedDown() {
        sentence("divisions are rounded down");
        for (int per : new int[] {5, 6, 7, 20, 99, 100}) {
            for (int tonnes = 1; tonnes <= 160; tonnes++) {
                SiloPads x = filled(tonnes);
                x.pads(0, 4);
                x.set(2, per);
                int dust = 0;
                for (int left = tonnes; left >= per; left -= per) {
                    dust++;
                }
                due(tonnes + " by " + per, x.flow(0, 1, 1), tonnes - dust);
                due("dust of " + tonnes + " by " + per, x.count(3), dust);
            }
        }
    }

    private static void fourSilos() {
        sentence("There are 4 silos, numbered from 0");
        SiloPads x = new SiloPads();
        for (int silo = 0; silo < 4; silo++) {
            x.ship(0, 900, 40);
            due("unload", x.unload(silo, 0, 10 + silo), 10 + silo);
        }
        for (int silo = 0; silo < 4; silo++) {
            due("each its own", x.silo(silo, 0), 10 + silo);
        }
        dueThrow(x, "a fifth", INDEX, () -> x.unload(4, 0, 1));
    }

    private static void atMostTenLayers() {
        sentence("each with at most 10 layers");
        SiloPads x = filled(9, 9, 9, 9, 9, 9, 9, 9, 9);
        x.set(1, 20);
        x.pass(1);
        x.ship(0, 900, 100);
        due("the tenth", x.unload(0, 0, 7), 7);
        layersAre(x, 0, 9, 9, 9, 9, 9, 9, 9, 9, 9, 7);
        x.pass(1);
        due("no eleventh", x.unload(0, 0, 1), 0);
        layersAre(x, 0, 9, 9, 9, 9, 9, 9, 9, 9, 9, 7);
        due("it stays in the ship", x.shipOf(0, 0), 93);
        x.pads(0, 1);
        x.flow(0, 1, 1);
        due("a tenth again", x.unload(0, 0, 8), 8);
        layersAre(x, 0, 9, 9, 9, 9, 9, 9, 9, 9, 7, 8);
    }

    private static void layersFromTheBottom() {
        sentence("numbered from 0 at the bottom");
        SiloPads x = filled(11, 12, 13);
        layerIs(x, 0, 0, 11, 2, 0);
        layerIs(x, 0, 1, 12, 1, 0);
        layerIs(x, 0, 2, 13, 0, 0);
        x.pads(0, 1);
        due("out of the bottom", x.flow(0, 1, 1), 11);
        layersAre(x, 0, 12, 13);
        layerIs(x, 0, 0, 12, 1, 0);
        dueThrow(x, "no third any more", INDEX, () -> x.layer(0, 2, 0));
    }

    private static void layerOfOneTonneAtLeast() {
        sentence("A layer has tonnes, 1 to 500: 1 at least");
        SiloPads x = new SiloPads();
        x.ship(0, 900, 1);
        due("one tonne", x.unload(0, 0, 1), 1);
        layersAre(x, 0, 1);
        due("of an empty ship", x.unload(1, 0, 1), 0);
        layersAre(x, 1);
        SiloPads y = filled(6);
        due("five of six", y.flow(0, 1, 1), 5);
        layersAre(y, 0, 1);
        due("the last one", y.flow(0, 1, 1), 1);
        layersAre(y, 0);
        dueThrow(y, "no layer of nothing", INDEX, () -> y.layer(0, 0, 0));
    }

    private static void layerOf500TonnesAtMost() {
        sentence("A layer has tonnes, 1 to 500: 500 at most");
        SiloPads x = new SiloPads();
        x.ship(0, 900, 900);
        due("499", x.unload(0, 0, 499), 499);
        due("one more", x.unload(0, 0, 1), 1);
        layersAre(x, 0, 500);
        due("501st", x.unload(0, 0, 1), 1);
        layersAre(x, 0, 500, 1);
        due("at once", x.unload(1, 0, 399), 399);
        x.ship(0, 900, 900);
        due("500", x.unload(2, 0, 500), 500);
        layersAre(x, 2, 500);
    }

    private static void ageAtFirstZero() {
        sentence("an age in days, at first 0");
        SiloPads x = filled(5);
        due("new", x.layer(0, 0, 1), 0);
        x.pass(1);
        due("a day", x.layer(0, 0, 1), 1);
        x.ship(0, 900, 5);
        x.unload(0, 0, 5);
        due("a newer one on top", x.layer(0, 1, 1), 0);
        due("the older one below", x.layer(0, 0, 1), 1);
    }

    private static void ageAtFirstZeroWhereAnOlderLayerWas() {
        sentence("an age in days, at first 0: also of a layer that takes the place of one that is gone");
        SiloPads x = aged(10, 30);
        x.ship(0, 900, 900);
        x.pads(0, 4);
        due("the old one goes", x.flow(0, 1, 1), 10);
        due("a new one comes", x.unload(0, 0, 3), 3);
        layerIs(x, 0, 0, 3, 0, 0);
        due("and is added to", x.unload(0, 0, 4), 4);
        layersAre(x, 0, 7);
        SiloPads y = filled(1, 1, 1, 1, 1, 1, 1, 1, 1, 1);
        y.set(1, 20);
        y.pass(3);
        y.ship(0, 900, 900);
        due("the lowest of ten goes", y.flow(0, 1, 1), 1);
        due("a tenth comes", y.unload(0, 0, 2), 2);
        layerIs(y, 0, 8, 1, 3, 0);
        layerIs(y, 0, 9, 2, 0, 0);
    }

    private static void siloHoldsAtMost1200() {
        sentence("A silo holds at most 1200 tonnes");
        for (int come = 1; come <= 3; come++) {
            SiloPads x = filled(500, 500, 198);
            x.set(1, 20);
            x.pass(1);
            x.ship(0, 900, 900);
            int comes = Math.min(2, come);
            due("1198 and " + come, x.unload(0, 0, come), comes);
            layersAre(x, 0, 500, 500, 198, comes);
            due("left in the ship", x.shipOf(0, 0), 900 - comes);
        }
        SiloPads y = filled(500, 500, 200);
        y.pass(1);
        y.ship(0, 900, 900);
        due("full", y.unload(0, 0, 500), 0);
        layersAre(y, 0, 500, 500, 200);
        due("1200", y.count(1), 1200);
    }

    private static void siloHoldsAtMost1200OnTop() {
        sentence("A silo holds at most 1200 tonnes, and less than a layer has place for");
        for (int come = 1; come <= 3; come++) {
            SiloPads x = filled(500, 500, 198);
            x.ship(0, 900, 900);
            int comes = Math.min(2, come);
            due("1198 and " + come, x.unload(0, 0, come), comes);
            layersAre(x, 0, 500, 500, 198 + comes);
        }
        SiloPads y = filled(300, 420, 430);
        y.ship(0, 900, 900);
        due("50 of 500, all on top", y.unload(0, 0, 500), 50);
        layersAre(y, 0, 300, 420, 480);
        SiloPads z = filled(200, 490);
        z.ship(0, 900, 900);
        due("10 on top and 490 as a new layer", z.unload(0, 0, 500), 500);
        layersAre(z, 0, 200, 500, 490);
        due("10 on top of that", z.unload(0, 0, 400), 10);
        layersAre(z, 0, 200, 500, 500);
    }

    private static void topmostOfAgeZero() {
        sentence("a silo whose topmost layer has the age 0, it is added to that layer");
        SiloPads x = filled(20, 30);
        x.ship(0, 900, 900);
        due("age 0", x.unload(0, 0, 40), 40);
        layersAre(x, 0, 20, 70);
        x.pass(1);
        due("age 1", x.unload(0, 0, 40), 40);
        layersAre(x, 0, 20, 70, 40);
        due("age 0 again", x.unload(0, 0, 1), 1);
        layersAre(x, 0, 20, 70, 41);
        x.pass(2);
        due("age 2", x.unload(0, 0, 1), 1);
        layersAre(x, 0, 20, 70, 41, 1);
    }

    private static void topmostShakenToAgeZero() {
        sentence("a topmost layer has the age 0 also if shaken to it");
        SiloPads x = aged(20, 2);
        x.ship(0, 900, 900);
        x.shake(0);
        due("age 1", x.layer(0, 0, 1), 1);
        x.shake(0);
        due("age 0", x.layer(0, 0, 1), 0);
        due("on top", x.unload(0, 0, 5), 5);
        layersAre(x, 0, 25);
        due("shakes stay", x.silo(0, 4), 2);
        SiloPads y = aged(20, 2);
        y.ship(0, 900, 900);
        y.shake(0);
        due("still a day old", y.unload(0, 0, 5), 5);
        layersAre(y, 0, 20, 5);
        due("shakes anew", y.silo(0, 4), 0);
    }

    private static void lowestShakenToAgeZeroIsNotTopmost() {
        sentence("it is the topmost layer whose age counts");
        SiloPads x = filled(20, 30);
        x.shake(0);
        x.pass(1);
        x.shake(0);
        due("lowest", x.layer(0, 0, 1), 0);
        due("topmost", x.layer(0, 1, 1), 1);
        x.ship(0, 900, 900);
        due("comes", x.unload(0, 0, 5), 5);
        layersAre(x, 0, 20, 30, 5);
    }

    private static void addedAsFarAs500TheRestOnTop() {
        sentence("added to that layer, as far as that has no more than 500 then; the rest makes a new layer on top");
        for (int come = 1; come <= 4; come++) {
            SiloPads x = filled(7, 498);
            x.shake(0);
            x.ship(0, 900, 900);
            due("498 and " + come, x.unload(0, 0, come), come);
            if (come <= 2) {
                layersAre(x, 0, 7, 498 + come);
                due("no new layer", x.silo(0, 4), 1);
            } else {
                layersAre(x, 0, 7, 500, come - 2);
                due("of age 0", x.layer(0, 2, 1), 0);
                due("a new layer", x.silo(0, 4), 0);
            }
        }
    }

    private static void allOfItMakesANewLayer() {
        sentence("and all of it otherwise, makes a new layer on top");
        SiloPads x = new SiloPads();
        x.ship(0, 900, 900);
        due("into an empty silo", x.unload(0, 0, 500), 500);
        layersAre(x, 0, 500);
        due("on a full layer", x.unload(0, 0, 3), 3);
        layersAre(x, 0, 500, 3);
        x.pass(1);
        due("on an older layer, which has place", x.unload(0, 0, 397), 397);
        layersAre(x, 0, 500, 3, 397);
        layerIs(x, 0, 1, 3, 1, 0);
        layerIs(x, 0, 2, 397, 0, 0);
    }

    private static void noEleventhLayer() {
        sentence("What would need an eleventh layer does not come");
        SiloPads x = filled(1, 1, 1, 1, 1, 1, 1, 1, 1, 500);
        x.shake(0);
        x.ship(0, 900, 900);
        due("the tenth is full", x.unload(0, 0, 1), 0);
        due("ten", x.silo(0, 1), 10);
        due("nothing made", x.silo(0, 4), 1);
        due("nothing lost", x.shipOf(0, 0), 900);
        SiloPads y = filled(1, 1, 1, 1, 1, 1, 1, 1, 500);
        y.ship(0, 900, 900);
        due("a ninth that is full", y.unload(0, 0, 1), 1);
        layersAre(y, 0, 1, 1, 1, 1, 1, 1, 1, 1, 500, 1);
    }

    private static void tenthLayerIsFilledUpOnly() {
        sentence("What would need an eleventh layer does not come, but what is added to the tenth does");
        for (int come = 1; come <= 4; come++) {
            SiloPads x = filled(1, 1, 1, 1, 1, 1, 1, 1, 1, 498);
            x.ship(0, 900, 900);
            int comes = Math.min(2, come);
            due("498 and " + come, x.unload(0, 0, come), comes);
            layersAre(x, 0, 1, 1, 1, 1, 1, 1, 1, 1, 1, 498 + comes);
            due("left", x.shipOf(0, 0), 900 - comes);
        }
        SiloPads y = filled(1, 1, 1, 1, 1, 1, 1, 1, 498);
        y.ship(0, 900, 900);
        due("the rest as a tenth", y.unload(0, 0, 4), 4);
        layersAre(y, 0, 1, 1, 1, 1, 1, 1, 1, 1, 500, 2);
    }

    private static void whatDoesNotFitDoesNotCome() {
        sentence("What does not fit does not come");
        SiloPads x = filled(100, 100, 100, 100, 100, 100, 100, 100, 100, 298);
        x.ship(0, 900, 900);
        due("in the tenth layer, as far as 1200", x.unload(0, 0, 500), 2);
        due("1200", x.silo(0, 0), 1200);
        due("full", x.unload(0, 0, 500), 0);
        SiloPads y = filled(50, 50, 50, 50, 50, 50, 50, 50, 50, 298);
        y.ship(0, 900, 900);
        due("in the tenth layer, as far as 500", y.unload(0, 0, 500), 202);
        due("950", y.silo(0, 0), 950);
    }

    private static void shipsAtFirst() {
        sentence("There are 6 ships, numbered from 0, each with tonnes, at first 0, and a hold, at first 500");
        SiloPads x = new SiloPads();
        for (int ship = 0; ship < 6; ship++) {
            due("tonnes", x.shipOf(ship, 0), 0);
            due("hold", x.shipOf(ship, 1), 500);
        }
        for (int ship = 0; ship < 6; ship++) {
            x.ship(ship, 800 + ship, 10 + ship);
        }
        for (int ship = 0; ship < 6; ship++) {
            due("its own tonnes", x.shipOf(ship, 0), 10 + ship);
            due("its own hold", x.shipOf(ship, 1), 800 + ship);
        }
        dueThrow(x, "a seventh", INDEX, () -> x.shipOf(6, 0));
        SiloPads y = filled(500, 100);
        y.pads(0, 4);
        due("500 fit into a new ship", y.flow(0, 1, 24), 500);
        due("it is full", y.whyNot(0, 1), 3);
    }

    private static void padsOffAtFirst() {
        sentence("Each silo has 4 pads, each on or off, off at first");
        SiloPads x = new SiloPads();
        x.set(0, 16);
        for (int silo = 0; silo < 4; silo++) {
            int s = silo;
            due("off", x.pads(silo, 4), 0);
            dueThrow(x, "a fifth", ARGUMENT, () -> x.pads(s, 5));
            due("four", x.silo(silo, 2), 4);
        }
    }

    private static void blowerBearsOverAllSilos() {
        sentence("One blower bears at most as many pads as setting 0 tells, over all silos");
        for (int bears = 0; bears <= 16; bears++) {
            SiloPads x = new SiloPads();
            x.set(0, bears);
            for (int silo = 0; silo < 4; silo++) {
                int s = silo;
                int can = Math.min(4, bears - x.count(6));
                if (can < 4) {
                    dueThrow(x, "one too many of " + bears, STATE, () -> x.pads(s, can + 1));
                }
                due("as many as it bears", x.pads(silo, can), 0);
            }
            due("all", x.count(6), bears);
        }
    }

    private static void softStiffHardByAge() {
        sentence("soft up to setting 1 days, stiff up to twice that, and hard behind it");
        for (int age = 0; age <= 42; age++) {
            SiloPads x = aged(8, age);
            for (int days = 1; days <= 20; days++) {
                x.set(1, days);
                int want = age <= days ? 0 : age <= days + days ? 1 : 2;
                due("age " + age + " with " + days, x.layer(0, 0, 2), want);
            }
        }
        SiloPads y = aged(8, 60);
        y.set(1, 20);
        due("far behind", y.layer(0, 0, 2), 2);
    }

    private static void archNeedsTwoLayers() {
        sentence("An arch forms if there are at least two layers");
        SiloPads x = aged(10, 3);
        due("one layer, stiff now", x.pass(1), 0);
        due("one layer, hard now", x.pass(30), 0);
        due("none", x.silo(0, 3), 0);
        x.ship(0, 900, 1);
        x.unload(0, 0, 1);
        due("two layers", x.pass(1), 1);
        due("there", x.silo(0, 3), 1);
        SiloPads y = filled(5, 5);
        y.pass(1);
        y.flow(0, 1, 1);
        due("one is left", y.silo(0, 1), 1);
        due("none above the last", y.pass(30), 0);
        due("no layers", new SiloPads().pass(30), 0);
    }

    private static void archNeedsTheLowestStiff() {
        sentence("An arch forms if the lowest is stiff or hard");
        for (int days = 1; days <= 20; days++) {
            SiloPads x = filled(10, 10);
            x.set(1, days);
            for (int age = 2; age <= days; age++) {
                due("soft at " + age, x.pass(1), 0);
            }
            due("age", x.layer(0, 0, 1), days);
            due("no arch", x.silo(0, 3), 0);
            due("stiff behind " + days, x.pass(1), 1);
            due("an arch", x.silo(0, 3), 1);
        }
    }

    private static void archForHardLowestToo() {
        sentence("An arch forms if the lowest is hard");
        SiloPads x = filled(10, 10);
        x.set(1, 20);
        due("soft", x.pass(5), 0);
        x.set(1, 1);
        due("hard", x.layer(0, 0, 2), 2);
        due("forms", x.pass(1), 1);
    }

    private static void archByADayOnly() {
        sentence("An arch forms in a silo by a day");
        SiloPads x = aged(10, 9);
        x.ship(0, 900, 10);
        x.unload(0, 0, 10);
        due("not by a second layer", x.silo(0, 3), 0);
        x.set(1, 1);
        due("not by a setting", x.silo(0, 3), 0);
        x.shake(0);
        x.flow(0, 1, 24);
        due("not by a shake or a flow", x.count(7), 0);
        due("by a day", x.pass(1), 1);
    }

    private static void onlyTheLowestLayersAgeCounts() {
        sentence("An arch forms if the lowest is stiff or hard, whatever the others are");
        SiloPads x = filled(10, 10);
        x.set(1, 20);
        x.pass(2);
        for (int k = 0; k < 3; k++) {
            x.shake(0);
        }
        x.set(1, 1);
        due("lowest", x.layer(0, 0, 1), 0);
        due("the upper one is stiff", x.layer(0, 1, 2), 1);
        due("no arch", x.pass(1), 0);
        due("an arch", x.pass(1), 1);
    }

    private static void noSecondArch() {
        sentence("An arch forms if no arch is there");
        SiloPads x = archedSilo(10, 10);
        due("none above the same layer", x.pass(30), 0);
        due("one", x.count(9), 1);
        SiloPads y = hollowSilo(10, 10);
        due("none above the next layer", y.pass(30), 0);
        due("one", y.count(9), 1);
        due("still above nothing", y.whyNot(0, 1), 2);
    }

    private static void archInSeveralSilosInOneDay() {
        sentence("arches form, by silos");
        SiloPads x = new SiloPads();
        x.set(1, 20);
        for (int layer = 0; layer < 2; layer++) {
            x.ship(0, 900, 900);
            for (int silo = 0; silo < 4; silo++) {
                x.unload(silo, 0, 10);
            }
            x.pass(1);
        }
        x.set(1, 2);
        due("four in a day", x.pass(1), 4);
        for (int silo = 0; silo < 4; silo++) {
            due("each", x.silo(silo, 3), 1);
        }
        due("arches", x.count(7), 4);
        due("formed", x.count(9), 4);
    }

    private static void archOutlivesItsLowestLayer() {
        sentence("with it nothing flows but the lowest layer. When that is gone, the arch stays, above nothing");
        SiloPads x = archedSilo(41, 50);
        x.pads(0, 3);
        due("stiff", x.flow(0, 1, 1), 38);
        due("one tonne is left below", x.whyNot(0, 1), 0);
        layersAre(x, 0, 1, 50);
        due("the last one", x.flow(0, 1, 1), 1);
        due("above nothing", x.whyNot(0, 1), 2);
        due("it stays", x.silo(0, 3), 1);
        layersAre(x, 0, 50);
        due("nothing", x.flow(0, 1, 24), 0);
        layersAre(x, 0, 50);
    }

    private static void brokenArchIsGone() {
        sentence("when it is broken, there is none");
        SiloPads x = hollowSilo(200);
        x.shake(0);
        due("none", x.silo(0, 3), 0);
        due("none of all", x.count(7), 0);
        x.pads(0, 4);
        due("flows", x.whyNot(0, 1), 0);
        due("soft", x.flow(0, 1, 1), 152);
        SiloPads y = archedSilo(100, 200);
        y.shake(0);
        due("none", y.silo(0, 3), 0);
        y.pads(0, 4);
        y.set(1, 20);
        due("through both layers", y.flow(0, 1, 3), 95 + 152 + 38);
        layersAre(y, 0);
    }

    private static void brokenArchFormsAnew() {
        sentence("An arch forms if no arch is there: also behind a broken one");
        SiloPads x = archedSilo(100, 200);
        due("age", x.layer(0, 0, 1), 4);
        due("broken", x.shake(0), 1);
        due("soft by the shake", x.layer(0, 0, 1), 3);
        due("stiff again by a day", x.pass(1), 1);
        due("formed", x.count(9), 2);
        due("there", x.count(7), 1);
    }
}
