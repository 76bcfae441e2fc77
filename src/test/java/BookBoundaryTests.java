/** The boundary cases that the document names for orders and books: sections 1 and 2, promises 1 to 18. */
public final class BookBoundaryTests {
    private static final String ALL_FOUR = "fill 0 0 1 100 0; fill 1 0 1 100 50; freshBook 2 1; fill 2 0 1 100 0; "
            + "freshBook 3 2; fill 3 0 1 100 0";

    public static void main(String[] args) {
        pairsAndOrders();
        books();
        newObject();
        freshBook();
        buildBook();
        splitBook();
        splitFullBook();
        fill();
        fillAway();
        pour();
        keep();
        put();
        exchange();
        take();
        drop();
        has();
        near();
        end();
        keyAt();
        tellBook();
        bookText();
        sameBooks();
        Checks.finish("books are as due at all edges");
    }

    private static void pairsAndOrders() {
        Checks.says("1: a KEY is 0 to 99, so is a WORTH; a PAIR is told as KEY * 100 + WORTH");
        for (int key : new int[] {0, 1, 98, 99}) {
            for (int worth : new int[] {0, 1, 98, 99}) {
                Checks.run("put 0 " + key + " " + worth + " 0", "end 0 false true", key * 100 + worth,
                        "near 0 " + key + " 4 true", key * 100 + worth, "drop 0 0", key * 100 + worth);
            }
        }
        Checks.argument("", "put 0 100 0 0");
        Checks.argument("", "put 0 -1 0 0");
        Checks.argument("", "put 0 0 100 0");
        Checks.argument("", "put 0 0 -1 0");

        for (int order = 0; order <= 2; order++) {
            Checks.says("1: what stands ahead in ORDER " + order);
            Bookgrafter x = Checks.object(Setups.fullBook(order));
            for (int ahead = 0; ahead < 100; ahead++) {
                int key = Setups.keyInOrder(order, ahead);
                Checks.due("keyAt " + ahead, x.keyAt(0, ahead, false), key);
                Checks.due("ahead of " + key, x.near(0, key, 2, false), ahead == 0 ? -1 : Setups.keyInOrder(order,
                        ahead - 1));
                Checks.due("behind " + key, x.near(0, key, 3, false), ahead == 99 ? -1 : Setups.keyInOrder(order,
                        ahead + 1));
            }
        }
        Checks.says("1: ORDER 2: of two with the same last digit the lesser one, otherwise the lesser last digit");
        Checks.run("freshBook 0 2; put 0 19 1 0; put 0 9 1 0; put 0 10 1 0; put 0 90 1 0; put 0 1 1 0",
                "bookText 0", "{10=1, 90=1, 1=1, 9=1, 19=1}");
    }

    private static void books() {
        Checks.says("2: PAIRs, none at first, no two with the same KEY");
        Checks.run("", "tellBook 0 0", 0, "put 0 5 1 0", -1, "put 0 5 2 0", 1, "tellBook 0 0", 1, "bookText 0",
                "{5=2}");
        Checks.says("2: a BOOK has an ORDER, which it keeps");
        Checks.run("freshBook 0 2; fill 0 0 1 100 0; drop 0 2; pour 0 1; keep 0 1 true", "tellBook 0 1", 2,
                "splitBook 0 0 1", 0, "tellBook 0 1", 2);
        Checks.says("2: HASH of 5 with 3 is 6");
        Checks.idle("put 0 5 3 0", "tellBook 0 2", 6);
        Checks.says("2: HASH of none, of the same number, of no digit in common, of more than 99, of two");
        Checks.idle("", "tellBook 0 2", 0);
        Checks.idle("put 0 99 99 0", "tellBook 0 2", 0);
        Checks.idle("put 0 0 99 0", "tellBook 0 2", 99);
        Checks.idle("put 0 99 0 0", "tellBook 0 2", 99);
        Checks.idle("put 0 63 64 0", "tellBook 0 2", 127);
        Checks.idle("put 0 63 64 0; put 0 64 63 0; put 0 5 3 0", "tellBook 0 2", 260);
        buildersLeaveTheFormerBook();
    }

    private static void buildersLeaveTheFormerBook() {
        String setup = "fill 0 10 10 2 1; fill 1 40 10 3 4; openView 1 1 1 50 0 1; startWalk 0; walkNext; ";
        String[] builders = {"freshBook 0 0", "buildBook 0 1 0", "buildBook 0 0 4", "splitBook 1 50 0",
            "buildFromView 0 1 0", "buildFromView 0 0 1"};
        String[] texts = {"{}", "{40=4, 50=5, 60=6}", "{10=1, 20=2}", "{50=5, 60=6}", "{50=5, 60=6}", "{10=1, 20=2}"};
        for (int i = 0; i < builders.length; i++) {
            Checks.says("2: the former BOOK lies nowhere after " + builders[i]);
            String built = setup + builders[i];
            Checks.run(built, "bookText 0", texts[i], "put 0 99 9 0", -1, "viewTell 0 0", 2, "viewNear 0 99 0", 2002);
            Checks.says("2: its VIEW and the WALK on it stay on it and write it after " + builders[i]);
            Checks.run(built, "viewPut 0 20 22", 2, "walkNext", 2022, "walkSet 23", 22, "viewNear 0 20 4", 2023,
                    "walkTake", 2023, "viewTell 0 0", 1, "viewTake 0 10", 1, "viewTell 0 0", 0, "walkNext", -9,
                    "viewPut 0 30 3", -1, "viewDrop 0 2", 1, "bookText 0", texts[i]);
            Checks.says("2: a BUILT one is not written: what was TOLD stays after " + builders[i]);
            Checks.run(built, "walkSet 7", 1, "walkTake", 1007, "walkNext", 2002, "bookText 0", texts[i]);
        }
    }

    private static void newObject() {
        Checks.says("promise 1: empty BOOKs of ORDER 0");
        for (int place = 0; place < 4; place++) {
            Checks.run("", "bookText " + place, "{}", "tellBook " + place + " 0", 0, "tellBook " + place + " 1", 0,
                    "tellBook " + place + " 2", 0, "tellBook " + place + " 3", 1, "end " + place + " false false", -9);
        }
        Checks.says("promise 1: the four places are four BOOKs");
        Checks.run("put 0 1 1 0; put 1 2 2 0; put 2 3 3 0; put 3 4 4 0", "bookText 0", "{1=1}", "bookText 1", "{2=2}",
                "bookText 2", "{3=3}", "bookText 3", "{4=4}");
        Checks.says("promise 1: empty SHELVES of ORDER 0");
        for (int shelf = 0; shelf < 3; shelf++) {
            Checks.run("", "shelfTell " + shelf + " 0", 0, "shelfTell " + shelf + " 1", 0, "shelfTell " + shelf + " 2",
                    0,
                    "shelfTell " + shelf + " 3", -9);
        }
        Checks.says("promise 1: the VIEWs have all KEYs WITHIN, of the BOOKs at places 0 and 1");
        for (int view = 0; view < 2; view++) {
            Bookgrafter x = new Bookgrafter();
            for (int key = 0; key < 100; key++) {
                Checks.due("viewPut of " + key, x.viewPut(view, key, 0), -1);
            }
            Checks.due("PAIRs of place " + view, x.tellBook(view, 0), 100);
            Checks.due("PAIRs of the other place", x.tellBook(1 - view, 0), 0);
        }
        Checks.says("promise 1: no WALK");
        Checks.refused("", "walkNext");
        Checks.refused("", "walkSet 0");
        Checks.refused("", "walkTake");
        Checks.says("promise 1: nothing has been done");
        for (int what = 0; what < 4; what++) {
            Checks.idle("", "house " + what, 0);
        }
    }

    private static void freshBook() {
        Checks.says("promise 2: how many the former BOOK had: none, one, all");
        Checks.run("put 2 7 7 0; fill 3 0 1 100 0", "freshBook 1 1", 0, "freshBook 2 2", 1, "freshBook 3 0", 100,
                "freshBook 3 0", 0);
        Checks.says("promise 2: its ORDER is the least and the greatest one");
        Checks.run("", "freshBook 0 2", 0, "tellBook 0 1", 2, "freshBook 0 0", 0, "tellBook 0 1", 0);
        Checks.says("promise 2: the first and the last place, no other one");
        Checks.run("put 1 1 1 0; put 2 2 2 0", "freshBook 0 1", 0, "freshBook 3 1", 0, "tellBook 0 1", 1,
                "tellBook 3 1", 1,
                "bookText 1", "{1=1}", "bookText 2", "{2=2}");
        Checks.says("promise 2: a BOOK ACT, even if an empty one is BUILT for an empty one");
        Checks.bookAct("", "freshBook 3 0", 0);
        Checks.says("promise 2: IndexOutOfBounds goes ahead of IllegalArgument");
        Checks.index(Setups.SOME, "freshBook 4 3");
        Checks.index(Setups.SOME, "freshBook -1 -1");
        Checks.argument(Setups.SOME, "freshBook 3 3");
    }

    private static void buildBook() {
        for (int how = 0; how <= 6; how++) {
            for (int order = 0; order <= 2; order++) {
                Checks.says("promise 3: how " + how + " of ORDER " + order);
                int built = how < 4 ? order : how - 4;
                String setup = "freshBook 1 " + order;
                Checks.run(setup, "buildBook 0 1 " + how, 0, "bookText 0", "{}", "tellBook 0 1", built);
                Checks.run(setup + "; put 1 99 0 0", "buildBook 0 1 " + how, 1, "bookText 0", "{99=0}");
                Checks.run(setup + "; fill 1 0 1 100 3", "buildBook 0 1 " + how, 100, "sameBooks 0 1", true,
                        "end 0 false false", Setups.keyInOrder(built, 0), "end 0 true false", Setups.keyInOrder(built,
                        99),
                        "tellBook 1 1", order);
                Checks.says("promise 3: into itself, how " + how + " of ORDER " + order);
                Checks.run(setup + "; fill 1 0 1 100 3", "buildBook 1 1 " + how, 100, "tellBook 1 1", built,
                        "end 1 false false", Setups.keyInOrder(built, 0), "end 1 true true",
                        Setups.keyInOrder(built, 99) * 100 + (Setups.keyInOrder(built, 99) + 3) % 100);
                Checks.run(setup, "buildBook 1 1 " + how, 0, "tellBook 1 1", built, "house 0", 2);
            }
        }
        Checks.says("promise 3: the other one stays as it is, and neither is written with the other");
        Checks.run("put 0 1 1 0; buildBook 1 0 0", "put 1 2 2 0", -1, "bookText 0", "{1=1}", "take 0 1", 1,
                "bookText 1",
                "{1=1, 2=2}");
        Checks.says("promise 3: the one it is BUILT of is not written");
        Checks.run("put 0 1 1 0; startWalk 0; walkNext; buildBook 1 0 1", "walkTake", 101);
        Checks.says("promise 3: IndexOutOfBounds goes ahead of IllegalArgument");
        Checks.index(Setups.SOME, "buildBook 4 0 7");
        Checks.index(Setups.SOME, "buildBook 0 4 7");
        Checks.index(Setups.SOME, "buildBook -1 -1 -1");
        Checks.argument(Setups.SOME, "buildBook 0 0 7");
        Checks.argument(Setups.SOME, "buildBook 3 3 -1");
    }

    private static void splitBook() {
        String setup = "fill 0 10 10 3 1";
        Checks.says("promise 4: key itself goes, and what stands behind it");
        Checks.run(setup, "splitBook 0 20 1", 2, "bookText 0", "{10=1}", "bookText 1", "{20=2, 30=3}");
        Checks.says("promise 4: key need not be there");
        Checks.run(setup, "splitBook 0 19 1", 2, "bookText 0", "{10=1}");
        Checks.run(setup, "splitBook 0 21 1", 1, "bookText 0", "{10=1, 20=2}");
        Checks.says("promise 4: all go, the last one goes, none goes");
        Checks.run(setup, "splitBook 0 10 1", 3, "bookText 0", "{}", "tellBook 1 0", 3);
        Checks.run(setup, "splitBook 0 30 1", 1, "bookText 1", "{30=3}", "tellBook 0 0", 2);
        Checks.run(setup + "; put 1 5 5 0", "splitBook 0 31 1", 0, "bookText 1", "{}", "tellBook 0 0", 3);
        Checks.says("promise 4: of an empty BOOK");
        Checks.bookAct("", "splitBook 0 0 3", 0);
        Checks.bookAct("", "splitBook 3 99 2", 0);
        Checks.says("promise 4: -9 if book is into");
        for (int place = 0; place < 4; place++) {
            Checks.refused(Setups.SOME, "splitBook " + place + " 0 " + place);
            Checks.refused(Setups.FULL, "splitBook " + place + " 99 " + place);
        }
        Checks.says("promise 4: exceptions go ahead of -9, IndexOutOfBounds ahead of IllegalArgument");
        Checks.argument(Setups.SOME, "splitBook 1 100 1");
        Checks.argument(Setups.SOME, "splitBook 1 -1 1");
        Checks.index(Setups.SOME, "splitBook 4 100 4");
        Checks.index(Setups.SOME, "splitBook 0 -1 4");
        Checks.index(Setups.SOME, "splitBook -1 0 -1");
        Checks.says("promise 4: the former BOOK at into is not written");
        Checks.run("put 1 1 1 0; startWalk 1; walkNext; fill 0 1 1 3 1; splitBook 0 1 1", "walkSet 9", 1,
                "viewNear 1 1 4", 109);
    }

    private static void splitFullBook() {
        for (int order = 0; order <= 2; order++) {
            Checks.says("promise 4: a full BOOK of ORDER " + order);
            int first = Setups.keyInOrder(order, 0);
            int last = Setups.keyInOrder(order, 99);
            Checks.run(Setups.fullBook(order), "splitBook 0 " + first + " 1", 100, "tellBook 0 0", 0, "tellBook 1 1",
                    order);
            Checks.run(Setups.fullBook(order), "splitBook 0 " + last + " 1", 1, "bookText 1",
                    "{" + last + "=" + last + "}",
                    "end 0 true false", Setups.keyInOrder(order, 98));
            Checks.run(Setups.fullBook(order), "splitBook 0 " + Setups.keyInOrder(order, 1) + " 1", 99, "bookText 0",
                    "{" + first + "=" + first + "}", "tellBook 0 1", order);
        }
    }

    private static void fill() {
        Checks.says("promise 5: many 0: none COMES and none goes, and it is a BOOK ACT");
        Checks.bookAct("", "fill 0 0 0 0 0", 0);
        Checks.bookAct("fill 3 0 1 100 0", "fill 3 99 99 0 -1", 0);
        Checks.says("promise 5: many 1 is j 0 alone");
        Checks.run("", "fill 0 99 99 1 99", 1, "bookText 0", "{99=99}");
        Checks.says("promise 5: the KEY after 99 is 0");
        Checks.run("", "fill 0 99 1 2 5", 2, "bookText 0", "{0=6, 99=5}");
        Checks.run("", "fill 0 1 99 3 5", 3, "bookText 0", "{0=6, 1=5, 99=7}");
        Checks.says("promise 5: the KEY goes round many times: 99 + 99 * 99 is 9900");
        Checks.run("", "fill 0 99 99 100 0", 100, "near 0 0 4 true", 99, "near 0 99 4 true", 9900, "near 0 1 4 true",
                198);
        Checks.says("promise 5: the WORTH after 99 is 0, up to 99 + 99");
        Checks.run("", "fill 0 0 1 100 99", 100, "near 0 0 4 true", 99, "near 0 1 4 true", 100, "near 0 99 4 true",
                9998);
        Checks.says("promise 5: step 0: the last WORTH stays, one PAIR is added");
        Checks.run("", "fill 0 7 0 100 0", 1, "bookText 0", "{7=99}");
        Checks.run("", "fill 0 7 0 100 1", 1, "bookText 0", "{7=0}");
        Checks.says("promise 5: one after the other: a KEY that COMES twice has the later WORTH");
        Checks.run("", "fill 0 10 50 5 1", 2, "bookText 0", "{10=5, 60=4}");
        Checks.says("promise 5: what is there already is not counted, but has the new WORTH");
        Checks.run("put 0 3 3 0", "fill 0 2 1 3 97", 2, "bookText 0", "{2=97, 3=98, 4=99}", "fill 0 2 1 3 0", 0,
                "bookText 0", "{2=0, 3=1, 4=2}");
        Checks.says("promise 5: IndexOutOfBounds goes ahead of IllegalArgument");
        Checks.index(Setups.SOME, "fill 4 100 100 101 100");
        Checks.index(Setups.SOME, "fill -1 -1 -1 -1 -2");
        Checks.says("promise 5: just outside, even if many is 0");
        Checks.argument(Setups.SOME, "fill 0 100 0 0 0");
        Checks.argument(Setups.SOME, "fill 0 -1 0 0 0");
        Checks.argument(Setups.SOME, "fill 0 0 100 0 0");
        Checks.argument(Setups.SOME, "fill 0 0 -1 0 0");
        Checks.argument(Setups.SOME, "fill 0 0 0 101 0");
        Checks.argument(Setups.SOME, "fill 0 0 0 -1 0");
        Checks.argument(Setups.SOME, "fill 0 0 0 0 100");
        Checks.argument(Setups.SOME, "fill 0 0 0 0 -2");
    }

    private static void fillAway() {
        Checks.says("promise 5: worth -1: the KEY goes, if it is there");
        Checks.run("put 0 5 0 0", "fill 0 5 1 3 -1", 1, "bookText 0", "{}", "fill 0 5 1 3 -1", 0);
        Checks.bookAct("", "fill 0 0 1 100 -1", 0);
        Checks.says("promise 5: worth -1: the KEY after 99 is 0");
        Checks.run("fill 0 98 1 4 0", "fill 0 99 1 2 -1", 2, "bookText 0", "{1=3, 98=0}");
        Checks.says("promise 5: worth -1: what goes once is counted once");
        Checks.run("fill 0 0 1 100 0", "fill 0 7 50 100 -1", 2, "tellBook 0 0", 98, "fill 0 7 0 100 -1", 0);
        Checks.says("promise 5: worth -1: all go");
        Checks.run("fill 0 0 1 100 0", "fill 0 99 99 100 -1", 100, "tellBook 0 3", 1);
        Checks.says("promise 5: worth 0 is a WORTH");
        Checks.run("put 0 5 5 0", "fill 0 5 1 1 0", 0, "bookText 0", "{5=0}");
    }

    private static void pour() {
        Checks.says("promise 6: an empty BOOK into an empty, a full one");
        Checks.bookAct("", "pour 0 3", 0);
        Checks.bookAct("fill 0 0 1 100 0", "pour 0 3", 0);
        Checks.says("promise 6: a full BOOK into an empty one; that keeps its PAIRs");
        Checks.run("freshBook 0 1; fill 3 0 1 100 99", "pour 0 3", 100, "sameBooks 0 3", true, "tellBook 3 0", 100,
                "tellBook 0 1", 1);
        Checks.says("promise 6: a full BOOK into a full one: none is added, all get the WORTH");
        Checks.run("fill 0 0 1 100 0; fill 3 0 1 100 99", "pour 0 3", 0, "sameBooks 0 3", true, "near 0 0 4 true", 99);
        Checks.says("promise 6: only what was not there is counted");
        Checks.run("fill 0 0 1 2 5; fill 1 1 1 2 8", "pour 0 1", 1, "bookText 0", "{0=5, 1=8, 2=9}", "bookText 1",
                "{1=8, 2=9}");
        Checks.says("promise 6: -9 if book is from");
        for (int place = 0; place < 4; place++) {
            Checks.refused(Setups.SOME, "pour " + place + " " + place);
            Checks.refused(Setups.EMPTY, "pour " + place + " " + place);
        }
        Checks.says("promise 6: the exception goes ahead of -9");
        Checks.index(Setups.SOME, "pour 4 4");
        Checks.index(Setups.SOME, "pour -1 -1");
    }

    private static void keep() {
        Checks.says("promise 7: of an empty BOOK");
        Checks.bookAct("fill 1 0 1 100 0", "keep 0 1 true", 0);
        Checks.bookAct("fill 1 0 1 100 0", "keep 0 1 false", 0);
        Checks.says("promise 7: an empty other BOOK: inside none stays, outside all stay");
        Checks.run("fill 0 0 1 100 0", "keep 0 3 true", 100, "bookText 0", "{}");
        Checks.bookAct("fill 0 0 1 100 0", "keep 0 3 false", 0);
        Checks.says("promise 7: a full other BOOK: inside all stay, outside none stays");
        Checks.bookAct("fill 0 0 1 100 0; freshBook 3 2; fill 3 0 1 100 9", "keep 0 3 true", 0);
        Checks.run("fill 0 0 1 100 0; freshBook 3 2; fill 3 0 1 100 9", "keep 0 3 false", 100, "bookText 0", "{}",
                "tellBook 3 0", 100);
        Checks.says("promise 7: KEYs 0 and 99, whatever the WORTHs and ORDERs are");
        Checks.run("freshBook 0 1; fill 0 0 1 100 0; put 1 0 50 0; put 1 99 50 0", "keep 0 1 true", 98, "bookText 0",
                "{99=99, 0=0}");
        Checks.run("freshBook 0 2; fill 0 0 1 100 0; put 1 0 50 0; put 1 99 50 0", "keep 0 1 false", 2,
                "end 0 false false", 10, "end 0 true false", 89);
        Checks.says("promise 7: the other BOOK is not written");
        Checks.run("put 1 1 1 0; startWalk 1; walkNext; put 0 1 5 0; keep 0 1 false", "walkTake", 101);
        Checks.says("promise 7: -9 if book is other");
        for (int place = 0; place < 4; place++) {
            Checks.refused(Setups.SOME, "keep " + place + " " + place + " true");
            Checks.refused(Setups.SOME, "keep " + place + " " + place + " false");
        }
        Checks.says("promise 7: the exception goes ahead of -9");
        Checks.index(Setups.SOME, "keep 4 4 true");
        Checks.index(Setups.SOME, "keep -1 -1 false");
    }

    private static void put() {
        Checks.says("promise 8: the KEY is not there: -1; what 0 and 1 add it, 2 does not");
        Checks.run("", "put 0 0 0 0", -1, "put 0 99 99 1", -1, "bookText 0", "{0=0, 99=99}");
        Checks.bookAct("", "put 0 0 0 2", -1);
        Checks.says("promise 8: the KEY is there: the WORTH it had; what 0 and 2 give the new one, 1 does not");
        Checks.run("put 0 0 99 0", "put 0 0 0 0", 99, "put 0 0 50 2", 0, "put 0 0 7 1", 50, "bookText 0", "{0=50}");
        Checks.bookAct("put 0 0 99 0", "put 0 0 1 1", 99);
        Checks.says("promise 8: the same WORTH again changes nothing");
        Checks.bookAct("put 0 99 99 0", "put 0 99 99 0", 99);
        Checks.bookAct("put 0 99 0 0", "put 0 99 0 2", 0);
        Checks.says("promise 8: a full BOOK");
        Checks.run(ALL_FOUR, "put 3 0 5 1", 0, "put 3 0 5 2", 0, "put 3 99 5 0", 99, "tellBook 3 0", 100);
        Checks.says("promise 8: IndexOutOfBounds goes ahead of IllegalArgument");
        Checks.index(Setups.SOME, "put 4 100 100 3");
        Checks.index(Setups.SOME, "put -1 -1 -1 -1");
        Checks.says("promise 8: what is just outside, even if the KEY would not COME");
        Checks.argument("put 0 5 5 0", "put 0 5 100 1");
        Checks.argument("", "put 0 5 -1 2");
        Checks.argument("", "put 0 5 5 3");
        Checks.argument("", "put 0 5 5 -1");
    }

    private static void exchange() {
        Checks.says("promise 9: the KEY is not there: 0, and nothing changes, even with worth -1");
        Checks.bookAct("", "exchange 0 0 0 0", 0);
        Checks.bookAct("put 0 1 0 0", "exchange 0 0 0 -1", 0);
        Checks.says("promise 9: another WORTH than old: 0, and nothing changes");
        Checks.bookAct("put 0 0 0 0", "exchange 0 0 99 5", 0);
        Checks.bookAct("put 0 0 99 0", "exchange 0 0 0 -1", 0);
        Checks.bookAct("put 0 0 98 0", "exchange 0 0 99 98", 0);
        Checks.says("promise 9: there with old: 1, and another WORTH");
        Checks.run("put 0 0 0 0", "exchange 0 0 0 99", 1, "bookText 0", "{0=99}", "exchange 0 0 99 0", 1, "bookText 0",
                "{0=0}");
        Checks.says("promise 9: there with old: 1, and the same WORTH");
        Checks.bookAct("put 0 99 99 0", "exchange 0 99 99 99", 1);
        Checks.says("promise 9: worth -1: the KEY goes");
        Checks.run("put 0 99 0 0", "exchange 0 99 0 -1", 1, "bookText 0", "{}", "exchange 0 99 0 -1", 0);
        Checks.says("promise 9: IndexOutOfBounds goes ahead of IllegalArgument");
        Checks.index(Setups.SOME, "exchange 4 100 100 100");
        Checks.index(Setups.SOME, "exchange -1 -1 -1 -2");
        Checks.says("promise 9: old -1 is no WORTH, worth -2 and 100 are none");
        Checks.argument("put 0 5 5 0", "exchange 0 6 -1 5");
        Checks.argument("put 0 5 5 0", "exchange 0 5 5 -2");
        Checks.argument("put 0 5 5 0", "exchange 0 5 6 100");
        Checks.argument("put 0 5 5 0", "exchange 0 5 100 5");
        Checks.argument("put 0 5 5 0", "exchange 0 100 5 5");
        Checks.argument("put 0 5 5 0", "exchange 0 -1 5 -1");
    }

    private static void take() {
        Checks.says("promise 10: not there: -1, of an empty, of a not empty BOOK");
        Checks.bookAct("", "take 0 0", -1);
        Checks.bookAct("put 0 98 1 0", "take 0 99", -1);
        Checks.says("promise 10: there: the WORTH it had, 0 and 99, too");
        Checks.run("put 0 0 0 0; put 0 99 99 0", "take 0 0", 0, "take 0 99", 99, "take 0 0", -1, "bookText 0", "{}");
        Checks.says("promise 10: of a full BOOK just that one goes");
        Checks.run(ALL_FOUR, "take 1 0", 50, "take 1 99", 49, "tellBook 1 0", 98, "end 1 false false", 1,
                "end 1 true false", 98);
        Checks.says("promise 10: IndexOutOfBounds goes ahead of IllegalArgument");
        Checks.index(Setups.SOME, "take 4 100");
        Checks.index(Setups.SOME, "take -1 -1");
        Checks.argument(Setups.SOME, "take 3 100");
        Checks.argument(Setups.SOME, "take 0 -1");
    }

    private static void drop() {
        Checks.says("promise 11: of none: -1 for the first and the last one, 0 for all");
        Checks.bookAct("", "drop 0 0", -1);
        Checks.bookAct("", "drop 3 1", -1);
        Checks.bookAct("", "drop 0 2", 0);
        Checks.says("promise 11: of one: it is the first one and the last one");
        Checks.run("put 0 99 0 0", "drop 0 0", 9900, "bookText 0", "{}", "put 0 0 99 0", -1, "drop 0 1", 99,
                "tellBook 0 3", 1);
        Checks.says("promise 11: the PAIR 0 is told as 0, not as none");
        Checks.run("put 0 0 0 0", "drop 0 0", 0, "drop 0 0", -1);
        for (int order = 0; order <= 2; order++) {
            Checks.says("promise 11: of all 100, ORDER " + order);
            Checks.run(Setups.fullBook(order), "drop 0 0", Setups.keyInOrder(order, 0) * 101, "drop 0 1",
                    Setups.keyInOrder(order, 99) * 101,
                    "drop 0 0", Setups.keyInOrder(order, 1) * 101, "drop 0 1", Setups.keyInOrder(order, 98) * 101,
                            "drop 0 2", 96,
                    "drop 0 2", 0);
        }
        Checks.says("promise 11: IndexOutOfBounds goes ahead of IllegalArgument");
        Checks.index(Setups.SOME, "drop 4 3");
        Checks.index(Setups.SOME, "drop -1 -1");
        Checks.argument(Setups.SOME, "drop 0 3");
        Checks.argument(Setups.EMPTY, "drop 3 -1");
    }

    private static void has() {
        Checks.says("promise 12: an empty BOOK has no KEY and no WORTH");
        for (int number : new int[] {0, 99}) {
            Checks.idle("", "has 0 true " + number, false);
            Checks.idle("", "has 0 false " + number, false);
        }
        Checks.says("promise 12: a full BOOK has all KEYs; WORTHs are those that it has");
        for (int number : new int[] {0, 1, 98, 99}) {
            Checks.idle(ALL_FOUR, "has 3 true " + number, true);
            Checks.idle(ALL_FOUR, "has 3 false " + number, true);
            Checks.idle("fill 0 0 1 100 7; fill 0 0 0 1 50", "has 0 false " + number, true);
        }
        Checks.run("fill 0 0 1 100 0; put 0 99 0 0", "has 0 false 99", false, "has 0 true 99", true);
        Checks.says("promise 12: a KEY is no WORTH and a WORTH no KEY");
        Checks.run("put 0 0 99 0", "has 0 true 0", true, "has 0 true 99", false, "has 0 false 99", true,
                "has 0 false 0", false);
        Checks.says("promise 12: the last one of many has it");
        Checks.run("fill 0 0 0 1 1; put 0 99 5 0", "has 0 false 5", true, "has 0 true 99", true, "has 0 false 0",
                false);
        Checks.says("promise 12: IndexOutOfBounds goes ahead of IllegalArgument");
        Checks.index(Setups.SOME, "has 4 true 100");
        Checks.index(Setups.SOME, "has -1 false -1");
        Checks.argument(Setups.SOME, "has 3 true 100");
        Checks.argument(Setups.SOME, "has 0 false 100");
        Checks.argument(Setups.SOME, "has 0 true -1");
        Checks.argument(Setups.SOME, "has 0 false -1");
    }

    private static void nearIs(String setup, int key, int... pairs) {
        for (int what = 0; what < pairs.length; what++) {
            int pair = pairs[what];
            Checks.idle(setup, "near 0 " + key + " " + what + " true", pair);
            Checks.idle(setup, "near 0 " + key + " " + what + " false", pair < 0 ? -1 : pair / 100);
        }
    }

    private static void near() {
        Checks.says("promise 13: of none");
        nearIs("", 0, -1, -1, -1, -1, -1);
        nearIs("", 99, -1, -1, -1, -1, -1);
        for (int order = 0; order <= 2; order++) {
            String setup = "freshBook 0 " + order + "; ";
            int first = Setups.keyInOrder(order, 0);
            int second = Setups.keyInOrder(order, 1);
            int last = Setups.keyInOrder(order, 99);
            Checks.says("promise 13: the first KEY alone is there, ORDER " + order);
            int one = first * 100 + 8;
            String only = setup + "put 0 " + first + " 8 0";
            nearIs(only, first, one, one, -1, -1, one);
            nearIs(only, second, one, -1, one, -1, -1);
            nearIs(only, last, one, -1, one, -1, -1);
            Checks.says("promise 13: the last KEY alone is there, ORDER " + order);
            one = last * 100;
            only = setup + "put 0 " + last + " 0 0";
            nearIs(only, last, one, one, -1, -1, one);
            nearIs(only, Setups.keyInOrder(order, 98), -1, one, -1, one, -1);
            nearIs(only, first, -1, one, -1, one, -1);
            Checks.says("promise 13: all are there, ORDER " + order);
            nearIs(Setups.fullBook(order), first, first * 101, first * 101, -1, second * 101, first * 101);
            nearIs(Setups.fullBook(order), last, last * 101, last * 101, Setups.keyInOrder(order, 98) * 101, -1,
                    last * 101);
        }
        Checks.says("promise 13: IndexOutOfBounds goes ahead of IllegalArgument");
        Checks.index(Setups.SOME, "near 4 100 5 true");
        Checks.index(Setups.SOME, "near -1 -1 -1 false");
        Checks.argument(Setups.SOME, "near 0 100 0 true");
        Checks.argument(Setups.SOME, "near 0 -1 4 false");
        Checks.argument(Setups.SOME, "near 3 0 5 true");
        Checks.argument(Setups.SOME, "near 3 0 -1 false");
    }

    private static void end() {
        Checks.says("promise 14: none: -1 for a PAIR, and no -9 is counted");
        Checks.idle("", "end 0 false true", -1);
        Checks.idle("", "end 3 true true", -1);
        Checks.says("promise 14: none: -9 for a KEY");
        for (int place = 0; place < 4; place++) {
            Checks.refused("", "end " + place + " false false");
            Checks.refused("", "end " + place + " true false");
        }
        Checks.says("promise 14: none any more");
        Checks.refused("put 0 0 0 0; take 0 0", "end 0 false false");
        Checks.says("promise 14: one is the first and the last one; KEY 0 is told as 0");
        for (String isLast : new String[] {"false", "true"}) {
            Checks.idle("put 0 0 0 0", "end 0 " + isLast + " false", 0);
            Checks.idle("put 0 0 0 0", "end 0 " + isLast + " true", 0);
            Checks.idle("put 0 99 99 0", "end 0 " + isLast + " true", 9999);
        }
        for (int order = 0; order <= 2; order++) {
            Checks.says("promise 14: all are there, ORDER " + order);
            Checks.idle(Setups.fullBook(order), "end 0 false false", Setups.keyInOrder(order, 0));
            Checks.idle(Setups.fullBook(order), "end 0 true true", Setups.keyInOrder(order, 99) * 101);
        }
        Checks.says("promise 14: a wrong place goes ahead of -9");
        Checks.index("", "end 4 false false");
        Checks.index("", "end -1 true false");
    }

    private static void keyAt() {
        Checks.says("promise 15: none");
        Checks.idle("", "keyAt 0 0 false", -1);
        Checks.idle("", "keyAt 0 0 true", -1);
        Checks.idle("", "keyAt 0 99 true", -1);
        Checks.says("promise 15: one");
        Checks.run("put 0 0 5 0", "keyAt 0 0 false", 0, "keyAt 0 0 true", 0, "keyAt 0 1 false", -1, "keyAt 0 1 true",
                -1);
        Checks.says("promise 15: as many as there are less one, as many as there are");
        Checks.run("fill 0 0 33 4 0", "keyAt 0 3 false", 99, "keyAt 0 3 true", 0, "keyAt 0 4 false", -1,
                "keyAt 0 4 true", -1, "keyAt 0 99 false", -1, "keyAt 0 99 true", -1);
        for (int order = 0; order <= 2; order++) {
            Checks.says("promise 15: all are there, ORDER " + order);
            Checks.run(Setups.fullBook(order), "keyAt 0 99 false", Setups.keyInOrder(order, 99), "keyAt 0 99 true",
                    Setups.keyInOrder(order, 0),
                    "keyAt 0 98 true", Setups.keyInOrder(order, 1), "drop 0 1", Setups.keyInOrder(order, 99) * 101,
                    "keyAt 0 99 false", -1, "keyAt 0 99 true", -1, "keyAt 0 98 true", Setups.keyInOrder(order, 0));
        }
        Checks.says("promise 15: IndexOutOfBounds goes ahead of IllegalArgument");
        Checks.index(Setups.SOME, "keyAt 4 100 true");
        Checks.index(Setups.SOME, "keyAt -1 -1 false");
        Checks.argument(Setups.FULL, "keyAt 0 100 false");
        Checks.argument(Setups.FULL, "keyAt 0 -1 true");
    }

    private static void tellBook() {
        Checks.says("promise 16: an empty, a full BOOK, and one of one PAIR");
        Checks.run("freshBook 0 2", "tellBook 0 0", 0, "tellBook 0 1", 2, "tellBook 0 2", 0, "tellBook 0 3", 1);
        Checks.run("fill 3 0 1 100 0", "tellBook 3 0", 100, "tellBook 3 1", 0, "tellBook 3 2", 0, "tellBook 3 3", 0);
        Checks.run("freshBook 1 1; put 1 99 64 0", "tellBook 1 0", 1, "tellBook 1 1", 1, "tellBook 1 2", 35,
                "tellBook 1 3", 0);
        Checks.says("promise 16: emptied again");
        Checks.run("put 0 0 0 0; drop 0 1", "tellBook 0 0", 0, "tellBook 0 3", 1);
        Checks.says("promise 16: IndexOutOfBounds goes ahead of IllegalArgument");
        Checks.index(Setups.SOME, "tellBook 4 4");
        Checks.index(Setups.SOME, "tellBook -1 -1");
        Checks.argument(Setups.SOME, "tellBook 0 4");
        Checks.argument(Setups.SOME, "tellBook 0 -1");
    }

    private static void bookText() {
        Checks.says("promise 17: none, one and two PAIRs");
        Checks.idle("", "bookText 0", "{}");
        Checks.idle("put 3 0 0 0", "bookText 3", "{0=0}");
        Checks.idle("put 3 99 99 0", "bookText 3", "{99=99}");
        Checks.idle("freshBook 3 1; put 3 99 99 0; put 3 0 0 0", "bookText 3", "{99=99, 0=0}");
        for (int order = 0; order <= 2; order++) {
            Checks.says("promise 17: all 100, ORDER " + order);
            StringBuilder all = new StringBuilder("{");
            for (int ahead = 0; ahead < 100; ahead++) {
                int key = Setups.keyInOrder(order, ahead);
                all.append(ahead == 0 ? "" : ", ").append(key).append("=").append(key);
            }
            Checks.idle(Setups.fullBook(order), "bookText 0", all.append("}").toString());
        }
        Checks.says("promise 17: no such place");
        Checks.index(Setups.SOME, "bookText 4");
        Checks.index(Setups.SOME, "bookText -1");
    }

    private static void sameBooks() {
        Checks.says("promise 18: a BOOK and itself, empty and full");
        Checks.idle("", "sameBooks 3 3", true);
        Checks.idle(ALL_FOUR, "sameBooks 0 0", true);
        Checks.says("promise 18: two empty, two full ones, whatever their ORDERs are");
        Checks.idle("freshBook 3 2", "sameBooks 0 3", true);
        Checks.idle(ALL_FOUR, "sameBooks 0 2", true);
        Checks.idle(ALL_FOUR, "sameBooks 3 2", true);
        Checks.says("promise 18: an empty and another one");
        Checks.idle("put 0 0 0 0", "sameBooks 0 3", false);
        Checks.idle("put 0 0 0 0", "sameBooks 3 0", false);
        Checks.says("promise 18: one WORTH differs, at the first and at the last KEY");
        Checks.idle(ALL_FOUR, "sameBooks 0 1", false);
        Checks.idle(ALL_FOUR + "; put 3 0 1 0", "sameBooks 0 3", false);
        Checks.idle(ALL_FOUR + "; put 3 99 0 0", "sameBooks 0 3", false);
        Checks.says("promise 18: one KEY is missing, at the first and at the last KEY");
        Checks.idle(ALL_FOUR + "; take 3 0", "sameBooks 0 3", false);
        Checks.idle(ALL_FOUR + "; take 3 99", "sameBooks 3 0", false);
        Checks.says("promise 18: as many PAIRs with other KEYs; the same KEY and WORTH exchanged");
        Checks.idle("put 0 0 5 0; put 1 1 5 0", "sameBooks 0 1", false);
        Checks.idle("put 0 5 6 0; put 1 6 5 0", "sameBooks 0 1", false);
        Checks.says("promise 18: no such place");
        Checks.index(Setups.SOME, "sameBooks 4 4");
        Checks.index(Setups.SOME, "sameBooks 0 -1");
        Checks.index(Setups.SOME, "sameBooks -1 0");
        Checks.index(Setups.SOME, "sameBooks 0 4");
    }
}
