import java.util.function.Supplier;
import java.util.function.ToIntFunction;

/** What the Terms say of refusals of every call: which of several is answered, and that nothing is changed. */
final class RefusedEdges {
    private static final int BAD = ThatchCoats.BAD, NOT = ThatchCoats.NOT, FULL = ThatchCoats.FULL,
        NONE = ThatchCoats.NONE, NULL = ThatchCoats.NULL, CAST = ThatchCoats.CAST, INDEX = ThatchCoats.INDEX,
        SIZE = ThatchCoats.SIZE;

    private final Edges e;
    private Supplier<ThatchCoats> made = ThatchCoats::new;

    RefusedEdges(Edges e) {
        this.e = e;
    }

    void run() {
        firstNamed();
        changesNothing();
        ofAFullHouse();
        ofAnEmptyHouse();
        butAsTold();
    }

    private void refused(String call, int want, ToIntFunction<ThatchCoats> asked) {
        e.unchanged(call, made, asked, want);
    }

    /** Ten coats, eight rains, an image, eight that may be undone, three letters, rows and a sheet of nothing. */
    private static ThatchCoats full() {
        ThatchCoats x = Check.told("30+1+2+3+4+5+6+7+40;r1,w2,s3,y4,t5,r6,w7,s8,y9,t9");
        x.seed(77);
        x.pull(9, 2);
        x.sheet(0, 0, 3);
        x.sheet(1, 1, 24);
        x.sheet(2, 2, 0);
        x.item(0, 0, 1, 6);
        x.item(1, 1, 23, 7);
        x.image();
        for (int i = 0; i < 8; i++) {
            x.pull(8 - i, 1);
        }
        x.walls(12);
        Check.type(x, "9;r");
        return x;
    }

    private void firstNamed() {
        e.terms("Answers below 0, of several the first that a call names:");
        made = RefusedEdges::full;
        refused("rain: BAD, FULL", BAD, x -> x.rain(41));
        refused("lay: BAD, FULL, NOT", BAD, x -> x.lay(5, 20));
        refused("lay: BAD, FULL, NOT", BAD, x -> x.lay(0, 21));
        refused("lay: FULL, NOT", FULL, x -> x.lay(0, 20));
        refused("pull: BAD, NOT", BAD, x -> x.pull(0, 21));
        refused("pull: BAD, NOT", BAD, x -> x.pull(0, 0));
        refused("cover: BAD, FULL", BAD, x -> x.cover(0, 21));
        refused("cover: BAD, FULL", BAD, x -> x.cover(-1, 20));
        made = ThatchCoats::new;
        refused("strip: BAD, NOT", BAD, x -> x.strip(11));
        refused("strip: NOT", NOT, x -> x.strip(10));
        made = () -> ToldEdges.typed(" ".repeat(90));
        refused("type: BAD, FULL", BAD, x -> x.type(31));
        refused("type: FULL", FULL, x -> x.type(32));
        made = () -> DoneEdges.inYear(9999);
        refused("years: BAD, FULL", BAD, x -> x.years(41));
        refused("years: FULL", FULL, x -> x.years(40));
        refused("drift: BAD, FULL", BAD, x -> x.drift(0));
        refused("drift: FULL", FULL, x -> x.drift(1));
        // a choice: BAD goes ahead of NONE, also where the line names NONE ahead of BAD
        made = ThatchCoats::new;
        refused("relief: BAD, NONE", BAD, x -> x.relief(0, 0));
        refused("share: BAD, NONE", BAD, x -> x.share(7, 1, 0));
        refused("worst: BAD, NONE", BAD, x -> x.worst(2));
        refused("hot: BAD, NONE", BAD, x -> x.hot(1));
        made = () -> Check.told("9+40");
        refused("cover: BAD, NONE", BAD, x -> x.cover(0, 21));
    }

    private void changesNothing() {
        e.terms("What is refused changes nothing, but as told.");
        made = RefusedEdges::full;
        refused("walls(0)", BAD, x -> x.walls(0));
        refused("walls(201)", BAD, x -> x.walls(201));
        refused("rain(-1)", BAD, x -> x.rain(-1));
        refused("rain(40)", FULL, x -> x.rain(40));
        refused("of(10, 0)", BAD, x -> x.of(10, 0));
        refused("rains(41)", BAD, x -> x.rains(41));
        refused("type(31)", BAD, x -> x.type(31));
        refused("type(127)", BAD, x -> x.type(127));
        refused("count(9)", BAD, x -> x.count(9));
        refused("years(0)", BAD, x -> x.years(0));
        refused("years(41)", BAD, x -> x.years(41));
        refused("lay(5, 1)", BAD, x -> x.lay(5, 1));
        refused("lay(4, 1)", FULL, x -> x.lay(4, 1));
        refused("strip(11)", BAD, x -> x.strip(11));
        refused("pull(10, 1)", BAD, x -> x.pull(10, 1));
        refused("pull(0, 1)", NOT, x -> x.pull(0, 1));
        refused("fire(1000)", BAD, x -> x.fire(1000));
        refused("drift(41)", BAD, x -> x.drift(41));
        refused("seed(-1)", BAD, x -> x.seed(-1));
        made = () -> Check.told("10;r5~9");
        refused("lay(0, 7)", NOT, x -> x.lay(0, 7));
        refused("strip(2)", NOT, x -> x.strip(2));
    }

    private void ofAFullHouse() {
        e.terms("What is refused changes nothing, but as told.");
        made = RefusedEdges::full;
        refused("ahead(41, 0)", BAD, x -> x.ahead(41, 0));
        refused("reach(100)", BAD, x -> x.reach(100));
        refused("cover(0, 1)", FULL, x -> x.cover(0, 1));
        refused("relief(1, 0)", NONE, x -> x.relief(1, 0));
        refused("share(1, 1, 10)", NONE, x -> x.share(1, 1, 10));
        refused("share(1, 1, -3)", BAD, x -> x.share(1, 1, -3));
        refused("worst(2)", BAD, x -> x.worst(2));
        refused("hot(11)", BAD, x -> x.hot(11));
        refused("bursts(7, 0, 0)", BAD, x -> x.bursts(7, 0, 0));
        refused("stains(10, ..)", BAD, x -> x.stains(10, 0, 0, 0, 1, 0));
        refused("stains of nothing", NULL, x -> x.stains(0, 3, 0, 0, 1, 0));
        refused("stains of another lane", CAST, x -> x.stains(0, 0, 1, 0, 1, 0));
        refused("stains beyond the end", INDEX, x -> x.stains(0, 0, 0, 2, 2, 0));
        refused("film(25, ..)", BAD, x -> x.film(25, 1, 1, 0));
        refused("film of nothing", NULL, x -> x.film(1, 3, 0, 0));
        refused("film of another lane", CAST, x -> x.film(1, 0, 1, 0));
        refused("film beyond the end", INDEX, x -> x.film(3, 0, 0, 1));
        refused("film beyond the end", INDEX, x -> x.film(24, 1, 1, 1));
        refused("sheet(0, 0, 25)", BAD, x -> x.sheet(0, 0, 25));
        refused("sheet(0, 0, -1)", SIZE, x -> x.sheet(0, 0, -1));
        refused("drop(4)", BAD, x -> x.drop(4));
        refused("drop(3)", NULL, x -> x.drop(3));
        refused("item(4, ..)", BAD, x -> x.item(4, 0, 0, 9));
        refused("item of nothing", NULL, x -> x.item(3, 0, 0, 9));
        refused("item of another lane", CAST, x -> x.item(0, 1, 0, 9));
        refused("item beyond the end", INDEX, x -> x.item(0, 0, 3, 9));
        refused("copy(4, ..)", BAD, x -> x.copy(4, 0, 0, 0, 1));
        refused("copy to nothing", NULL, x -> x.copy(0, 0, 3, 0, 1));
        refused("copy of unlike lanes", CAST, x -> x.copy(0, 0, 1, 0, 1));
        refused("copy beyond the end", INDEX, x -> x.copy(0, 0, 0, 1, 3));
    }

    private void ofAnEmptyHouse() {
        e.terms("What is refused changes nothing, but as told.");
        made = ThatchCoats::new;
        refused("undo()", NONE, ThatchCoats::undo);
        refused("restore()", NONE, ThatchCoats::restore);
        refused("leak()", NONE, ThatchCoats::leak);
        refused("relief(1, 0)", NONE, x -> x.relief(1, 0));
        refused("share(6, 20, 0)", NONE, x -> x.share(6, 20, 0));
        refused("worst(0)", NONE, x -> x.worst(0));
        refused("hot(1)", BAD, x -> x.hot(1));
        refused("strip(1)", NOT, x -> x.strip(1));
        refused("pull(0, 1)", BAD, x -> x.pull(0, 1));
    }

    private void butAsTold() {
        e.terms("but as told.");
        ThatchCoats x = full();
        String before = Seen.house(x);
        e.due("roof(): a FAULT", x.roof(), -23);
        e.due("type: it leaves the tape empty", x.type('5'), 1);
        e.same("all else stays", Seen.house(x), before);
    }
}
