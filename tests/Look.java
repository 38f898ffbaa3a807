/**
 * All that can be seen of an object through its face, as a text: its SHELVES, what there is, and
 * what there is when THE IMAGE is RESTORED. To look spoils the object; each look takes some 350 calls.
 */
final class Look {

  private final MastWind x;
  private final StringBuilder seen = new StringBuilder();

  private Look(MastWind x) {
    this.x = x;
  }

  static String of(MastWind x) {
    Look look = new Look(x);
    look.shelves();
    look.all();
    look.see("restore", x.restore());
    look.all();
    return look.seen.toString();
  }

  private void see(String what, long answer) {
    seen.append(what).append(' ').append(answer).append('\n');
  }

  private void shelves() {
    for (int d = 0; d < 8; d++) {
      int heft = x.heft(d);
      see("heft " + d, heft);
      if (heft == -12) {
        row(d);
      } else if (heft >= 0) {
        see("toss " + d, x.toss(d));
      }
    }
  }

  private void row(int d) {
    int sort = 0;
    int size = 0;
    boolean there = true;
    while (there) {
      int at = size;
      there = Due.thrown(() -> x.element(d, at)) == 0;
      if (there) {
        see("element " + d + " " + at, x.element(d, at));
        size++;
      }
    }
    see("size " + d, size);
    // Of what SORT it is, what is put in tells.
    if (size > 0) {
      x.put(d, 0, 70000);
      sort = x.element(d, 0) == 70000 ? 2 : x.element(d, 0) == 4464 ? 1 : 0;
    }
    see("sort " + d, sort);
  }

  private void all() {
    for (int what = 0; what <= 9; what++) {
      see("told " + what, x.told(what));
    }
    stands();
    pieces();
    ropes();
    see("falls", x.falls());
    see("uneven", x.uneven());
    see("gusts 0", x.gusts(0));
    see("gusts 1", x.gusts(1));
    see("count 100", x.count(100));
    rulesAndOffers();
    for (int i = 0; i < 5; i++) {
      see("share " + i, x.share(i, 0));
    }
    see("wind", x.wind(0, 1));
  }

  private void stands() {
    for (int l = -300; l <= 300; l += 150) {
      see("rest " + l, x.rest(l));
    }
    see("stand", x.stand());
    see("stands", x.stands(-1));
    see("loose", x.loose());
  }

  private void pieces() {
    int many = Math.min(x.told(0), 3);
    for (int i = 0; i < many; i++) {
      for (int what = 0; what <= 7; what++) {
        see("piece " + i + " " + what, x.piece(i, what));
      }
      see("push " + i, x.push(i));
      see("breach at 5 " + i, x.breach(i, 5));
      see("breach at 6 " + i, x.breach(i, 6));
    }
    for (int i = 0; i < many; i++) {
      int odds = x.odds(i, 0);
      see("odds " + i, odds);
      x.odds(i, odds);
    }
  }

  private void ropes() {
    int many = Math.min(x.told(1), 3);
    for (int r = 0; r < many; r++) {
      for (int what = 0; what <= 6; what++) {
        see("rope " + r + " " + what, x.rope(r, what));
      }
      see("pull " + r, x.pull(r));
    }
  }

  private void rulesAndOffers() {
    for (int k = 0; k < Math.min(x.told(6), 3); k++) {
      see("tell " + k, x.tell(k, true));
    }
    x.row(7, 0, 1);
    x.put(7, 0, 20);
    for (int mark = 0; mark <= 8; mark += 2) {
      see("cheapest " + mark, x.cheapest(7, mark, 1));
    }
    see("cheapest price", x.cheapest(7, 300, 0));
  }
}
