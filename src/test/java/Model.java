import java.util.ArrayList;
import java.util.List;

/**
 * The document once more, word by word and with no care for speed: it looks through all calls
 * for whatever it wants to know. ModelTest holds the class against it.
 */
final class Model {
    static final int QUEUED = 0, WORKING = 1, ASKING = 2, DONE = 3, FAILED = 4, LATE = 5, DROPPED = 6, CANCELLED = 7;

    static final class Site {
        int work = 1;
        int each = 0;
        int worksSinceTold = 0;
        int workers = 2;
        int room = 4;
        int patience = 0;
        int tokens = 20;
        int inARow = 0;
        int openBefore = 0;
        List<Integer> row = new ArrayList<>();
        List<Integer> queue = new ArrayList<>();
    }

    static final class Item {
        int site;
        int parent;
        int deadline;
        int madeAt;
        int placeOfParent;
        int state = -1;
        int readyAt;
        int overAt = -1;
        List<Integer> rowThen = new ArrayList<>();
        int place;
        boolean wants;
        int again;
    }

    final Site[] sites = {new Site(), new Site(), new Site(), new Site(), new Site(), new Site()};
    final List<Item> items = new ArrayList<>();
    int time = 0;

    private static void index(boolean right) {
        if (!right) {
            throw new IndexOutOfBoundsException();
        }
    }

    private static void argument(boolean right) {
        if (!right) {
            throw new IllegalArgumentException();
        }
    }

    private static void allowed(boolean right) {
        if (!right) {
            throw new IllegalStateException();
        }
    }

    private static boolean within(int value, int least, int most) {
        return value >= least && value <= most;
    }

    int setWork(int service, int work, int each) {
        index(within(service, 0, 5));
        argument(within(work, 1, 20) && within(each, 0, 20));
        int before = sites[service].work;
        sites[service].work = work;
        sites[service].each = each;
        sites[service].worksSinceTold = 0;
        return before;
    }

    int ask(int service, int other) {
        index(within(service, 0, 5) && within(other, 0, 5));
        argument(other > service);
        allowed(sites[service].row.size() < 3);
        sites[service].row.add(other);
        return sites[service].row.size();
    }

    int setRoom(int service, int workers, int room, int patience) {
        index(within(service, 0, 5));
        argument(within(workers, 1, 5) && within(room, 0, 8) && within(patience, 0, 50));
        int before = sites[service].workers;
        sites[service].workers = workers;
        sites[service].room = room;
        sites[service].patience = patience;
        return before;
    }

    int call(int service, int ticks) {
        index(within(service, 0, 5));
        argument(within(ticks, 1, 100));
        allowed(items.size() < 200);
        make(service, -1, time + ticks);
        return items.size() - 1;
    }

    int cancel(int call) {
        index(within(call, 0, items.size() - 1));
        allowed(!over(call) && items.get(call).parent < 0);
        int before = countAll(CANCELLED);
        end(call, CANCELLED);
        return countAll(CANCELLED) - before;
    }

    int pass(int ticks) {
        argument(within(ticks, 1, 100));
        int before = rootsOver();
        for (int i = 0; i < ticks; i++) {
            tick();
        }
        return rootsOver() - before;
    }

    int state(int call) {
        index(within(call, 0, items.size() - 1));
        return items.get(call).state;
    }

    int origin(int call) {
        index(within(call, 0, items.size() - 1));
        return items.get(call).site * 1000 + items.get(call).parent + 1;
    }

    int deadline(int call) {
        index(within(call, 0, items.size() - 1));
        return items.get(call).deadline;
    }

    int overAt(int call) {
        index(within(call, 0, items.size() - 1));
        return items.get(call).overAt;
    }

    int place(int call) {
        index(within(call, 0, items.size() - 1));
        return items.get(call).state == ASKING ? items.get(call).place : -1;
    }

    int below(int call) {
        index(within(call, 0, items.size() - 1));
        int open = 0;
        for (int child : childrenOf(call)) {
            open += (over(child) ? 0 : 1) + below(child);
        }
        return open;
    }

    int queuedAt(int service, int place) {
        index(within(service, 0, 5));
        index(within(place, 0, sites[service].queue.size() - 1));
        return sites[service].queue.get(place);
    }

    int count(int service, int state) {
        index(within(service, 0, 5));
        argument(within(state, 0, 7));
        int found = 0;
        for (Item item : items) {
            found += item.site == service && item.state == state ? 1 : 0;
        }
        return found;
    }

    int tokens(int service) {
        index(within(service, 0, 5));
        return sites[service].tokens;
    }

    boolean isOpen(int service) {
        index(within(service, 0, 5));
        return time < sites[service].openBefore;
    }

    private int countAll(int state) {
        int found = 0;
        for (Item item : items) {
            found += item.state == state ? 1 : 0;
        }
        return found;
    }

    private int rootsOver() {
        int found = 0;
        for (Item item : items) {
            found += item.parent < 0 && item.state >= DONE ? 1 : 0;
        }
        return found;
    }

    private boolean over(int call) {
        return items.get(call).state >= DONE;
    }

    private List<Integer> childrenOf(int call) {
        List<Integer> found = new ArrayList<>();
        for (int i = 0; i < items.size(); i++) {
            if (items.get(i).parent == call) {
                found.add(i);
            }
        }
        return found;
    }

    private List<Integer> triesOf(int call) {
        List<Integer> found = childrenOf(call);
        found.removeIf(i -> items.get(i).placeOfParent != items.get(call).place);
        return found;
    }

    private void make(int service, int parent, int deadline) {
        Item item = new Item();
        item.site = service;
        item.parent = parent;
        item.deadline = deadline;
        item.madeAt = time;
        item.placeOfParent = parent < 0 ? -1 : items.get(parent).place;
        items.add(item);
        int call = items.size() - 1;
        Site site = sites[service];
        if (isOpen(service)) {
            end(call, FAILED);
        } else if (deadline - time < site.work) {
            end(call, DROPPED);
        } else if (count(service, WORKING) < site.workers) {
            work(call);
        } else if (site.queue.size() < site.room) {
            item.state = QUEUED;
            site.queue.add(call);
        } else {
            end(call, DROPPED);
        }
    }

    private void work(int call) {
        items.get(call).state = WORKING;
        items.get(call).readyAt = time + sites[items.get(call).site].work;
    }

    private void end(int call, int state) {
        Item item = items.get(call);
        Site site = sites[item.site];
        site.queue.remove((Integer) call);
        item.state = state;
        item.overAt = time;
        if (state == DONE) {
            site.tokens = site.tokens == 50 ? 50 : site.tokens + 1;
            site.inARow = 0;
        }
        for (int child : childrenOf(call)) {
            if (!over(child)) {
                end(child, CANCELLED);
            }
        }
    }

    private void trouble(int service) {
        Site site = sites[service];
        site.inARow++;
        if (site.inARow == 3) {
            site.inARow = 0;
            site.openBefore = time + 20;
        }
    }

    private void tick() {
        time++;
        for (int i = 0; i < items.size(); i++) {
            if (!over(i) && items.get(i).deadline <= time) {
                end(i, LATE);
                trouble(items.get(i).site);
            }
        }
        for (int i = 0; i < items.size(); i++) {
            if (items.get(i).state == WORKING && items.get(i).readyAt <= time) {
                ready(i);
            }
        }
        for (int i = items.size() - 1; i >= 0; i--) {
            if (items.get(i).state == ASKING && !items.get(i).wants) {
                judge(i);
            }
        }
        tries();
        for (Site site : sites) {
            while (!site.queue.isEmpty() && workingOf(site) < site.workers) {
                int call = site.queue.remove(0);
                if (items.get(call).deadline - time < site.work) {
                    end(call, DROPPED);
                } else {
                    work(call);
                }
            }
        }
    }

    private int workingOf(Site site) {
        int found = 0;
        for (Item item : items) {
            found += sites[item.site] == site && item.state == WORKING ? 1 : 0;
        }
        return found;
    }

    private void ready(int call) {
        Item item = items.get(call);
        Site site = sites[item.site];
        site.worksSinceTold++;
        if (site.each != 0 && site.worksSinceTold % site.each == 0) {
            end(call, FAILED);
            trouble(item.site);
        } else if (site.row.isEmpty()) {
            end(call, DONE);
        } else {
            item.state = ASKING;
            item.rowThen = new ArrayList<>(site.row);
            item.place = 0;
            item.wants = true;
        }
    }

    private void judge(int call) {
        Item item = items.get(call);
        Site asked = sites[item.rowThen.get(item.place)];
        List<Integer> tries = triesOf(call);
        boolean done = tries.stream().anyMatch(i -> items.get(i).state == DONE);
        boolean allOver = tries.stream().allMatch(this::over);
        if (done) {
            for (int i : tries) {
                if (!over(i)) {
                    end(i, CANCELLED);
                }
            }
            item.place++;
            item.again = 0;
            if (item.place == item.rowThen.size()) {
                end(call, DONE);
            } else {
                item.wants = true;
            }
        } else if (allOver) {
            if (item.again < 2 && asked.tokens >= 10) {
                asked.tokens -= 10;
                item.again++;
                item.wants = true;
            } else {
                end(call, FAILED);
            }
        } else if (tries.size() == 1 && asked.patience > 0 && time - items.get(tries.get(0)).madeAt >= asked.patience) {
            item.wants = true;
        }
    }

    private void tries() {
        List<Integer> wanting = new ArrayList<>();
        for (int i = 0; i < items.size(); i++) {
            if (items.get(i).state == ASKING && items.get(i).wants) {
                wanting.add(i);
            }
        }
        for (int i : wanting) {
            Item item = items.get(i);
            if (over(i)) {
                continue;
            }
            item.wants = false;
            if (items.size() == 200) {
                end(i, FAILED);
            } else {
                make(item.rowThen.get(item.place), i, item.deadline - 1);
            }
        }
    }
}
